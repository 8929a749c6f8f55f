/-! constructors: the world grows -/
theorem ap_at {α : Type} {S0 l : List α} {n : Nat} (hn : S0.length = n) (i : Nat) : (S0 ++ l)[n + i]? = l[i]? := by
  subst hn
  rw [List.getElem?_append_right (Nat.le_add_right _ _), Nat.add_sub_cancel_left]
theorem ap_set {α : Type} {S0 l : List α} {n : Nat} (hn : S0.length = n) (i : Nat) (x : α) : (S0 ++ l).set (n + i) x = S0 ++ l.set i x := by
  subst hn
  rw [List.set_append_right _ _ (Nat.le_add_right _ _), Nat.add_sub_cancel_left]
theorem m_up_ne {M : Mm} {k i a : Nat} {x : Int32} (h : a ≠ k) : m_up M k i x a = M a := by
  unfold m_up
  rw [if_neg h]
theorem m_up_at {M : Mm} {k i : Nat} {x : Int32} : m_up M k i x k = upd (M k) i x := by
  unfold m_up
  rw [if_pos rfl]
theorem fx_W_app {G : fx_G} {S : List fx_S} {M : Mm} {sh : fx_S} : fx_W G (S ++ [sh]) M = fx_W G S M ++ [(G.2.2.2 + S.length, fx_e G (M S.length) sh)] := by
  unfold fx_W
  rw [List.mapIdx_append]
  simp [List.mapIdx_cons]
theorem fx_W_len {G : fx_G} {S : List fx_S} {M : Mm} : (fx_W G S M).length = S.length := by
  unfold fx_W
  exact List.length_mapIdx
theorem fx_set_sh {G : fx_G} {S : List fx_S} {M : Mm} {k : Nat} {sh : fx_S} (h : k < S.length) : (fx_W G S M).set k (G.2.2.2 + k, fx_e G (M k) sh) = fx_W G (S.set k sh) M := by
  apply List.ext_getElem?
  intro i
  rw [List.getElem?_set]
  unfold fx_W
  simp only [List.getElem?_mapIdx, List.length_mapIdx]
  rw [List.getElem?_set]
  by_cases hi : k = i
  · subst hi
    rw [if_pos rfl, if_pos h, if_pos rfl, if_pos h]
    rfl
  · rw [if_neg hi, if_neg hi]
theorem fx_fs_setR {z : Nat} {row : Nat → Int32} {fs : List Nat} {j r : Nat} : (fx_fs z row fs).set j (.ref (z + r)) = fx_fs z row (fs.set j (r + 2)) := by
  apply List.ext_getElem?
  intro i
  rw [List.getElem?_set]
  unfold fx_fs
  simp only [List.getElem?_mapIdx, List.length_mapIdx]
  rw [List.getElem?_set]
  by_cases hi : j = i
  · subst hi
    by_cases hl : j < fs.length
    · rw [if_pos rfl, if_pos hl, if_pos rfl, if_pos hl]
      rfl
    · rw [if_pos rfl, if_neg hl, if_pos rfl, if_neg hl]
      rfl
  · rw [if_neg hi, if_neg hi]
/-- a constructor's start -/
def cx_P (G : fx_G) (S : List fx_S) (M : Mm) (U : State) : Prop := fx_P G S M U ∧ U.heap.size = G.2.2.2 + S.length ∧ va_AO RX6 U
def cx_R (G : fx_G) (u : List fx_S × Mm) (t : State) : Prop := va_P G.1 fx_cl (fx_W G u.1 u.2) t.heap
theorem cx_blind {G : fx_G} {S : List fx_S} {M : Mm} {av : List Value} : FrameBlind (va_Pc av (cx_P G S M)) := fun a U g mk h => ⟨h.1, ⟨h.2.1.1, h.2.1.2.1.blind, h.2.1.2.2.blind⟩, h.2.2.1, va_AO.moved (u := U) (U := U.calling g mk a) (Vm.Alike.refl U.vm) h.2.2.2⟩
def cx_rm (d mc ms : Nat) : Room := { frames := d, cells := mc, slots := ms, locals := 64 * d }
section CX
variable {p : Program} {l : Launch} {e : Env} {R : Room} {s : State} {m : MethodId} {args : Array Value} {below : List Frame} {meth : Method} {c : Code} {H : Heap} {locs : List Loc} {cells slots : Nat} {Q : State → Prop}
variable {cc : ByteArray} {pc nL : Nat} {ls : Array Slot} {rest : List Value} {G : fx_G} {S : List fx_S} {M : Mm} {own : String}
theorem cx_le {g : JFrame} (k : H.size ≤ s.heap.size + cells → W p l e R s m args below meth c H locs cells slots Q g) : W p l e R s m args below meth c H locs cells slots Q g :=
  fun T hT X => k (by rw [← hT]; exact X.same.2.2.1) T hT X
theorem cx_ge (h : fx_H G S M s H locs) (hz : G.2.2.2 ≤ s.heap.size) : G.2.2.2 + S.length ≤ H.size := by
  cases hl : S.length with
  | zero => exact Nat.le_trans hz h.2.1
  | succ n =>
    have hn : n < S.length := by omega
    have h1 := (h.1 n _ (fx_at (List.getElem?_eq_getElem hn))).lt
    dsimp only at h1
    omega
/-- how large the heap is -/
theorem cx_sz {g : JFrame} (h : fx_H G S M s H locs) (hz : G.2.2.2 ≤ s.heap.size) (hc : s.heap.size + cells = G.2.2.2 + S.length) (k : H.size = G.2.2.2 + S.length → W p l e R s m args below meth c H locs cells slots Q g) : W p l e R s m args below meth c H locs cells slots Q g :=
  cx_le fun q => k (Nat.le_antisymm (by omega) (cx_ge h hz))
theorem cx_q {ws : va_W} {q : Nat} {x : va_E} {H1 : Heap} (hws : ws = fx_W G S M) (hP : va_P G.1 fx_cl (ws ++ [(q, x)]) H1) (hD : va_D (fx_A G) (ws ++ [(q, x)])) (hle : H1.size ≤ G.2.2.2 + S.length + 1) : q = G.2.2.2 + S.length := by
  subst hws
  have hlast : (fx_W G S M ++ [(q, x)])[S.length]? = some (q, x) := by
    rw [List.getElem?_append_right (by rw [fx_W_len]; exact Nat.le_refl _), fx_W_len, Nat.sub_self]
    rfl
  have h1 := (hP _ _ hlast).lt
  have h2 : G.2.2.2 ≤ q := hD.2 _ _ hlast
  dsimp only at h1
  by_cases hq : q < G.2.2.2 + S.length
  · have hk : q - G.2.2.2 < S.length := by omega
    have h3 : (fx_W G S M ++ [(q, x)])[q - G.2.2.2]? = some (G.2.2.2 + (q - G.2.2.2), fx_e G (M (q - G.2.2.2)) S[q - G.2.2.2]) := by
      rw [List.getElem?_append_left (by rw [fx_W_len]; exact hk)]
      exact fx_at (List.getElem?_eq_getElem hk)
    have h4 := hD.1 _ _ _ _ h3 hlast (by show G.2.2.2 + (q - G.2.2.2) = q; omega)
    omega
  · omega
/-- new -/
theorem cx_new (X : fx_C G p s m c args cc nL own) (h : fx_H G S M s H locs) (hz : G.2.2.2 ≤ s.heap.size) (hc : s.heap.size + cells = G.2.2.2 + S.length) (hM : M S.length = fun _ => 0) {C : String} {T : u_T} {N ci idx : Nat} {ty : Nat → FieldType} {fsN : List Nat} (hin : ∀ w ∈ u_ws C T N, w ∈ fx_all) (hty : ∀ k, k < N → parseFieldDescriptor (T k).2.2.1 = some (ty k)) (hcl : Cond.classLink own idx C ∈ fx_all) (hinst : Cond.instantiable C N ∈ fx_all) (hini : Cond.initialized C ∈ fx_all) (hci : fx_cl[ci]? = some (C, T, N)) (hfs : ∀ j, j < N → defaultValue (ty j) = vp_V (fx_fs G.2.2.2 (fun _ => 0) fsN) j) (hcells : cells + 1 ≤ R.cells) (hslots : slots + N ≤ R.slots) (hdg : decode cc pc = .ok (.new idx, 3))
    (kk : ∀ H1 : Heap, fx_H G (S ++ [.inr (.inr (ci, fsN))]) M s H1 locs → W p l e R s m args below meth c H1 locs (cells + 1) (slots + N) Q (F0 m (pc + 3) ls (.ref (G.2.2.2 + S.length) :: rest))) : W p l e R s m args below meth c H locs cells slots Q (F0 m pc ls rest) := by
  obtain ⟨⟨hx, hb, -, hown, hts⟩, ⟨hK, -⟩, -⟩ := X
  refine va_new (A := fx_A G) hx hb hts hin ty hty hown (hts _ hcl) (hts _ hinst) (hts _ hini) hK h.1 fx_D h.2 (fun q hq => Nat.le_trans hz hq) hci hfs hcells hslots hdg fun q H1 hP hD hS => ?_
  refine cx_le fun hle => ?_
  have hq := cx_q rfl hP hD (by omega)
  subst hq
  refine kk H1 ⟨?_, hS⟩
  rw [fx_W_app, hM]
  exact hP
/-- a new row of ints -/
theorem cx_newa (X : fx_C G p s m c args cc nL own) (h : fx_H G S M s H locs) (hz : G.2.2.2 ≤ s.heap.size) (hc : s.heap.size + cells = G.2.2.2 + S.length) (hM : M S.length = fun _ => 0) (harr : Cond.arrayClass .int ∈ fx_all) {n : Int32} {N : Nat} (hn : ¬ n < 0) (hN : n.toNatClampNeg = N) (hbytes : N * 4 ≤ 536870912) (hcells : cells + 1 ≤ R.cells) (hslots : slots + N ≤ R.slots) (hdg : decode cc pc = .ok (.newarray .int, 2))
    (kk : ∀ H1 : Heap, fx_H G (S ++ [.inl N]) M s H1 locs → W p l e R s m args below meth c H1 locs (cells + 1) (slots + N) Q (F0 m (pc + 2) ls (.ref (G.2.2.2 + S.length) :: rest))) : W p l e R s m args below meth c H locs cells slots Q (F0 m pc ls (.int n :: rest)) := by
  obtain ⟨⟨hx, hb, -, hown, hts⟩, ⟨hK, -⟩, -⟩ := X
  refine va_newa (A := fx_A G) (atype := .int) (ty := .int) (a0 := (N, .inl (fun _ => 0))) hx hb (hts _ harr) rfl hK h.1 fx_D h.2 (fun q hq => Nat.le_trans hz hq) (fun _ => rfl) hn hN hbytes hcells hslots hdg fun q cA H1 hK1 hP hD hS => ?_
  refine cx_le fun hle => ?_
  have hq := cx_q rfl hP hD (by omega)
  subst hq
  have e1 : s.vm.findClass ("[" ++ FieldType.int.toString) = some cA := (hK1.2 2 _ rfl).2
  have e2 : s.vm.findClass ("[" ++ FieldType.int.toString) = some G.2.1 := (hK.2 0 _ rfl).2
  have e3 : cA = G.2.1 := Option.some.inj (e1.symm.trans e2)
  subst e3
  refine kk H1 ⟨?_, hS⟩
  rw [fx_W_app, hM]
  exact hP
/-- a new row of cells -/
theorem cx_anew (X : fx_C G p s m c args cc nL own) (hO : va_AO RX6 s) (h : fx_H G S M s H locs) (hz : G.2.2.2 ≤ s.heap.size) (hc : s.heap.size + cells = G.2.2.2 + S.length) {idx : Nat} (hcl : Cond.classLink own idx RX6 ∈ fx_all) {n : Int32} {N : Nat} (hn : ¬ n < 0) (hN : n.toNatClampNeg = N) (hbytes : N * 4 ≤ 536870912) (hcells : cells + 1 ≤ R.cells) (hslots : slots + N ≤ R.slots) (hdg : decode cc pc = .ok (.anewarray idx, 3)) {ids : List Nat} (hids : ids = List.replicate N 0)
    (kk : ∀ H1 : Heap, fx_H G (S ++ [.inr (.inl ids)]) M s H1 locs → W p l e R s m args below meth c H1 locs (cells + 1) (slots + N) Q (F0 m (pc + 3) ls (.ref (G.2.2.2 + S.length) :: rest))) : W p l e R s m args below meth c H locs cells slots Q (F0 m pc ls (.int n :: rest)) := by
  obtain ⟨⟨hx, hb, -, hown, hts⟩, ⟨hK, -⟩, -⟩ := X
  refine va_newq (A := fx_A G) hx hb hown (hts _ hcl) hO hK h.1 fx_D h.2 (fun q hq => Nat.le_trans hz hq) hn hN hbytes hcells hslots hdg fun q cA H1 hK1 hP hD hS => ?_
  refine cx_le fun hle => ?_
  have hq := cx_q rfl hP hD (by omega)
  subst hq
  obtain ⟨kA, comp, -, -, -, e1⟩ := (hK1.2 2 _ rfl).2
  obtain ⟨kA2, comp2, -, -, -, e2⟩ := (hK.2 1 _ rfl).2
  have e3 : cA = G.2.2.1.1 := Option.some.inj (e1.symm.trans e2)
  subst e3
  refine kk H1 ⟨?_, hS⟩
  rw [fx_W_app]
  have e4 : fx_e G (M S.length) (.inr (.inl ids)) = .inl (G.2.2.1.1, N, .inr (.inr (.inr (.inr (fun _ => none))))) := by
    subst hids
    show Sum.inl (G.2.2.1.1, (List.replicate N 0).length, Sum.inr (Sum.inr (Sum.inr (Sum.inr (fx_q G.2.2.2 (List.replicate N 0)))))) = _
    rw [List.length_replicate]
    congr 7
    funext j
    unfold fx_q
    have : (List.replicate N 0).getD j 0 = 0 := by
      rw [List.getD_eq_getElem?_getD, List.getElem?_replicate]
      split <;> rfl
    rw [this]
  rw [e4]
  exact hP
/-- a final field is written: a cell -/
theorem cx_putR (X : fx_C G p s m c args cc nL own) (hin : meth.name = "<init>") (h : fx_H G S M s H locs) {idx k j ci r : Nat} {fs : List Nat} {d : String} {ty : FieldType} (hs : S[k]? = some (.inr (.inr (ci, fs)))) (hl : fx_L own idx ci j d true) (hj : j < fs.length) (ho : ∀ C T N, fx_cl[ci]? = some (C, T, N) → ((T : u_T) j).1 = own) (hd : parseFieldDescriptor d = some ty) (hn : narrow ty (.ref (G.2.2.2 + r)) = .ref (G.2.2.2 + r)) (hfit : fits ty (.ref (G.2.2.2 + r)) = true) (hdg : decode cc pc = .ok (.putfield idx, 3))
    (kk : ∀ (H1 : Heap) (locs1 : List Loc), fx_H G (S.set k (.inr (.inr (ci, fs.set j (r + 2))))) M s H1 locs1 → W p l e R s m args below meth c H1 locs1 cells slots Q (F0 m (pc + 3) ls rest)) : W p l e R s m args below meth c H locs cells slots Q (F0 m pc ls (.ref (G.2.2.2 + r) :: .ref (G.2.2.2 + k) :: rest)) := by
  obtain ⟨⟨hx, hb, -, hown, hts⟩, ⟨hK, -⟩, -⟩ := X
  obtain ⟨C, T, N, tt, h1, h2, h3, h4, h5, h6, h7, h8⟩ := hl
  refine va_putF (D := G.1) (v := .ref (G.2.2.2 + r)) (ty := ty) hx hb hts h4 tt h7 h8 hown hK h.1 fx_D h.2 k (fx_at hs) h1 j h2 (hts _ h3) (fun _ h9 => h9) h6 hin (ho _ _ _ h1) (by rw [h5]; exact hd) hn hfit (by rw [fx_fs_len]; exact hj) hdg fun H1 locs1 g1 _ g3 => kk H1 locs1 ⟨?_, g3⟩
  rw [fx_fs_setR] at g1
  have hk : k < S.length := (List.getElem?_eq_some_iff.mp hs).1
  have g2 := fx_set_sh (G := G) (M := M) (sh := .inr (.inr (ci, fs.set j (r + 2)))) hk
  rw [show fx_e G (M k) (.inr (.inr (ci, fs.set j (r + 2)))) = .inr (ci, fx_fs G.2.2.2 (M k) (fs.set j (r + 2))) from rfl] at g2
  rw [g2] at g1
  exact g1
/-- a final field is written: 0 or 1 -/
theorem cx_putZF (X : fx_C G p s m c args cc nL own) (hin : meth.name = "<init>") (h : fx_H G S M s H locs) {idx k j ci : Nat} {fs : List Nat} {x : Int32} (hx1 : x = 0 ∨ x = 1) (hs : S[k]? = some (.inr (.inr (ci, fs)))) (hf : fs[j]? = some 0) (hl : fx_L own idx ci j "Z" true) (ho : ∀ C T N, fx_cl[ci]? = some (C, T, N) → ((T : u_T) j).1 = own) (hdg : decode cc pc = .ok (.putfield idx, 3))
    (kk : ∀ (H1 : Heap) (locs1 : List Loc), fx_H G S (m_up M k j x) s H1 locs1 → W p l e R s m args below meth c H1 locs1 cells slots Q (F0 m (pc + 3) ls rest)) : W p l e R s m args below meth c H locs cells slots Q (F0 m pc ls (.int x :: .ref (G.2.2.2 + k) :: rest)) := by
  obtain ⟨⟨hx, hb, -, hown, hts⟩, ⟨hK, -⟩, -⟩ := X
  obtain ⟨C, T, N, tt, h1, h2, h3, h4, h5, h6, h7, h8⟩ := hl
  refine va_putF (D := G.1) (v := .int x) (ty := .boolean) hx hb hts h4 tt h7 h8 hown hK h.1 fx_D h.2 k (fx_at hs) h1 j h2 (hts _ h3) (fun _ h9 => h9) h6 hin (ho _ _ _ h1) (by rw [h5]; decide +kernel) (by rcases hx1 with rfl | rfl <;> rfl) (by rcases hx1 with rfl | rfl <;> rfl) (by rw [fx_fs_len]; exact (List.getElem?_eq_some_iff.mp hf).1) hdg fun H1 locs1 g1 _ g3 => kk H1 locs1 ⟨?_, g3⟩
  rw [fx_fs_set hf] at g1
  have g2 := fx_set (G := G) (M := M) (row := upd (M k) j x) hs
  rw [show fx_e G (upd (M k) j x) (.inr (.inr (ci, fs))) = .inr (ci, fx_fs G.2.2.2 (upd (M k) j x) fs) from rfl] at g2
  rw [g2] at g1
  exact g1
/-- a row of cells is written -/
theorem cx_aast (X : fx_C G p s m c args cc nL own) (h : fx_H G S M s H locs) {k r : Nat} {ids : List Nat} {fs : List Nat} {i : Int32} (hs : S[k]? = some (.inr (.inl ids))) (hr : S[r]? = some (.inr (.inr (6, fs)))) (hin : vp_in i ids.length) (hdg : decode cc pc = .ok (.aastore, 1))
    (kk : ∀ (H1 : Heap) (locs1 : List Loc), fx_H G (S.set k (.inr (.inl (ids.set i.toNatClampNeg (r + 1))))) M s H1 locs1 → W p l e R s m args below meth c H1 locs1 cells slots Q (F0 m (pc + 1) ls rest)) : W p l e R s m args below meth c H locs cells slots Q (F0 m pc ls (.ref (G.2.2.2 + r) :: .int i :: .ref (G.2.2.2 + k) :: rest)) := by
  obtain ⟨⟨hx, hb, -, hown, hts⟩, ⟨hK, -⟩, -⟩ := X
  refine va_astq hx hb hK h.1 fx_D h.2 k 1 r 6 (r := (RX6, TX6, 13)) (fx_at hs) rfl (fx_at hr) rfl hin hdg fun H1 locs1 g1 _ g3 => kk H1 locs1 ⟨?_, g3⟩
  have hk : k < S.length := (List.getElem?_eq_some_iff.mp hs).1
  have hi : i.toNatClampNeg < ids.length := Nat.not_le.mp fun q => hin (Or.inr q)
  have g2 := fx_set_sh (G := G) (M := M) (sh := .inr (.inl (ids.set i.toNatClampNeg (r + 1)))) hk
  have e4 : fx_e G (M k) (.inr (.inl (ids.set i.toNatClampNeg (r + 1)))) = .inl (G.2.2.1.1, ids.length, .inr (.inr (.inr (.inr (va_up (fx_q G.2.2.2 ids) i.toNatClampNeg (some (G.2.2.2 + r))))))) := by
    show Sum.inl (G.2.2.1.1, (ids.set i.toNatClampNeg (r + 1)).length, Sum.inr (Sum.inr (Sum.inr (Sum.inr (fx_q G.2.2.2 (ids.set i.toNatClampNeg (r + 1))))))) = _
    rw [List.length_set]
    congr 7
    funext j
    unfold fx_q va_up
    by_cases hj : j = i.toNatClampNeg
    · subst hj
      rw [if_pos rfl, List.getD_eq_getElem?_getD, List.getElem?_set, if_pos rfl, if_pos hi]
      rfl
    · rw [if_neg hj, List.getD_eq_getElem?_getD, List.getElem?_set, if_neg (fun q => hj q.symm), ← List.getD_eq_getElem?_getD]
  rw [e4] at g2
  rw [g2] at g1
  exact g1
end CX
section CY
variable {p : Program} {l : Launch} {e : Env} {R : Room} {s : State} {m : MethodId} {args : Array Value} {below : List Frame} {meth : Method} {c : Code} {H : Heap} {locs : List Loc} {cells slots : Nat} {Q : State → Prop}
variable {cc : ByteArray} {pc nL : Nat} {ls : Array Slot} {rest : List Value} {G : fx_G} {S0 L : List fx_S} {M : Mm} {own : String} {n0 i0 : Nat}
theorem cy_len (hn : S0.length = n0) (hi : L.length = i0) : (S0 ++ L).length = n0 + i0 := by rw [List.length_append, hn, hi]
theorem cy_new (hn : S0.length = n0) (hi : L.length = i0) (X : fx_C G p s m c args cc nL own) (h : fx_H G (S0 ++ L) M s H locs) (hz : G.2.2.2 ≤ s.heap.size) (hc : s.heap.size + cells = G.2.2.2 + (n0 + i0)) (hM : M (n0 + i0) = fun _ => 0) {C : String} {T : u_T} {N ci idx : Nat} {ty : Nat → FieldType} {fsN : List Nat} (hin : ∀ w ∈ u_ws C T N, w ∈ fx_all) (hty : ∀ k, k < N → parseFieldDescriptor (T k).2.2.1 = some (ty k)) (hcl : Cond.classLink own idx C ∈ fx_all) (hinst : Cond.instantiable C N ∈ fx_all) (hini : Cond.initialized C ∈ fx_all) (hci : fx_cl[ci]? = some (C, T, N)) (hfs : ∀ j, j < N → defaultValue (ty j) = vp_V (fx_fs G.2.2.2 (fun _ => 0) fsN) j) (hcells : cells + 1 ≤ R.cells) (hslots : slots + N ≤ R.slots) (hdg : decode cc pc = .ok (.new idx, 3))
    (kk : ∀ H1 : Heap, fx_H G (S0 ++ (L ++ [.inr (.inr (ci, fsN))])) M s H1 locs → W p l e R s m args below meth c H1 locs (cells + 1) (slots + N) Q (F0 m (pc + 3) ls (.ref (G.2.2.2 + (n0 + i0)) :: rest))) : W p l e R s m args below meth c H locs cells slots Q (F0 m pc ls rest) := by
  have hl := cy_len hn hi
  refine cx_new X h hz (by rw [hl]; exact hc) (by rw [hl]; exact hM) hin hty hcl hinst hini hci hfs hcells hslots hdg fun H1 g => ?_
  rw [hl]
  rw [List.append_assoc] at g
  exact kk H1 g
theorem cy_newa (hn : S0.length = n0) (hi : L.length = i0) (X : fx_C G p s m c args cc nL own) (h : fx_H G (S0 ++ L) M s H locs) (hz : G.2.2.2 ≤ s.heap.size) (hc : s.heap.size + cells = G.2.2.2 + (n0 + i0)) (hM : M (n0 + i0) = fun _ => 0) (harr : Cond.arrayClass .int ∈ fx_all) {n : Int32} {N : Nat} (hn1 : ¬ n < 0) (hN : n.toNatClampNeg = N) (hbytes : N * 4 ≤ 536870912) (hcells : cells + 1 ≤ R.cells) (hslots : slots + N ≤ R.slots) (hdg : decode cc pc = .ok (.newarray .int, 2))
    (kk : ∀ H1 : Heap, fx_H G (S0 ++ (L ++ [.inl N])) M s H1 locs → W p l e R s m args below meth c H1 locs (cells + 1) (slots + N) Q (F0 m (pc + 2) ls (.ref (G.2.2.2 + (n0 + i0)) :: rest))) : W p l e R s m args below meth c H locs cells slots Q (F0 m pc ls (.int n :: rest)) := by
  have hl := cy_len hn hi
  refine cx_newa X h hz (by rw [hl]; exact hc) (by rw [hl]; exact hM) harr hn1 hN hbytes hcells hslots hdg fun H1 g => ?_
  rw [hl]
  rw [List.append_assoc] at g
  exact kk H1 g
theorem cy_anew (hn : S0.length = n0) (hi : L.length = i0) (X : fx_C G p s m c args cc nL own) (hO : va_AO RX6 s) (h : fx_H G (S0 ++ L) M s H locs) (hz : G.2.2.2 ≤ s.heap.size) (hc : s.heap.size + cells = G.2.2.2 + (n0 + i0)) {idx : Nat} (hcl : Cond.classLink own idx RX6 ∈ fx_all) {n : Int32} {N : Nat} (hn1 : ¬ n < 0) (hN : n.toNatClampNeg = N) (hbytes : N * 4 ≤ 536870912) (hcells : cells + 1 ≤ R.cells) (hslots : slots + N ≤ R.slots) (hdg : decode cc pc = .ok (.anewarray idx, 3)) {ids : List Nat} (hids : ids = List.replicate N 0)
    (kk : ∀ H1 : Heap, fx_H G (S0 ++ (L ++ [.inr (.inl ids)])) M s H1 locs → W p l e R s m args below meth c H1 locs (cells + 1) (slots + N) Q (F0 m (pc + 3) ls (.ref (G.2.2.2 + (n0 + i0)) :: rest))) : W p l e R s m args below meth c H locs cells slots Q (F0 m pc ls (.int n :: rest)) := by
  have hl := cy_len hn hi
  refine cx_anew X hO h hz (by rw [hl]; exact hc) hcl hn1 hN hbytes hcells hslots hdg hids fun H1 g => ?_
  rw [hl]
  rw [List.append_assoc] at g
  exact kk H1 g
/-- a constructor is called: on the cell that was made last -/
theorem cy_call {y : MethodName} {b : ByteArray} {maxL n idx d mc ms k : Nat} {As st : List Value} {x : fx_S} (hn : S0.length = n0) (hi : L.length = i0) (X : fx_C G p s m c args cc nL own) (hO : va_AO RX6 s) (h : fx_H G (S0 ++ (L ++ [x])) M s H locs) (hz : G.2.2.2 ≤ s.heap.size) (hc : s.heap.size + cells = G.2.2.2 + (n0 + i0 + 1)) (hy : fx_Y y b maxL none n) (hin : Cond.instanceMethod y ∈ fx_all) (hl : Cond.methodLink own idx y ∈ fx_all ∨ ∃ host, (own, idx, y, host) ∈ fx_nst) (hnm : y.name = "<init>") {K : List fx_S × Mm → Prop} (hM : Met l y (fx_ws y b maxL none) (cx_rm d mc ms) (va_Pc (.ref (G.2.2.2 + k) :: As) (cx_P G ((S0 ++ L) ++ [x]) M)) (va_Qv K (cx_R G) (fx_A G)) mc ms (fx_A G)) (hAs : As.length = n) (hst : st = As.reverse ++ .ref (G.2.2.2 + k) :: rest) (hR : d + 1 ≤ R.frames ∧ 64 * d + maxL + 19 ≤ R.locals) (hcs : cells + mc ≤ R.cells ∧ slots + ms ≤ R.slots) (hls : ls.size = nL) (hcat : (rest.map fun v => v.category).sum ≤ 8) (hdg : decode cc pc = .ok (.invokespecial idx, 3))
    (kk : ∀ (S1 : List fx_S) (M1 : Mm) (H1 : Heap) (locs1 : List Loc), K (S1, M1) → fx_H G S1 M1 s H1 locs1 → W p l e R s m args below meth c H1 locs1 (cells + mc) (slots + ms) Q (F0 m (pc + 3) ls rest)) : W p l e R s m args below meth c H locs cells slots Q (F0 m pc ls st) := by
  have hlen : (S0 ++ (L ++ [x])).length = n0 + i0 + 1 := by rw [List.length_append, List.length_append, hn, hi]; rfl
  refine cx_sz h hz (by rw [hlen]; exact hc) fun hsz => ?_
  obtain ⟨⟨hx, hb, hml, hown, hts⟩, hK, hQ⟩ := X
  have hRR : (cx_rm d mc ms).frames + 1 ≤ R.frames ∧ 8 + (maxL + 11) + (cx_rm d mc ms).locals ≤ R.locals := ⟨hR.1, by show 8 + (maxL + 11) + 64 * d ≤ R.locals; omega⟩
  have hpre : PreS s H (va_Pc (.ref (G.2.2.2 + k) :: As) (cx_P G ((S0 ++ L) ++ [x]) M)) (.ref (G.2.2.2 + k) :: As) := ⟨cx_blind, fun U hU hW => ⟨rfl, ⟨by rw [hU, List.append_assoc]; exact h.1, hK.warm hW, hQ.step h.2 hU hW⟩, by rw [hU, List.append_assoc]; exact hsz, va_AO.moved hW.alike hO⟩⟩
  rcases hl with hl | ⟨host, hl⟩
  · exact va_callv (A0 := fx_A G) (A1 := fx_A G) (va_runI (As := As) (rest := rest) ⟨hx, hb, hml, hown, hts⟩ hM (⟨callB_of n hts (fx_gi hy) rfl rfl rfl (hts _ hy.2.1) (hts _ hl) hy.2.2 hRR, hnm, hts _ hin⟩ : CallB R s args own idx y b maxL none (fx_ws y b maxL none) (cx_rm d mc ms) mc ms n ∧ y.name = "<init>" ∧ (Cond.instanceMethod y).before args s = true) hpre rfl hAs hls hst (lv_room hcat) hdg hcs) h.2 (fun _ _ q => q) (fun _ q => q) (fun u t H1 locs1 ht hvm hw hB hz1 hk1 hS => kk u.1 u.2 H1 locs1 hw ⟨by rw [← ht]; exact hB, hS⟩)
  · exact va_callv (A0 := fx_A G) (A1 := fx_A G) (va_runIN (As := As) (rest := rest) ⟨hx, hb, hml, hown, hts⟩ hM (⟨va_cnB n hts (fx_gi hy) rfl rfl rfl (hK.2 _ hl) (hts _ hy.2.1) hy.2.2 hRR, hnm, hts _ hin⟩ : va_CN R s args own idx y host b maxL none (fx_ws y b maxL none) (cx_rm d mc ms) mc ms n ∧ y.name = "<init>" ∧ (Cond.instanceMethod y).before args s = true) hpre rfl hAs hls hst (lv_room hcat) hdg hcs) h.2 (fun _ _ q => q) (fun _ q => q) (fun u t H1 locs1 ht hvm hw hB hz1 hk1 hS => kk u.1 u.2 H1 locs1 hw ⟨by rw [← ht]; exact hB, hS⟩)
theorem cy_ret {S : List fx_S} (X : fx_C G p s m c args cc nL own) (hr : meth.sig.returnType = none) (hk : meth.locks = false) (h : fx_H G S M s H locs) {K : List fx_S × Mm → Prop} (hK : K (S, M)) (hdg : decode cc pc = .ok (.return_, 1)) : W p l e R s m args below meth c H locs cells slots (MQ below (va_Qv K (cx_R G) (fx_A G)) args s cells slots (fx_A G)) (F0 m pc ls []) :=
  W.vret X.1.1 X.1.2.1 hr (fun t ht hW => ⟨⟨(S, M), rfl, hK, by show va_P _ _ _ _; rw [ht]; exact h.1⟩, h.2.F ht⟩) h.2.2.2 hdg hk
end CY
theorem cy_met {l : Launch} {G : fx_G} {S : List fx_S} {M : Mm} {y : MethodName} {b : ByteArray} {maxL d mc ms : Nat} {own : String} {vs : List Value} {Qc : Array Value → State → Outcome → State → Prop} (hy : plainName y.cls = true) (hnm : y.name = "<init>") (hown : y.cls = own) (hlen : (lg_sl vs).length ≤ maxL)
    (body : ∀ (p : Program) (e : Env) (s : State) (m : MethodId) (below : List Frame) (meth : Method) (c : Code), fx_C G p s m c vs.toArray b maxL own → meth.sig.returnType = none → meth.locks = false → meth.name = "<init>" → va_AO RX6 s → fx_H G S M s s.heap [] → s.heap.size = G.2.2.2 + S.length → ∀ ls : Array Slot, lv_has ls maxL (lv_args 0 vs) → W p l e (cx_rm d mc ms) s m vs.toArray below meth c s.heap [] 0 0 (MQ below Qc vs.toArray s mc ms (fx_A G)) (F0 m 0 ls [])) : Met l y (fx_ws y b maxL none) (cx_rm d mc ms) (va_Pc vs (cx_P G S M)) Qc mc ms (fx_A G) := by
  refine Met.ofW (cc := b) (maxL := maxL) (ret := none) hy rfl ?_
  intro p e s m args below meth c s₁ B hml hv
  obtain ⟨rfl, ⟨hP, hK, hQ⟩, hsz, hO⟩ := hv
  have hts := atoms_spec (ws := fx_ws y b maxL none) B.pre
  have hown' : s.vm.findClass y.cls = some m.cls := findClass_of_methodNamed B.named
  have hin : meth.name = "<init>" := (name_of_methodNamed B.named B.method).1.trans hnm
  rw [lg_entry_eq]
  exact body p e s m below meth c ⟨⟨B.exec, B.bytes, hml, hown ▸ hown', fun w hw => hts w (List.mem_cons_of_mem _ hw)⟩, hK, hQ⟩ B.returns B.notSynchronized hin hO ⟨hP, va_S.rf⟩ hsz _ (lv_entry vs hlen)
