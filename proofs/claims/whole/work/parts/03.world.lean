/-! The flat world: every cell that the law makes stands at z + k, k its number; S says what a cell is, M what its ints are. -/
abbrev Mm : Type := Nat → Nat → Int32
def m_up (M : Mm) (k i : Nat) (x : Int32) : Mm := fun a => if a = k then upd (M k) i x else M a
abbrev fx_S : Type := Nat ⊕ (List Nat ⊕ (Nat × List Nat))
abbrev fx_G : Type := va_G × ClassId × (ClassId × (Nat → Nat) × (Nat → Nat)) × Nat
def fx_v (z : Nat) (x : Int32) (f : Nat) : Value := match f with
  | 0 => .int x
  | 1 => .null
  | r + 2 => .ref (z + r)
def fx_q (z : Nat) (ids : List Nat) (j : Nat) : Option Nat := match ids.getD j 0 with
  | 0 => none
  | r + 1 => some (z + r)
def fx_fs (z : Nat) (row : Nat → Int32) (fs : List Nat) : List Value := fs.mapIdx (fun j f => fx_v z (row j) f)
def fx_e (G : fx_G) (row : Nat → Int32) (sh : fx_S) : va_E := match sh with
  | .inl n => .inl (G.2.1, n, .inl row)
  | .inr (.inl ids) => .inl (G.2.2.1.1, ids.length, .inr (.inr (.inr (.inr (fx_q G.2.2.2 ids)))))
  | .inr (.inr o) => .inr (o.1, fx_fs G.2.2.2 row o.2)
def fx_W (G : fx_G) (S : List fx_S) (M : Mm) : va_W := S.mapIdx (fun k sh => (G.2.2.2 + k, fx_e G (M k) sh))
theorem fx_at {G : fx_G} {S : List fx_S} {M : Mm} {k : Nat} {sh : fx_S} (h : S[k]? = some sh) : (fx_W G S M)[k]? = some (G.2.2.2 + k, fx_e G (M k) sh) := by
  unfold fx_W
  rw [List.getElem?_mapIdx, h]
  rfl
theorem fx_at' {G : fx_G} {S : List fx_S} {M : Mm} {k : Nat} {q : Nat × va_E} (h : (fx_W G S M)[k]? = some q) : ∃ sh, S[k]? = some sh ∧ q = (G.2.2.2 + k, fx_e G (M k) sh) := by
  unfold fx_W at h
  rw [List.getElem?_mapIdx] at h
  cases hs : S[k]? with
  | none => rw [hs] at h; cases h
  | some sh => rw [hs] at h; cases h; exact ⟨sh, rfl, rfl⟩
theorem fx_D {G : fx_G} {S : List fx_S} {M : Mm} : va_D (fun q => G.2.2.2 ≤ q) (fx_W G S M) := by
  refine ⟨fun i j x y hi hj hxy => ?_, fun k q hk => ?_⟩
  · obtain ⟨_, -, rfl⟩ := fx_at' hi
    obtain ⟨_, -, rfl⟩ := fx_at' hj
    dsimp only at hxy
    omega
  · obtain ⟨_, -, rfl⟩ := fx_at' hk
    exact Nat.le_add_right _ _
theorem fx_set {G : fx_G} {S : List fx_S} {M : Mm} {k : Nat} {sh : fx_S} {row : Nat → Int32} (h : S[k]? = some sh) : (fx_W G S M).set k (G.2.2.2 + k, fx_e G row sh) = fx_W G S (fun a => if a = k then row else M a) := by
  have hl : k < S.length := (List.getElem?_eq_some_iff.mp h).1
  apply List.ext_getElem?
  intro i
  rw [List.getElem?_set]
  unfold fx_W
  simp only [List.getElem?_mapIdx, List.length_mapIdx]
  by_cases hi : k = i
  · subst hi
    rw [if_pos rfl, if_pos hl, h]
    simp
  · have hi' : ¬ i = k := fun q => hi q.symm
    simp [hi, hi']
theorem fx_fs_set {z : Nat} {row : Nat → Int32} {fs : List Nat} {j : Nat} {x : Int32} (h : fs[j]? = some 0) : (fx_fs z row fs).set j (.int x) = fx_fs z (upd row j x) fs := by
  have hl : j < fs.length := (List.getElem?_eq_some_iff.mp h).1
  apply List.ext_getElem?
  intro i
  rw [List.getElem?_set]
  unfold fx_fs
  simp only [List.getElem?_mapIdx, List.length_mapIdx]
  by_cases hi : j = i
  · subst hi
    rw [if_pos rfl, if_pos hl, h]
    simp [fx_v, upd]
  · have hi' : ¬ i = j := fun q => hi q.symm
    simp [hi, hi', upd]
theorem fx_fs_at {z : Nat} {row : Nat → Int32} {fs : List Nat} {j f : Nat} (h : fs[j]? = some f) : (fx_fs z row fs)[j]? = some (fx_v z (row j) f) := by
  unfold fx_fs
  rw [List.getElem?_mapIdx, h]
  rfl
theorem fx_fs_len {z : Nat} {row : Nat → Int32} {fs : List Nat} : (fx_fs z row fs).length = fs.length := by
  unfold fx_fs
  exact List.length_mapIdx
/-- the links between nest mates -/
def fx_NQ (ns : List (String × Nat × MethodName × String)) (U : State) : Prop := ∀ q ∈ ns, va_Nw (.methodLinkNest q.1 q.2.1 q.2.2.1 q.2.2.2) U
def fx_nst : List (String × Nat × MethodName × String) := [("MockParcels", 11, ⟨"MockParcels$Whole", "<init>", "()V"⟩, "MockParcels"), ("MockParcels$Whole", 11, ⟨"MockParcels$Cast", "<init>", "()V"⟩, "MockParcels"), ("MockParcels$Quay", 52, ⟨"MockParcels", "fillRow", "([II)V"⟩, "MockParcels"), ("MockParcels$Whole", 31, ⟨"MockParcels$Law", "<init>", "()V"⟩, "MockParcels"), ("MockParcels$Plans", 40, ⟨"MockParcels", "fillRow", "([II)V"⟩, "MockParcels"), ("MockParcels", 50, ⟨"MockParcels$Reader", "<init>", "()V"⟩, "MockParcels"), ("MockParcels$Parser", 11, ⟨"MockParcels$Law", "<init>", "()V"⟩, "MockParcels"), ("MockParcels", 66, ⟨"MockParcels$Sums", "<init>", "()V"⟩, "MockParcels"), ("MockParcels$Quay", 58, ⟨"MockParcels", "copyRow", "([I[I)V"⟩, "MockParcels"), ("MockParcels$Auction", 201, ⟨"MockParcels", "isWithin", "(III)Z"⟩, "MockParcels"), ("MockParcels$Parser", 66, ⟨"MockParcels", "isWithin", "(III)Z"⟩, "MockParcels"), ("MockParcels$Reader", 62, ⟨"MockParcels", "isWithin", "(III)Z"⟩, "MockParcels"), ("MockParcels$Plans", 44, ⟨"MockParcels", "isWithin", "(III)Z"⟩, "MockParcels"), ("MockParcels$Law", 37, ⟨"MockParcels", "copyRow", "([I[I)V"⟩, "MockParcels"), ("MockParcels$Plans", 48, ⟨"MockParcels", "copyRow", "([I[I)V"⟩, "MockParcels"), ("MockParcels$Sums", 72, ⟨"MockParcels", "isWithin", "(III)Z"⟩, "MockParcels"), ("MockParcels$Cast", 34, ⟨"MockParcels", "copyRow", "([I[I)V"⟩, "MockParcels"), ("MockParcels$Whole", 57, ⟨"MockParcels", "copyRow", "([I[I)V"⟩, "MockParcels"), ("MockParcels$Told", 59, ⟨"MockParcels", "copyRow", "([I[I)V"⟩, "MockParcels")]
/-- what the tables say, at a state -/
def fx_K (G : fx_G) (U : State) : Prop := va_K G.1 fx_cl [(G.2.1, .int), (G.2.2.1.1, .object RX6)] U ∧ fx_NQ fx_nst U
theorem fx_K.warm {G : fx_G} {s U : State} (hW : s.WarmedH U.vm) (h : fx_K G s) : fx_K G U := ⟨va_K.moved hW.alike h.1, fun q hq => va_Nw.warmM hW (h.2 q hq)⟩
theorem fx_K.blind {G : fx_G} {U : State} {g : JFrame} {mk : MethodId} {a : Array Value} (h : fx_K G U) : fx_K G (U.calling g mk a) := ⟨va_K.moved (u := U) (U := U.calling g mk a) (Vm.Alike.refl U.vm) h.1, fun q hq => va_tabs (A := #[]) rfl rfl (h.2 q hq)⟩
/-- what a method may write -/
def fx_A (G : fx_G) : Nat → Prop := fun q => G.2.2.2 ≤ q
def fx_KW : String := "bids step full when or and not weight rattle knots care shill purse price round crowd wet has day bidder follows on sell police bill pay wants for "
def fx_SG : String := ";+-*/()<=>"
def sl_ : List Nat := [147, 10]
def sb_ : List (List Int32) := [[98, 105, 100, 115, 32, 115, 116, 101, 112, 32, 102, 117, 108, 108, 32, 119, 104, 101, 110, 32, 111, 114, 32, 97, 110, 100, 32, 110, 111, 116, 32, 119, 101, 105, 103, 104, 116, 32, 114, 97, 116, 116, 108, 101, 32, 107, 110, 111, 116, 115, 32, 99, 97, 114, 101, 32, 115, 104, 105, 108, 108, 32, 112, 117, 114, 115, 101, 32, 112, 114, 105, 99, 101, 32, 114, 111, 117, 110, 100, 32, 99, 114, 111, 119, 100, 32, 119, 101, 116, 32, 104, 97, 115, 32, 100, 97, 121, 32, 98, 105, 100, 100, 101, 114, 32, 102, 111, 108, 108, 111, 119, 115, 32, 111, 110, 32, 115, 101, 108, 108, 32, 112, 111, 108, 105, 99, 101, 32, 98, 105, 108, 108, 32, 112, 97, 121, 32, 119, 97, 110, 116, 115, 32, 102, 111, 114, 32], [59, 43, 45, 42, 47, 40, 41, 60, 61, 62]]
/-- the two texts, String's and the formatter's statics: cells that nobody writes -/
def fx_T (G : fx_G) (U : State) : Prop := vk_R RX7 85 fx_KW (G.2.2.1.2.1 0) U ∧ vk_R RX7 78 fx_SG (G.2.2.1.2.1 1) U ∧ vk_S 2 sl_ sb_ G.2.2.1.2.1 G.2.2.1.2.2 (fx_A G) U U.heap ∧ va_Z "java/lang/String" "COMPACT_STRINGS" "Z" (.int 1) (fx_A G) U U.heap ∧ va_Zq "jdk/internal/util/Preconditions" "SIOOBE_FORMATTER" "Ljava/util/function/BiFunction;" (fx_A G) U U.heap
theorem fx_T.step {G : fx_G} {s U : State} {H : Heap} {locs : List Loc} (h : fx_T G s) (hS : va_S (fx_A G) s.heap H locs) (hU : U.heap = H) (hW : s.WarmedH U.vm) : fx_T G U := by
  obtain ⟨h1, h2, h3, h4, h5⟩ := h
  subst hU
  exact ⟨h1.warm hW, h2.warm hW, (h3.moved hW.alike).kept hS.2.1, (h4.moved hW.alike).kept hS.2.1, (h5.moved hW.alike).kept hS.2.1⟩
theorem fx_T.blind {G : fx_G} {U : State} {g : JFrame} {mk : MethodId} {a : Array Value} (h : fx_T G U) : fx_T G (U.calling g mk a) := by
  obtain ⟨h1, h2, h3, h4, h5⟩ := h
  exact ⟨h1.same rfl, h2.same rfl, vk_S.moved (u := U) (U := U.calling g mk a) (Vm.Alike.refl U.vm) h3, va_Z.moved (u := U) (U := U.calling g mk a) (Vm.Alike.refl U.vm) h4, va_Zq.moved (u := U) (U := U.calling g mk a) (Vm.Alike.refl U.vm) h5⟩
/-- a method's start: the world, the tables -/
def fx_P (G : fx_G) (S : List fx_S) (M : Mm) (U : State) : Prop := va_P G.1 fx_cl (fx_W G S M) U.heap ∧ fx_K G U ∧ fx_T G U
/-- a method's end: the world -/
def fx_R (G : fx_G) (S : List fx_S) (M : Mm) (t : State) : Prop := va_P G.1 fx_cl (fx_W G S M) t.heap
theorem fx_blind {G : fx_G} {S : List fx_S} {M : Mm} {av : List Value} : FrameBlind (va_Pc av (fx_P G S M)) := fun _ _ _ _ h => ⟨h.1, h.2.1, h.2.2.1.blind, h.2.2.2.blind⟩
/-- inside a method: the machine, the code, the words, the tables -/
def fx_C (G : fx_G) (p : Program) (s : State) (m : MethodId) (c : Code) (args : Array Value) (cc : ByteArray) (nL : Nat) (own : String) : Prop :=
  (p.tables.exec = Jvm.exec ∧ c.code = cc ∧ c.maxLocals = nL ∧ s.vm.findClass own = some m.cls ∧ ∀ w ∈ fx_all, w.before args s = true) ∧ fx_K G s ∧ fx_T G s
/-- inside a method: the world now -/
def fx_H (G : fx_G) (S : List fx_S) (M : Mm) (s : State) (H : Heap) (locs : List Loc) : Prop := va_P G.1 fx_cl (fx_W G S M) H ∧ va_S (fx_A G) s.heap H locs
def fx_rm (d : Nat) : Room := { frames := d, cells := 0, slots := 0, locals := 64 * d }
/-- a field's link: its class, its place -/
def fx_L (own : String) (idx ci j : Nat) (d : String) (fin : Bool) : Prop := ∃ (C : String) (T : u_T) (N : Nat) (ty : Nat → FieldType), fx_cl[ci]? = some (C, T, N) ∧ j < N ∧ Cond.fieldLink own idx (T j).1 (T j).2.1 (T j).2.2.1 ∈ fx_all ∧ (∀ w ∈ u_ws C T N, w ∈ fx_all) ∧ (T j).2.2.1 = d ∧ (T j).2.2.2 = fin ∧ (∀ k, k < N → parseFieldDescriptor (T k).2.2.1 = some (ty k)) ∧ ∀ a, a < N → ∀ b, b < N → a ≠ b → (T a).2.1 ≠ (T b).2.1
theorem fx_L.mk {own : String} {idx ci j : Nat} {d : String} {fin : Bool} (C : String) (T : u_T) (N : Nat) (ty : Nat → FieldType) (h1 : fx_cl[ci]? = some (C, T, N)) (h2 : j < N) (h3 : Cond.fieldLink own idx (T j).1 (T j).2.1 (T j).2.2.1 ∈ fx_all) (h4 : ∀ w ∈ u_ws C T N, w ∈ fx_all) (h5 : (T j).2.2.1 = d) (h6 : (T j).2.2.2 = fin) (h7 : ∀ k, k < N → parseFieldDescriptor (T k).2.2.1 = some (ty k)) (h8 : ∀ a, a < N → ∀ b, b < N → a ≠ b → (T a).2.1 ≠ (T b).2.1) : fx_L own idx ci j d fin := ⟨C, T, N, ty, h1, h2, h3, h4, h5, h6, h7, h8⟩
section FX
variable {p : Program} {l : Launch} {e : Env} {R : Room} {s : State} {m : MethodId} {args : Array Value} {below : List Frame} {meth : Method} {c : Code} {H : Heap} {locs : List Loc} {cells slots : Nat} {Q : State → Prop}
variable {cc : ByteArray} {pc nL : Nat} {ls : Array Slot} {rest : List Value} {G : fx_G} {S : List fx_S} {M : Mm} {own : String}
/-- a field is read: an int -/
theorem fx_getI (X : fx_C G p s m c args cc nL own) (h : fx_H G S M s H locs) {idx k j ci : Nat} {fs : List Nat} {d : String} {fin : Bool} (hs : S[k]? = some (.inr (.inr (ci, fs)))) (hf : fs[j]? = some 0) (hl : fx_L own idx ci j d fin) (hdg : decode cc pc = .ok (.getfield idx, 3))
    (kk : W p l e R s m args below meth c H locs cells slots Q (F0 m (pc + 3) ls (.int (M k j) :: rest))) : W p l e R s m args below meth c H locs cells slots Q (F0 m pc ls (.ref (G.2.2.2 + k) :: rest)) := by
  obtain ⟨⟨hx, hb, -, hown, hts⟩, ⟨hK, -⟩, -⟩ := X
  obtain ⟨C, T, N, ty, h1, h2, h3, h4, -⟩ := hl
  exact va_get (D := G.1) (v := .int (M k j)) hx hb hts h4 hown hK h.1 k (fx_at hs) h1 j h2 (hts _ h3) (fun _ h9 => h9) (fx_fs_at hf) hdg kk
/-- a field is read: a cell -/
theorem fx_getR (X : fx_C G p s m c args cc nL own) (h : fx_H G S M s H locs) {idx k j ci r : Nat} {fs : List Nat} {d : String} {fin : Bool} (hs : S[k]? = some (.inr (.inr (ci, fs)))) (hf : fs[j]? = some (r + 2)) (hl : fx_L own idx ci j d fin) (hdg : decode cc pc = .ok (.getfield idx, 3))
    (kk : W p l e R s m args below meth c H locs cells slots Q (F0 m (pc + 3) ls (.ref (G.2.2.2 + r) :: rest))) : W p l e R s m args below meth c H locs cells slots Q (F0 m pc ls (.ref (G.2.2.2 + k) :: rest)) := by
  obtain ⟨⟨hx, hb, -, hown, hts⟩, ⟨hK, -⟩, -⟩ := X
  obtain ⟨C, T, N, ty, h1, h2, h3, h4, -⟩ := hl
  exact va_get (D := G.1) (v := .ref (G.2.2.2 + r)) hx hb hts h4 hown hK h.1 k (fx_at hs) h1 j h2 (hts _ h3) (fun _ h9 => h9) (fx_fs_at hf) hdg kk
/-- a field is written: an int -/
theorem fx_putI (X : fx_C G p s m c args cc nL own) (h : fx_H G S M s H locs) {idx k j ci : Nat} {fs : List Nat} {x : Int32} (hs : S[k]? = some (.inr (.inr (ci, fs)))) (hf : fs[j]? = some 0) (hl : fx_L own idx ci j "I" false) (hdg : decode cc pc = .ok (.putfield idx, 3))
    (kk : ∀ (H1 : Heap) (locs1 : List Loc), fx_H G S (m_up M k j x) s H1 locs1 → W p l e R s m args below meth c H1 locs1 cells slots Q (F0 m (pc + 3) ls rest)) : W p l e R s m args below meth c H locs cells slots Q (F0 m pc ls (.int x :: .ref (G.2.2.2 + k) :: rest)) := by
  obtain ⟨⟨hx, hb, -, hown, hts⟩, ⟨hK, -⟩, -⟩ := X
  obtain ⟨C, T, N, ty, h1, h2, h3, h4, h5, h6, h7, h8⟩ := hl
  refine va_put (D := G.1) (v := .int x) (ty := .int) hx hb hts h4 ty h7 h8 hown hK h.1 fx_D h.2 k (fx_at hs) h1 j h2 (hts _ h3) (fun _ h9 => h9) h6 (by rw [h5]; decide +kernel) rfl rfl (by rw [fx_fs_len]; exact (List.getElem?_eq_some_iff.mp hf).1) hdg fun H1 locs1 g1 _ g3 => kk H1 locs1 ⟨?_, g3⟩
  rw [fx_fs_set hf] at g1
  have g2 := fx_set (G := G) (M := M) (row := upd (M k) j x) hs
  rw [show fx_e G (upd (M k) j x) (.inr (.inr (ci, fs))) = .inr (ci, fx_fs G.2.2.2 (upd (M k) j x) fs) from rfl] at g2
  rw [g2] at g1
  exact g1
/-- a field is written: 0 or 1 -/
theorem fx_putZ (X : fx_C G p s m c args cc nL own) (h : fx_H G S M s H locs) {idx k j ci : Nat} {fs : List Nat} {x : Int32} (hz : x = 0 ∨ x = 1) (hs : S[k]? = some (.inr (.inr (ci, fs)))) (hf : fs[j]? = some 0) (hl : fx_L own idx ci j "Z" false) (hdg : decode cc pc = .ok (.putfield idx, 3))
    (kk : ∀ (H1 : Heap) (locs1 : List Loc), fx_H G S (m_up M k j x) s H1 locs1 → W p l e R s m args below meth c H1 locs1 cells slots Q (F0 m (pc + 3) ls rest)) : W p l e R s m args below meth c H locs cells slots Q (F0 m pc ls (.int x :: .ref (G.2.2.2 + k) :: rest)) := by
  obtain ⟨⟨hx, hb, -, hown, hts⟩, ⟨hK, -⟩, -⟩ := X
  obtain ⟨C, T, N, ty, h1, h2, h3, h4, h5, h6, h7, h8⟩ := hl
  refine va_put (D := G.1) (v := .int x) (ty := .boolean) hx hb hts h4 ty h7 h8 hown hK h.1 fx_D h.2 k (fx_at hs) h1 j h2 (hts _ h3) (fun _ h9 => h9) h6 (by rw [h5]; decide +kernel) (by rcases hz with rfl | rfl <;> rfl) (by rcases hz with rfl | rfl <;> rfl) (by rw [fx_fs_len]; exact (List.getElem?_eq_some_iff.mp hf).1) hdg fun H1 locs1 g1 _ g3 => kk H1 locs1 ⟨?_, g3⟩
  rw [fx_fs_set hf] at g1
  have g2 := fx_set (G := G) (M := M) (row := upd (M k) j x) hs
  rw [show fx_e G (upd (M k) j x) (.inr (.inr (ci, fs))) = .inr (ci, fx_fs G.2.2.2 (upd (M k) j x) fs) from rfl] at g2
  rw [g2] at g1
  exact g1
/-- a row of ints is read -/
theorem fx_iald (X : fx_C G p s m c args cc nL own) (h : fx_H G S M s H locs) {k n : Nat} {i : Int32} (hs : S[k]? = some (.inl n)) (hin : vp_in i n) (hdg : decode cc pc = .ok (.iaload, 1))
    (kk : W p l e R s m args below meth c H locs cells slots Q (F0 m (pc + 1) ls (.int (M k i.toNatClampNeg) :: rest))) : W p l e R s m args below meth c H locs cells slots Q (F0 m pc ls (.int i :: .ref (G.2.2.2 + k) :: rest)) := by
  obtain ⟨⟨hx, hb, -, hown, hts⟩, ⟨hK, -⟩, -⟩ := X
  exact va_iald hx hb hK h.1 k 0 (fx_at hs) rfl hin hdg kk
/-- a row of ints is written -/
theorem fx_iast (X : fx_C G p s m c args cc nL own) (h : fx_H G S M s H locs) {k n : Nat} {i x : Int32} (hs : S[k]? = some (.inl n)) (hin : vp_in i n) (hdg : decode cc pc = .ok (.iastore, 1))
    (kk : ∀ (H1 : Heap) (locs1 : List Loc), fx_H G S (m_up M k i.toNatClampNeg x) s H1 locs1 → W p l e R s m args below meth c H1 locs1 cells slots Q (F0 m (pc + 1) ls rest)) : W p l e R s m args below meth c H locs cells slots Q (F0 m pc ls (.int x :: .int i :: .ref (G.2.2.2 + k) :: rest)) := by
  obtain ⟨⟨hx, hb, -, hown, hts⟩, ⟨hK, -⟩, -⟩ := X
  refine va_iast hx hb hK h.1 fx_D h.2 k 0 (fx_at hs) rfl hin hdg fun H1 locs1 g1 _ g3 => kk H1 locs1 ⟨?_, g3⟩
  have g2 := fx_set (G := G) (M := M) (row := upd (M k) i.toNatClampNeg x) hs
  rw [show fx_e G (upd (M k) i.toNatClampNeg x) (.inl n) = .inl (G.2.1, n, .inl (upd (M k) i.toNatClampNeg x)) from rfl] at g2
  rw [g2] at g1
  exact g1
/-- a row's length -/
theorem fx_alen (X : fx_C G p s m c args cc nL own) (h : fx_H G S M s H locs) {k n : Nat} (hs : S[k]? = some (.inl n)) (hdg : decode cc pc = .ok (.arraylength, 1))
    (kk : W p l e R s m args below meth c H locs cells slots Q (F0 m (pc + 1) ls (.int (nI n) :: rest))) : W p l e R s m args below meth c H locs cells slots Q (F0 m pc ls (.ref (G.2.2.2 + k) :: rest)) := by
  obtain ⟨⟨hx, hb, -, hown, hts⟩, ⟨hK, -⟩, -⟩ := X
  exact va_alen hx hb hK h.1 k 0 (fx_at hs) (ty := .int) rfl (v := nI n) rfl hdg kk
/-- a row of cells is read -/
theorem fx_aald (X : fx_C G p s m c args cc nL own) (h : fx_H G S M s H locs) {k r : Nat} {ids : List Nat} {i : Int32} (hs : S[k]? = some (.inr (.inl ids))) (hin : vp_in i ids.length) (hr : ids.getD i.toNatClampNeg 0 = r + 1) (hdg : decode cc pc = .ok (.aaload, 1))
    (kk : W p l e R s m args below meth c H locs cells slots Q (F0 m (pc + 1) ls (.ref (G.2.2.2 + r) :: rest))) : W p l e R s m args below meth c H locs cells slots Q (F0 m pc ls (.int i :: .ref (G.2.2.2 + k) :: rest)) := by
  obtain ⟨⟨hx, hb, -, hown, hts⟩, ⟨hK, -⟩, -⟩ := X
  refine va_aldq hx hb hK h.1 k 1 (C := RX6) (fx_at hs) rfl hin hdg ?_
  rw [show fx_q G.2.2.2 ids i.toNatClampNeg = some (G.2.2.2 + r) by unfold fx_q; rw [hr]]
  exact kk
end FX
