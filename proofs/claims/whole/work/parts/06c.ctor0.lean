theorem dfillS_0 : decode cX11_fillRow 0 = .ok (.iconst 0, 1) := by decide +kernel
theorem dfillS_1 : decode cX11_fillRow 1 = .ok (.istore_n 2, 1) := by decide +kernel
theorem dfillS_2 : decode cX11_fillRow 2 = .ok (.iload_n 2, 1) := by decide +kernel
theorem dfillS_3 : decode cX11_fillRow 3 = .ok (.aload_n 0, 1) := by decide +kernel
theorem dfillS_4 : decode cX11_fillRow 4 = .ok (.arraylength, 1) := by decide +kernel
theorem dfillS_5 : decode cX11_fillRow 5 = .ok (.if_icmp .ge 13, 3) := by decide +kernel
theorem dfillS_8 : decode cX11_fillRow 8 = .ok (.aload_n 0, 1) := by decide +kernel
theorem dfillS_9 : decode cX11_fillRow 9 = .ok (.iload_n 2, 1) := by decide +kernel
theorem dfillS_10 : decode cX11_fillRow 10 = .ok (.iload_n 1, 1) := by decide +kernel
theorem dfillS_11 : decode cX11_fillRow 11 = .ok (.iastore, 1) := by decide +kernel
theorem dfillS_12 : decode cX11_fillRow 12 = .ok (.iinc 2 1, 3) := by decide +kernel
theorem dfillS_15 : decode cX11_fillRow 15 = .ok (.goto (-13), 3) := by decide +kernel
theorem dfillS_18 : decode cX11_fillRow 18 = .ok (.return_, 1) := by decide +kernel
def T_fillS_2 (a0 : Nat) (N : Nat) : Nat → Int32 → Int32 → Mm → (Mm → Prop) → Prop
  | 0, _, _, _, _ => False
  | n + 1, x1, x2, M, K => (((nI N) ≤ x2 → (K M)) ∧ (¬ (nI N) ≤ x2 → (vp_in x2 N ∧ (∀ M2 : Mm, M2 = m_up M a0 (x2).toNatClampNeg x1 → (∀ y4 : Int32, y4 = x2 + (1 : Int32) → (T_fillS_2 a0 N n x1 y4 M2 K))))))
set_option maxHeartbeats 4000000 in
set_option maxRecDepth 100000 in
theorem w_fillS_2 {p : Program} {l : Launch} {e : Env} {s : State} {m : MethodId} {args : Array Value} {below : List Frame} {meth : Method} {c : Code} {G : fx_G} {K : Mm → Prop} {S : List fx_S} {a0 : Nat} {N : Nat} (ha0 : S[a0]? = some (.inl N)) (X : fx_C G p s m c args cX11_fillRow 3 RX11) (hr : meth.sig.returnType = none) (hk : meth.locks = false) : ∀ (n : Nat) (x1 : Int32) (x2 : Int32) (M : Mm) (H : Heap) (locs : List Loc) (ls : Array Slot), T_fillS_2 a0 N n x1 x2 M K → fx_H G S M s H locs → lv_has ls 3 [(0, .ref (G.2.2.2 + a0)), (1, .int x1), (2, .int x2)] → W p l e (fx_rm (0)) s m args below meth c H locs 0 0 (MQ below (va_Qv K (fx_R G S) (fx_A G)) args s 0 0 (fx_A G)) (F0 m 2 ls []) := by
  obtain ⟨⟨hx, hb, hml, hown, hts⟩, hK, hQ⟩ := id X
  intro n
  induction n with
  | zero =>
    intro x1 x2 M H locs ls hT
    exact hT.elim
  | succ n ih =>
    intro x1 x2 M H locs ls hT h hl
    rw [T_fillS_2] at hT
    refine lv_iload_n hx hb dfillS_2 rfl (lv_at hl 2 rfl) ?_
    refine lv_aload_n hx hb dfillS_3 rfl (lv_at hl 0 rfl) ?_
    refine fx_alen X h (k := a0) ha0 dfillS_4 ?_
    refine lv_icmp_ge (tgt := 18) hx hb dfillS_5 (by decide) (fun hc1 => ?_) (fun hc1 => ?_)
    · have hT := hT.1 hc1
      exact fx_vret X hr hk h hT dfillS_18
    · have hT := hT.2 hc1
      refine lv_aload_n hx hb dfillS_8 rfl (lv_at hl 0 rfl) ?_
      refine lv_iload_n hx hb dfillS_9 rfl (lv_at hl 2 rfl) ?_
      refine lv_iload_n hx hb dfillS_10 rfl (lv_at hl 1 rfl) ?_
      obtain ⟨hi3, hT⟩ := hT
      refine fx_iast X h (k := a0) ha0 hi3 dfillS_11 (fun H locs h => ?_)
      obtain ⟨M2, eM2⟩ : ∃ z : Mm, z = m_up M a0 (x2).toNatClampNeg x1 := ⟨_, rfl⟩
      have hT := hT M2 eM2
      rw [← eM2] at h
      obtain ⟨y4, ey4⟩ : ∃ z : Int32, z = x2 + (1 : Int32) := ⟨_, rfl⟩
      have hT := hT y4 ey4
      refine lv_iinc (v := y4) (lv' := [(2, .int y4), (0, .ref (G.2.2.2 + a0)), (1, .int x1)]) hx hb dfillS_12 hl (k := 2) rfl (by rw [ey4]; rfl) (by decide) rfl (fun ls hl => ?_)
      refine lv_goto (tgt := 2) hx hb dfillS_15 (by decide) ?_
      exact ih x1 y4 M2 _ _ ls hT h (lv_sub hl [1, 2, 0] rfl)
def T_fillS (a0 : Nat) (N : Nat) (x1 : Int32) (M : Mm) (K : Mm → Prop) : Prop := (T_fillS_2 a0 N 5000 x1 (0 : Int32) M K)
set_option maxHeartbeats 4000000 in
set_option maxRecDepth 100000 in
theorem c_fillS (l : Launch) (G : fx_G) {S : List fx_S} {a0 : Nat} {N : Nat} (ha0 : S[a0]? = some (.inl N)) {x1 : Int32} {M : Mm} {K : Mm → Prop} (hT : T_fillS a0 N x1 M K) : Met l yX11_fillRow (fx_ws yX11_fillRow cX11_fillRow 3 none) (fx_rm (0)) (va_Pc [.ref (G.2.2.2 + a0), .int x1] (fx_P G S M)) (va_Qv K (fx_R G S) (fx_A G)) 0 0 (fx_A G) := by
  refine fx_met (own := RX11) (by decide +kernel) rfl (Nat.le_of_ble_eq_true rfl) (fun p e s m below meth c X hr hk h ls hl => ?_)
  obtain ⟨⟨hx, hb, hml, hown, hts⟩, hK, hQ⟩ := id X
  have hl : lv_has ls 3 [(0, .ref (G.2.2.2 + a0)), (1, .int x1)] := hl
  unfold T_fillS at hT
  refine lv_iconst (v := 0) hx hb dfillS_0 (by decide) ?_
  refine lv_istore_n (lv' := [(2, .int (0 : Int32)), (0, .ref (G.2.2.2 + a0)), (1, .int x1)]) hx hb dfillS_1 rfl hl (by decide) rfl (fun ls hl => ?_)
  exact w_fillS_2 ha0 X hr hk 5000 x1 (0 : Int32) M _ _ ls hT h (lv_sub hl [1, 2, 0] rfl)
def mf (M : Mm) (k N : Nat) (v : Int32) : Mm := fun a => if a = k then (fun j => if j < N then v else M k j) else M a
theorem mf_ne {M : Mm} {k N a : Nat} {v : Int32} (h : a ≠ k) : mf M k N v a = M a := by
  unfold mf
  rw [if_neg h]
theorem mf_s {M : Mm} {k i : Nat} {v : Int32} : m_up (mf M k i v) k i v = mf M k (i + 1) v := by
  funext a j
  unfold m_up mf upd
  by_cases ha : a = k
  · subst ha
    rw [if_pos rfl, if_pos rfl, if_pos rfl]
    by_cases hj : j = i
    · rw [if_pos hj, if_pos (by omega)]
    · rw [if_neg hj]
      by_cases hl : j < i
      · rw [if_pos hl, if_pos (by omega)]
      · rw [if_neg hl, if_neg (by omega)]
  · rw [if_neg ha, if_neg ha, if_neg ha]
theorem T_fillS_lp {a0 N : Nat} {v : Int32} {M : Mm} {K : Mm → Prop} (hN : N < 4000) (hK : K (mf M a0 N v)) : ∀ (f i : Nat), i ≤ N → N - i < f → T_fillS_2 a0 N f v (nI i) (mf M a0 i v) K := by
  intro f
  induction f with
  | zero => intro i h1 h2; exact absurd h2 (Nat.not_lt_zero _)
  | succ f ih =>
    intro i h1 h2
    rw [T_fillS_2]
    refine ⟨fun q => ?_, fun q => ⟨?_, fun M3 e3 y4 e4 => ?_⟩⟩
    · have : N ≤ i := (nI_leI (by omega) (by omega)).mp q
      have e : i = N := by omega
      rw [e]; exact hK
    · have hlt : i < N := Nat.not_le.mp fun z => q (nI_le z (by omega))
      exact vp_in_nI hlt (by omega)
    · have hlt : i < N := Nat.not_le.mp fun z => q (nI_le z (by omega))
      rw [e3, e4, nI_clamp (by omega), mf_s, nI_1]
      exact ih (i + 1) (by omega) (by omega)
theorem T_fillS_ok {a0 N : Nat} {v : Int32} {M : Mm} {K : Mm → Prop} (hN : N < 4000) (hK : K (mf M a0 N v)) : T_fillS a0 N v M K := by
  have h := T_fillS_lp hN hK 5000 0 (Nat.zero_le _) (by omega)
  have e : mf M a0 0 v = M := by
    funext a j
    unfold mf
    by_cases ha : a = a0
    · subst ha; simp
    · rw [if_neg ha]
  rw [e] at h
  exact h
theorem ak_int : Cond.arrayClass .int ∈ fx_all := (fx_s1 (List.mem_of_getElem? (i := 80) rfl) rfl)
theorem ob_c : Cond.code objectInit ⟨#[0xb1]⟩ 1 none ∈ fx_all := (fx_s1 (List.mem_of_getElem? (i := 28) rfl) rfl)
theorem fx_fs01 {z : Nat} {fs : List Nat} (h : ∀ f ∈ fs, f = 0 ∨ f = 1) : fx_fs z (fun _ => 0) fs = fs.map (fun f => if f = 0 then Value.int 0 else Value.null) := by
  apply List.ext_getElem?
  intro i
  unfold fx_fs
  rw [List.getElem?_mapIdx, List.getElem?_map]
  cases hf : fs[i]? with
  | none => rfl
  | some f =>
    rcases h f (List.mem_of_getElem? hf) with rfl | rfl <;> rfl
theorem nd_0 (z : Nat) : ∀ j, j < 9 → defaultValue (tyX0 j) = vp_V (fx_fs z (fun _ => 0) [1, 1, 1, 1, 1, 0, 0, 0, 0]) j := by
  rw [fx_fs01 (by decide)]
  decide +kernel
theorem nd_1 (z : Nat) : ∀ j, j < 7 → defaultValue (tyX1 j) = vp_V (fx_fs z (fun _ => 0) [0, 0, 1, 1, 1, 1, 1]) j := by
  rw [fx_fs01 (by decide)]
  decide +kernel
theorem nd_2 (z : Nat) : ∀ j, j < 8 → defaultValue (tyX2 j) = vp_V (fx_fs z (fun _ => 0) [1, 1, 1, 1, 1, 1, 0, 0]) j := by
  rw [fx_fs01 (by decide)]
  decide +kernel
theorem nd_3 (z : Nat) : ∀ j, j < 5 → defaultValue (tyX3 j) = vp_V (fx_fs z (fun _ => 0) [1, 1, 1, 0, 0]) j := by
  rw [fx_fs01 (by decide)]
  decide +kernel
theorem nd_4 (z : Nat) : ∀ j, j < 3 → defaultValue (tyX4 j) = vp_V (fx_fs z (fun _ => 0) [1, 0, 0]) j := by
  rw [fx_fs01 (by decide)]
  decide +kernel
theorem nd_5 (z : Nat) : ∀ j, j < 9 → defaultValue (tyX5 j) = vp_V (fx_fs z (fun _ => 0) [1, 1, 1, 1, 1, 1, 0, 0, 0]) j := by
  rw [fx_fs01 (by decide)]
  decide +kernel
theorem nd_6 (z : Nat) : ∀ j, j < 13 → defaultValue (tyX6 j) = vp_V (fx_fs z (fun _ => 0) [1, 1, 1, 1, 1, 1, 0, 0, 0, 0, 0, 0, 0]) j := by
  rw [fx_fs01 (by decide)]
  decide +kernel
theorem nd_7 (z : Nat) : ∀ j, j < 9 → defaultValue (tyX7 j) = vp_V (fx_fs z (fun _ => 0) [1, 0, 1, 1, 0, 0, 0, 0, 0]) j := by
  rw [fx_fs01 (by decide)]
  decide +kernel
theorem nd_8 (z : Nat) : ∀ j, j < 7 → defaultValue (tyX8 j) = vp_V (fx_fs z (fun _ => 0) [1, 1, 1, 1, 1, 1, 1]) j := by
  rw [fx_fs01 (by decide)]
  decide +kernel
theorem nd_9 (z : Nat) : ∀ j, j < 14 → defaultValue (tyX9 j) = vp_V (fx_fs z (fun _ => 0) [1, 1, 1, 1, 1, 1, 1, 1, 1, 0, 0, 0, 0, 0]) j := by
  rw [fx_fs01 (by decide)]
  decide +kernel
theorem nd_10 (z : Nat) : ∀ j, j < 6 → defaultValue (tyX10 j) = vp_V (fx_fs z (fun _ => 0) [1, 1, 1, 1, 1, 1]) j := by
  rw [fx_fs01 (by decide)]
  decide +kernel
theorem nd_11 (z : Nat) : ∀ j, j < 12 → defaultValue (tyX11 j) = vp_V (fx_fs z (fun _ => 0) [1, 1, 1, 1, 1, 1, 1, 1, 1, 0, 0, 0]) j := by
  rw [fx_fs01 (by decide)]
  decide +kernel
theorem nd_12 (z : Nat) : ∀ j, j < 72 → defaultValue (tyX12 j) = vp_V (fx_fs z (fun _ => 0) [0, 1, 1, 0, 1, 0, 0, 0, 1, 1, 1, 1, 1, 1, 1, 0, 0, 0, 0, 0, 1, 1, 1, 1, 1, 1, 1, 1, 0, 0, 0, 1, 0, 0, 0, 0, 0, 0, 1, 0, 1, 0, 1, 1, 1, 0, 0, 0, 1, 1, 1, 0, 1, 0, 1, 1, 1, 1, 1, 0, 1, 1, 0, 1, 1, 0, 1, 1, 0, 0, 0, 1]) j := by
  rw [fx_fs01 (by decide)]
  decide +kernel
