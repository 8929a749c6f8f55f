/-! MockParcels$Reader.append(I)V -/
theorem dX7_append_0 : decode cX7_append 0 = .ok (.bipush 24, 2) := by decide +kernel
theorem dX7_append_2 : decode cX7_append 2 = .ok (.istore_n 2, 1) := by decide +kernel
theorem dX7_append_3 : decode cX7_append 3 = .ok (.iload_n 2, 1) := by decide +kernel
theorem dX7_append_4 : decode cX7_append 4 = .ok (.ifCond .lt 45, 3) := by decide +kernel
theorem dX7_append_7 : decode cX7_append 7 = .ok (.aload_n 0, 1) := by decide +kernel
theorem dX7_append_8 : decode cX7_append 8 = .ok (.getfield 15, 3) := by decide +kernel
theorem dX7_append_11 : decode cX7_append 11 = .ok (.sipush 400, 3) := by decide +kernel
theorem dX7_append_14 : decode cX7_append 14 = .ok (.if_icmp .ge 35, 3) := by decide +kernel
theorem dX7_append_17 : decode cX7_append 17 = .ok (.aload_n 0, 1) := by decide +kernel
theorem dX7_append_18 : decode cX7_append 18 = .ok (.getfield 9, 3) := by decide +kernel
theorem dX7_append_21 : decode cX7_append 21 = .ok (.aload_n 0, 1) := by decide +kernel
theorem dX7_append_22 : decode cX7_append 22 = .ok (.getfield 15, 3) := by decide +kernel
theorem dX7_append_25 : decode cX7_append 25 = .ok (.iload_n 1, 1) := by decide +kernel
theorem dX7_append_26 : decode cX7_append 26 = .ok (.iload_n 2, 1) := by decide +kernel
theorem dX7_append_27 : decode cX7_append 27 = .ok (.iushr, 1) := by decide +kernel
theorem dX7_append_28 : decode cX7_append 28 = .ok (.sipush 255, 3) := by decide +kernel
theorem dX7_append_31 : decode cX7_append 31 = .ok (.iand, 1) := by decide +kernel
theorem dX7_append_32 : decode cX7_append 32 = .ok (.iastore, 1) := by decide +kernel
theorem dX7_append_33 : decode cX7_append 33 = .ok (.aload_n 0, 1) := by decide +kernel
theorem dX7_append_34 : decode cX7_append 34 = .ok (.dup, 1) := by decide +kernel
theorem dX7_append_35 : decode cX7_append 35 = .ok (.getfield 15, 3) := by decide +kernel
theorem dX7_append_38 : decode cX7_append 38 = .ok (.iconst 1, 1) := by decide +kernel
theorem dX7_append_39 : decode cX7_append 39 = .ok (.iadd, 1) := by decide +kernel
theorem dX7_append_40 : decode cX7_append 40 = .ok (.putfield 15, 3) := by decide +kernel
theorem dX7_append_43 : decode cX7_append 43 = .ok (.iinc 2 (-8), 3) := by decide +kernel
theorem dX7_append_46 : decode cX7_append 46 = .ok (.goto (-43), 3) := by decide +kernel
theorem dX7_append_49 : decode cX7_append 49 = .ok (.return_, 1) := by decide +kernel
def T_X7_append_3 : Nat → Int32 → Int32 → Mm → (Mm → Prop) → Prop
  | 0, _, _, _, _ => False
  | n + 1, x1, x2, M, K => ((x2 < 0 → (K M)) ∧ (¬ x2 < 0 → (((400 : Int32) ≤ (M 132 1) → (K M)) ∧ (¬ (400 : Int32) ≤ (M 132 1) → (vp_in (M 132 1) 400 ∧ (∀ M3 : Mm, M3 = m_up M 133 ((M 132 1)).toNatClampNeg ((((x1).toUInt32 >>> ((x2).toUInt32 &&& Int32.toUInt32 31)).toInt32) &&& (255 : Int32)) → (∀ M5 : Mm, M5 = m_up M3 132 1 ((M3 132 1) + (1 : Int32)) → (∀ y6 : Int32, y6 = x2 + (-8 : Int32) → (T_X7_append_3 n x1 y6 M5 K)))))))))
set_option maxHeartbeats 4000000 in
set_option maxRecDepth 100000 in
theorem w_X7_append_3 {p : Program} {l : Launch} {e : Env} {s : State} {m : MethodId} {args : Array Value} {below : List Frame} {meth : Method} {c : Code} {G : fx_G} {K : Mm → Prop} (X : fx_C G p s m c args cX7_append 3 RX7) (hr : meth.sig.returnType = none) (hk : meth.locks = false) : ∀ (n : Nat) (x1 : Int32) (x2 : Int32) (M : Mm) (H : Heap) (locs : List Loc) (ls : Array Slot), T_X7_append_3 n x1 x2 M K → fx_H G SH M s H locs → lv_has ls 3 [(0, .ref (G.2.2.2 + 132)), (1, .int x1), (2, .int x2)] → W p l e (fx_rm (0)) s m args below meth c H locs 0 0 (MQ below (va_Qv K (fx_R G SH) (fx_A G)) args s 0 0 (fx_A G)) (F0 m 3 ls []) := by
  obtain ⟨⟨hx, hb, hml, hown, hts⟩, hK, hQ⟩ := id X
  intro n
  induction n with
  | zero =>
    intro x1 x2 M H locs ls hT
    exact hT.elim
  | succ n ih =>
    intro x1 x2 M H locs ls hT h hl
    rw [T_X7_append_3] at hT
    refine lv_iload_n hx hb dX7_append_3 rfl (lv_at hl 2 rfl) ?_
    refine lv_if_lt (tgt := 49) hx hb dX7_append_4 (by decide) (fun hc1 => ?_) (fun hc1 => ?_)
    · have hT := hT.1 hc1
      exact fx_vret X hr hk h hT dX7_append_49
    · have hT := hT.2 hc1
      refine lv_aload_n hx hb dX7_append_7 rfl (lv_at hl 0 rfl) ?_
      refine fx_getI X h (k := 132) (j := 1) sh_132 rfl fl_RX7_15 dX7_append_8 ?_
      refine lv_sipush (v := 400) hx hb dX7_append_11 (by decide) ?_
      refine lv_icmp_ge (tgt := 49) hx hb dX7_append_14 (by decide) (fun hc2 => ?_) (fun hc2 => ?_)
      · have hT := hT.1 hc2
        exact fx_vret X hr hk h hT dX7_append_49
      · have hT := hT.2 hc2
        refine lv_aload_n hx hb dX7_append_17 rfl (lv_at hl 0 rfl) ?_
        refine fx_getR X h (k := 132) (j := 0) (r := 133) sh_132 rfl fl_RX7_9 dX7_append_18 ?_
        refine lv_aload_n hx hb dX7_append_21 rfl (lv_at hl 0 rfl) ?_
        refine fx_getI X h (k := 132) (j := 1) sh_132 rfl fl_RX7_15 dX7_append_22 ?_
        refine lv_iload_n hx hb dX7_append_25 rfl (lv_at hl 1 rfl) ?_
        refine lv_iload_n hx hb dX7_append_26 rfl (lv_at hl 2 rfl) ?_
        refine lv_iushr hx hb dX7_append_27 rfl ?_
        refine lv_sipush (v := 255) hx hb dX7_append_28 (by decide) ?_
        refine lv_iand hx hb dX7_append_31 ?_
        obtain ⟨hi4, hT⟩ := hT
        refine fx_iast X h (k := 133) sh_133 hi4 dX7_append_32 (fun H locs h => ?_)
        obtain ⟨M3, eM3⟩ : ∃ z : Mm, z = m_up M 133 ((M 132 1)).toNatClampNeg ((((x1).toUInt32 >>> ((x2).toUInt32 &&& Int32.toUInt32 31)).toInt32) &&& (255 : Int32)) := ⟨_, rfl⟩
        have hT := hT M3 eM3
        rw [← eM3] at h
        refine lv_aload_n hx hb dX7_append_33 rfl (lv_at hl 0 rfl) ?_
        refine lv_dup hx hb dX7_append_34 rfl ?_
        refine fx_getI X h (k := 132) (j := 1) sh_132 rfl fl_RX7_15 dX7_append_35 ?_
        refine lv_iconst (v := 1) hx hb dX7_append_38 (by decide) ?_
        refine lv_iadd hx hb dX7_append_39 ?_
        refine fx_putI X h (k := 132) (j := 1) sh_132 rfl fl_RX7_15 dX7_append_40 (fun H locs h => ?_)
        obtain ⟨M5, eM5⟩ : ∃ z : Mm, z = m_up M3 132 1 ((M3 132 1) + (1 : Int32)) := ⟨_, rfl⟩
        have hT := hT M5 eM5
        rw [← eM5] at h
        obtain ⟨y6, ey6⟩ : ∃ z : Int32, z = x2 + (-8 : Int32) := ⟨_, rfl⟩
        have hT := hT y6 ey6
        refine lv_iinc (v := y6) (lv' := [(2, .int y6), (0, .ref (G.2.2.2 + 132)), (1, .int x1)]) hx hb dX7_append_43 hl (k := 2) rfl (by rw [ey6]; rfl) (by decide) rfl (fun ls hl => ?_)
        refine lv_goto (tgt := 3) hx hb dX7_append_46 (by decide) ?_
        exact ih x1 y6 M5 _ _ ls hT h (lv_sub hl [1, 2, 0] rfl)
def T_X7_append (x1 : Int32) (M : Mm) (K : Mm → Prop) : Prop := (T_X7_append_3 5000 x1 (24 : Int32) M K)
set_option maxHeartbeats 4000000 in
set_option maxRecDepth 100000 in
theorem c_X7_append (l : Launch) (G : fx_G) {x1 : Int32} {M : Mm} {K : Mm → Prop} (hT : T_X7_append x1 M K) : Met l yX7_append (fx_ws yX7_append cX7_append 3 none) (fx_rm (0)) (va_Pc [.ref (G.2.2.2 + 132), .int x1] (fx_P G SH M)) (va_Qv K (fx_R G SH) (fx_A G)) 0 0 (fx_A G) := by
  refine fx_met (own := RX7) (by decide +kernel) rfl (Nat.le_of_ble_eq_true rfl) (fun p e s m below meth c X hr hk h ls hl => ?_)
  obtain ⟨⟨hx, hb, hml, hown, hts⟩, hK, hQ⟩ := id X
  have hl : lv_has ls 3 [(0, .ref (G.2.2.2 + 132)), (1, .int x1)] := hl
  unfold T_X7_append at hT
  refine lv_bipush (v := 24) hx hb dX7_append_0 (by decide) ?_
  refine lv_istore_n (lv' := [(2, .int (24 : Int32)), (0, .ref (G.2.2.2 + 132)), (1, .int x1)]) hx hb dX7_append_2 rfl hl (by decide) rfl (fun ls hl => ?_)
  exact w_X7_append_3 X hr hk 5000 x1 (24 : Int32) M _ _ ls hT h (lv_sub hl [1, 2, 0] rfl)
/-! MockParcels$Reader.isBlank(I)Z -/
theorem dX7_isBlank_0 : decode cX7_isBlank 0 = .ok (.iload_n 0, 1) := by decide +kernel
theorem dX7_isBlank_1 : decode cX7_isBlank 1 = .ok (.bipush 32, 2) := by decide +kernel
theorem dX7_isBlank_3 : decode cX7_isBlank 3 = .ok (.if_icmp .eq 9, 3) := by decide +kernel
theorem dX7_isBlank_6 : decode cX7_isBlank 6 = .ok (.iload_n 0, 1) := by decide +kernel
theorem dX7_isBlank_7 : decode cX7_isBlank 7 = .ok (.bipush 10, 2) := by decide +kernel
theorem dX7_isBlank_9 : decode cX7_isBlank 9 = .ok (.if_icmp .ne 7, 3) := by decide +kernel
theorem dX7_isBlank_12 : decode cX7_isBlank 12 = .ok (.iconst 1, 1) := by decide +kernel
theorem dX7_isBlank_13 : decode cX7_isBlank 13 = .ok (.goto 4, 3) := by decide +kernel
theorem dX7_isBlank_16 : decode cX7_isBlank 16 = .ok (.iconst 0, 1) := by decide +kernel
theorem dX7_isBlank_17 : decode cX7_isBlank 17 = .ok (.ireturn, 1) := by decide +kernel
def T_X7_isBlank_12 (M : Mm) (K : Int32 → Mm → Prop) : Prop := (K (1 : Int32) M)
set_option maxHeartbeats 4000000 in
set_option maxRecDepth 100000 in
theorem w_X7_isBlank_12 {p : Program} {l : Launch} {e : Env} {s : State} {m : MethodId} {args : Array Value} {below : List Frame} {meth : Method} {c : Code} {G : fx_G} {K : Int32 → Mm → Prop} (X : fx_C G p s m c args cX7_isBlank 1 RX7) (hr : meth.sig.returnType = (some .boolean)) (hk : meth.locks = false) : ∀ (M : Mm) (H : Heap) (locs : List Loc) (ls : Array Slot), T_X7_isBlank_12  M K → fx_H G SH M s H locs → lv_has ls 1 [] → W p l e (fx_rm (0)) s m args below meth c H locs 0 0 (MQ below (va_Qi K (fx_R G SH) (fx_A G)) args s 0 0 (fx_A G)) (F0 m 12 ls []) := by
  obtain ⟨⟨hx, hb, hml, hown, hts⟩, hK, hQ⟩ := id X
  intro  M H locs ls hT h hl
  unfold T_X7_isBlank_12 at hT
  refine lv_iconst (v := 1) hx hb dX7_isBlank_12 (by decide) ?_
  refine lv_goto (tgt := 17) hx hb dX7_isBlank_13 (by decide) ?_
  exact fx_zret X hr hk h (Or.inr rfl) hT dX7_isBlank_17
def T_X7_isBlank (x0 : Int32) (M : Mm) (K : Int32 → Mm → Prop) : Prop := ((x0 = (32 : Int32) → (T_X7_isBlank_12 M K)) ∧ (¬ x0 = (32 : Int32) → ((x0 = (10 : Int32) → (T_X7_isBlank_12 M K)) ∧ (¬ x0 = (10 : Int32) → (K (0 : Int32) M)))))
set_option maxHeartbeats 4000000 in
set_option maxRecDepth 100000 in
theorem c_X7_isBlank (l : Launch) (G : fx_G) {x0 : Int32} {M : Mm} {K : Int32 → Mm → Prop} (hT : T_X7_isBlank x0 M K) : Met l yX7_isBlank (fx_ws yX7_isBlank cX7_isBlank 1 (some .boolean)) (fx_rm (0)) (va_Pc [.int x0] (fx_P G SH M)) (va_Qi K (fx_R G SH) (fx_A G)) 0 0 (fx_A G) := by
  refine fx_met (own := RX7) (by decide +kernel) rfl (Nat.le_of_ble_eq_true rfl) (fun p e s m below meth c X hr hk h ls hl => ?_)
  obtain ⟨⟨hx, hb, hml, hown, hts⟩, hK, hQ⟩ := id X
  have hl : lv_has ls 1 [(0, .int x0)] := hl
  unfold T_X7_isBlank at hT
  refine lv_iload_n hx hb dX7_isBlank_0 rfl (lv_at hl 0 rfl) ?_
  refine lv_bipush (v := 32) hx hb dX7_isBlank_1 (by decide) ?_
  refine lv_icmp_eq (tgt := 12) hx hb dX7_isBlank_3 (by decide) (fun hc1 => ?_) (fun hc1 => ?_)
  · have hT := hT.1 hc1
    exact w_X7_isBlank_12 X hr hk M _ _ ls hT h (lv_sub hl [] rfl)
  · have hT := hT.2 hc1
    refine lv_iload_n hx hb dX7_isBlank_6 rfl (lv_at hl 0 rfl) ?_
    refine lv_bipush (v := 10) hx hb dX7_isBlank_7 (by decide) ?_
    refine lv_icmp_ne (tgt := 16) hx hb dX7_isBlank_9 (by decide) (fun hc2 => ?_) (fun hc2 => ?_)
    · have hT := hT.2 hc2
      refine lv_iconst (v := 0) hx hb dX7_isBlank_16 (by decide) ?_
      exact fx_zret X hr hk h (Or.inl rfl) hT dX7_isBlank_17
    · have hT := hT.1 hc2
      exact w_X7_isBlank_12 X hr hk M _ _ ls hT h (lv_sub hl [] rfl)
/-! MockParcels$Reader.isLetter(I)Z -/
theorem dX7_isLetter_0 : decode cX7_isLetter 0 = .ok (.iload_n 0, 1) := by decide +kernel
theorem dX7_isLetter_1 : decode cX7_isLetter 1 = .ok (.bipush 97, 2) := by decide +kernel
theorem dX7_isLetter_3 : decode cX7_isLetter 3 = .ok (.if_icmp .lt 9, 3) := by decide +kernel
theorem dX7_isLetter_6 : decode cX7_isLetter 6 = .ok (.iload_n 0, 1) := by decide +kernel
theorem dX7_isLetter_7 : decode cX7_isLetter 7 = .ok (.bipush 122, 2) := by decide +kernel
theorem dX7_isLetter_9 : decode cX7_isLetter 9 = .ok (.if_icmp .le 15, 3) := by decide +kernel
theorem dX7_isLetter_12 : decode cX7_isLetter 12 = .ok (.iload_n 0, 1) := by decide +kernel
theorem dX7_isLetter_13 : decode cX7_isLetter 13 = .ok (.bipush 65, 2) := by decide +kernel
theorem dX7_isLetter_15 : decode cX7_isLetter 15 = .ok (.if_icmp .lt 13, 3) := by decide +kernel
theorem dX7_isLetter_18 : decode cX7_isLetter 18 = .ok (.iload_n 0, 1) := by decide +kernel
theorem dX7_isLetter_19 : decode cX7_isLetter 19 = .ok (.bipush 90, 2) := by decide +kernel
theorem dX7_isLetter_21 : decode cX7_isLetter 21 = .ok (.if_icmp .gt 7, 3) := by decide +kernel
theorem dX7_isLetter_24 : decode cX7_isLetter 24 = .ok (.iconst 1, 1) := by decide +kernel
theorem dX7_isLetter_25 : decode cX7_isLetter 25 = .ok (.goto 4, 3) := by decide +kernel
theorem dX7_isLetter_28 : decode cX7_isLetter 28 = .ok (.iconst 0, 1) := by decide +kernel
theorem dX7_isLetter_29 : decode cX7_isLetter 29 = .ok (.ireturn, 1) := by decide +kernel
def T_X7_isLetter_24 (M : Mm) (K : Int32 → Mm → Prop) : Prop := (K (1 : Int32) M)
set_option maxHeartbeats 4000000 in
set_option maxRecDepth 100000 in
theorem w_X7_isLetter_24 {p : Program} {l : Launch} {e : Env} {s : State} {m : MethodId} {args : Array Value} {below : List Frame} {meth : Method} {c : Code} {G : fx_G} {K : Int32 → Mm → Prop} (X : fx_C G p s m c args cX7_isLetter 1 RX7) (hr : meth.sig.returnType = (some .boolean)) (hk : meth.locks = false) : ∀ (M : Mm) (H : Heap) (locs : List Loc) (ls : Array Slot), T_X7_isLetter_24  M K → fx_H G SH M s H locs → lv_has ls 1 [] → W p l e (fx_rm (0)) s m args below meth c H locs 0 0 (MQ below (va_Qi K (fx_R G SH) (fx_A G)) args s 0 0 (fx_A G)) (F0 m 24 ls []) := by
  obtain ⟨⟨hx, hb, hml, hown, hts⟩, hK, hQ⟩ := id X
  intro  M H locs ls hT h hl
  unfold T_X7_isLetter_24 at hT
  refine lv_iconst (v := 1) hx hb dX7_isLetter_24 (by decide) ?_
  refine lv_goto (tgt := 29) hx hb dX7_isLetter_25 (by decide) ?_
  exact fx_zret X hr hk h (Or.inr rfl) hT dX7_isLetter_29
def T_X7_isLetter_12 (x0 : Int32) (M : Mm) (K : Int32 → Mm → Prop) : Prop := ((x0 < (65 : Int32) → (K (0 : Int32) M)) ∧ (¬ x0 < (65 : Int32) → (((90 : Int32) < x0 → (K (0 : Int32) M)) ∧ (¬ (90 : Int32) < x0 → (T_X7_isLetter_24 M K)))))
set_option maxHeartbeats 4000000 in
set_option maxRecDepth 100000 in
theorem w_X7_isLetter_12 {p : Program} {l : Launch} {e : Env} {s : State} {m : MethodId} {args : Array Value} {below : List Frame} {meth : Method} {c : Code} {G : fx_G} {K : Int32 → Mm → Prop} (X : fx_C G p s m c args cX7_isLetter 1 RX7) (hr : meth.sig.returnType = (some .boolean)) (hk : meth.locks = false) : ∀ (x0 : Int32) (M : Mm) (H : Heap) (locs : List Loc) (ls : Array Slot), T_X7_isLetter_12 x0 M K → fx_H G SH M s H locs → lv_has ls 1 [(0, .int x0)] → W p l e (fx_rm (0)) s m args below meth c H locs 0 0 (MQ below (va_Qi K (fx_R G SH) (fx_A G)) args s 0 0 (fx_A G)) (F0 m 12 ls []) := by
  obtain ⟨⟨hx, hb, hml, hown, hts⟩, hK, hQ⟩ := id X
  intro x0 M H locs ls hT h hl
  unfold T_X7_isLetter_12 at hT
  refine lv_iload_n hx hb dX7_isLetter_12 rfl (lv_at hl 0 rfl) ?_
  refine lv_bipush (v := 65) hx hb dX7_isLetter_13 (by decide) ?_
  refine lv_icmp_lt (tgt := 28) hx hb dX7_isLetter_15 (by decide) (fun hc1 => ?_) (fun hc1 => ?_)
  · have hT := hT.1 hc1
    refine lv_iconst (v := 0) hx hb dX7_isLetter_28 (by decide) ?_
    exact fx_zret X hr hk h (Or.inl rfl) hT dX7_isLetter_29
  · have hT := hT.2 hc1
    refine lv_iload_n hx hb dX7_isLetter_18 rfl (lv_at hl 0 rfl) ?_
    refine lv_bipush (v := 90) hx hb dX7_isLetter_19 (by decide) ?_
    refine lv_icmp_gt (tgt := 28) hx hb dX7_isLetter_21 (by decide) (fun hc2 => ?_) (fun hc2 => ?_)
    · have hT := hT.1 hc2
      refine lv_iconst (v := 0) hx hb dX7_isLetter_28 (by decide) ?_
      exact fx_zret X hr hk h (Or.inl rfl) hT dX7_isLetter_29
    · have hT := hT.2 hc2
      exact w_X7_isLetter_24 X hr hk M _ _ ls hT h (lv_sub hl [] rfl)
def T_X7_isLetter (x0 : Int32) (M : Mm) (K : Int32 → Mm → Prop) : Prop := ((x0 < (97 : Int32) → (T_X7_isLetter_12 x0 M K)) ∧ (¬ x0 < (97 : Int32) → ((x0 ≤ (122 : Int32) → (T_X7_isLetter_24 M K)) ∧ (¬ x0 ≤ (122 : Int32) → (T_X7_isLetter_12 x0 M K)))))
set_option maxHeartbeats 4000000 in
set_option maxRecDepth 100000 in
theorem c_X7_isLetter (l : Launch) (G : fx_G) {x0 : Int32} {M : Mm} {K : Int32 → Mm → Prop} (hT : T_X7_isLetter x0 M K) : Met l yX7_isLetter (fx_ws yX7_isLetter cX7_isLetter 1 (some .boolean)) (fx_rm (0)) (va_Pc [.int x0] (fx_P G SH M)) (va_Qi K (fx_R G SH) (fx_A G)) 0 0 (fx_A G) := by
  refine fx_met (own := RX7) (by decide +kernel) rfl (Nat.le_of_ble_eq_true rfl) (fun p e s m below meth c X hr hk h ls hl => ?_)
  obtain ⟨⟨hx, hb, hml, hown, hts⟩, hK, hQ⟩ := id X
  have hl : lv_has ls 1 [(0, .int x0)] := hl
  unfold T_X7_isLetter at hT
  refine lv_iload_n hx hb dX7_isLetter_0 rfl (lv_at hl 0 rfl) ?_
  refine lv_bipush (v := 97) hx hb dX7_isLetter_1 (by decide) ?_
  refine lv_icmp_lt (tgt := 12) hx hb dX7_isLetter_3 (by decide) (fun hc3 => ?_) (fun hc3 => ?_)
  · have hT := hT.1 hc3
    exact w_X7_isLetter_12 X hr hk x0 M _ _ ls hT h (lv_sub hl [0] rfl)
  · have hT := hT.2 hc3
    refine lv_iload_n hx hb dX7_isLetter_6 rfl (lv_at hl 0 rfl) ?_
    refine lv_bipush (v := 122) hx hb dX7_isLetter_7 (by decide) ?_
    refine lv_icmp_le (tgt := 24) hx hb dX7_isLetter_9 (by decide) (fun hc4 => ?_) (fun hc4 => ?_)
    · have hT := hT.1 hc4
      exact w_X7_isLetter_24 X hr hk M _ _ ls hT h (lv_sub hl [] rfl)
    · have hT := hT.2 hc4
      exact w_X7_isLetter_12 X hr hk x0 M _ _ ls hT h (lv_sub hl [0] rfl)
/-! MockParcels$Reader.isDigit(I)Z -/
theorem dX7_isDigit_0 : decode cX7_isDigit 0 = .ok (.iload_n 0, 1) := by decide +kernel
theorem dX7_isDigit_1 : decode cX7_isDigit 1 = .ok (.bipush 48, 2) := by decide +kernel
theorem dX7_isDigit_3 : decode cX7_isDigit 3 = .ok (.if_icmp .lt 13, 3) := by decide +kernel
theorem dX7_isDigit_6 : decode cX7_isDigit 6 = .ok (.iload_n 0, 1) := by decide +kernel
theorem dX7_isDigit_7 : decode cX7_isDigit 7 = .ok (.bipush 57, 2) := by decide +kernel
theorem dX7_isDigit_9 : decode cX7_isDigit 9 = .ok (.if_icmp .gt 7, 3) := by decide +kernel
theorem dX7_isDigit_12 : decode cX7_isDigit 12 = .ok (.iconst 1, 1) := by decide +kernel
theorem dX7_isDigit_13 : decode cX7_isDigit 13 = .ok (.goto 4, 3) := by decide +kernel
theorem dX7_isDigit_16 : decode cX7_isDigit 16 = .ok (.iconst 0, 1) := by decide +kernel
theorem dX7_isDigit_17 : decode cX7_isDigit 17 = .ok (.ireturn, 1) := by decide +kernel
def T_X7_isDigit (x0 : Int32) (M : Mm) (K : Int32 → Mm → Prop) : Prop := ((x0 < (48 : Int32) → (K (0 : Int32) M)) ∧ (¬ x0 < (48 : Int32) → (((57 : Int32) < x0 → (K (0 : Int32) M)) ∧ (¬ (57 : Int32) < x0 → (K (1 : Int32) M)))))
set_option maxHeartbeats 4000000 in
set_option maxRecDepth 100000 in
theorem c_X7_isDigit (l : Launch) (G : fx_G) {x0 : Int32} {M : Mm} {K : Int32 → Mm → Prop} (hT : T_X7_isDigit x0 M K) : Met l yX7_isDigit (fx_ws yX7_isDigit cX7_isDigit 1 (some .boolean)) (fx_rm (0)) (va_Pc [.int x0] (fx_P G SH M)) (va_Qi K (fx_R G SH) (fx_A G)) 0 0 (fx_A G) := by
  refine fx_met (own := RX7) (by decide +kernel) rfl (Nat.le_of_ble_eq_true rfl) (fun p e s m below meth c X hr hk h ls hl => ?_)
  obtain ⟨⟨hx, hb, hml, hown, hts⟩, hK, hQ⟩ := id X
  have hl : lv_has ls 1 [(0, .int x0)] := hl
  unfold T_X7_isDigit at hT
  refine lv_iload_n hx hb dX7_isDigit_0 rfl (lv_at hl 0 rfl) ?_
  refine lv_bipush (v := 48) hx hb dX7_isDigit_1 (by decide) ?_
  refine lv_icmp_lt (tgt := 16) hx hb dX7_isDigit_3 (by decide) (fun hc1 => ?_) (fun hc1 => ?_)
  · have hT := hT.1 hc1
    refine lv_iconst (v := 0) hx hb dX7_isDigit_16 (by decide) ?_
    exact fx_zret X hr hk h (Or.inl rfl) hT dX7_isDigit_17
  · have hT := hT.2 hc1
    refine lv_iload_n hx hb dX7_isDigit_6 rfl (lv_at hl 0 rfl) ?_
    refine lv_bipush (v := 57) hx hb dX7_isDigit_7 (by decide) ?_
    refine lv_icmp_gt (tgt := 16) hx hb dX7_isDigit_9 (by decide) (fun hc2 => ?_) (fun hc2 => ?_)
    · have hT := hT.1 hc2
      refine lv_iconst (v := 0) hx hb dX7_isDigit_16 (by decide) ?_
      exact fx_zret X hr hk h (Or.inl rfl) hT dX7_isDigit_17
    · have hT := hT.2 hc2
      refine lv_iconst (v := 1) hx hb dX7_isDigit_12 (by decide) ?_
      refine lv_goto (tgt := 17) hx hb dX7_isDigit_13 (by decide) ?_
      exact fx_zret X hr hk h (Or.inr rfl) hT dX7_isDigit_17
/-! MockParcels$Reader.behindToken(I)I -/
theorem dX7_behindToken_0 : decode cX7_behindToken 0 = .ok (.aload_n 0, 1) := by decide +kernel
theorem dX7_behindToken_1 : decode cX7_behindToken 1 = .ok (.getfield 9, 3) := by decide +kernel
theorem dX7_behindToken_4 : decode cX7_behindToken 4 = .ok (.iload_n 1, 1) := by decide +kernel
theorem dX7_behindToken_5 : decode cX7_behindToken 5 = .ok (.iaload, 1) := by decide +kernel
theorem dX7_behindToken_6 : decode cX7_behindToken 6 = .ok (.invokestatic 66, 3) := by decide +kernel
theorem dX7_behindToken_9 : decode cX7_behindToken 9 = .ok (.istore_n 2, 1) := by decide +kernel
theorem dX7_behindToken_10 : decode cX7_behindToken 10 = .ok (.aload_n 0, 1) := by decide +kernel
theorem dX7_behindToken_11 : decode cX7_behindToken 11 = .ok (.getfield 9, 3) := by decide +kernel
theorem dX7_behindToken_14 : decode cX7_behindToken 14 = .ok (.iload_n 1, 1) := by decide +kernel
theorem dX7_behindToken_15 : decode cX7_behindToken 15 = .ok (.iaload, 1) := by decide +kernel
theorem dX7_behindToken_16 : decode cX7_behindToken 16 = .ok (.invokestatic 69, 3) := by decide +kernel
theorem dX7_behindToken_19 : decode cX7_behindToken 19 = .ok (.istore_n 3, 1) := by decide +kernel
theorem dX7_behindToken_20 : decode cX7_behindToken 20 = .ok (.iload_n 1, 1) := by decide +kernel
theorem dX7_behindToken_21 : decode cX7_behindToken 21 = .ok (.iconst 1, 1) := by decide +kernel
theorem dX7_behindToken_22 : decode cX7_behindToken 22 = .ok (.iadd, 1) := by decide +kernel
theorem dX7_behindToken_23 : decode cX7_behindToken 23 = .ok (.istore 4, 2) := by decide +kernel
theorem dX7_behindToken_25 : decode cX7_behindToken 25 = .ok (.iload 4, 2) := by decide +kernel
theorem dX7_behindToken_27 : decode cX7_behindToken 27 = .ok (.aload_n 0, 1) := by decide +kernel
theorem dX7_behindToken_28 : decode cX7_behindToken 28 = .ok (.getfield 15, 3) := by decide +kernel
theorem dX7_behindToken_31 : decode cX7_behindToken 31 = .ok (.if_icmp .ge 51, 3) := by decide +kernel
theorem dX7_behindToken_34 : decode cX7_behindToken 34 = .ok (.iload 4, 2) := by decide +kernel
theorem dX7_behindToken_36 : decode cX7_behindToken 36 = .ok (.sipush 400, 3) := by decide +kernel
theorem dX7_behindToken_39 : decode cX7_behindToken 39 = .ok (.if_icmp .ge 43, 3) := by decide +kernel
theorem dX7_behindToken_42 : decode cX7_behindToken 42 = .ok (.iload_n 2, 1) := by decide +kernel
theorem dX7_behindToken_43 : decode cX7_behindToken 43 = .ok (.ifCond .eq 16, 3) := by decide +kernel
theorem dX7_behindToken_46 : decode cX7_behindToken 46 = .ok (.aload_n 0, 1) := by decide +kernel
theorem dX7_behindToken_47 : decode cX7_behindToken 47 = .ok (.getfield 9, 3) := by decide +kernel
theorem dX7_behindToken_50 : decode cX7_behindToken 50 = .ok (.iload 4, 2) := by decide +kernel
theorem dX7_behindToken_52 : decode cX7_behindToken 52 = .ok (.iaload, 1) := by decide +kernel
theorem dX7_behindToken_53 : decode cX7_behindToken 53 = .ok (.invokestatic 66, 3) := by decide +kernel
theorem dX7_behindToken_56 : decode cX7_behindToken 56 = .ok (.ifCond .ne 20, 3) := by decide +kernel
theorem dX7_behindToken_59 : decode cX7_behindToken 59 = .ok (.iload_n 3, 1) := by decide +kernel
theorem dX7_behindToken_60 : decode cX7_behindToken 60 = .ok (.ifCond .eq 22, 3) := by decide +kernel
theorem dX7_behindToken_63 : decode cX7_behindToken 63 = .ok (.aload_n 0, 1) := by decide +kernel
theorem dX7_behindToken_64 : decode cX7_behindToken 64 = .ok (.getfield 9, 3) := by decide +kernel
theorem dX7_behindToken_67 : decode cX7_behindToken 67 = .ok (.iload 4, 2) := by decide +kernel
theorem dX7_behindToken_69 : decode cX7_behindToken 69 = .ok (.iaload, 1) := by decide +kernel
theorem dX7_behindToken_70 : decode cX7_behindToken 70 = .ok (.invokestatic 69, 3) := by decide +kernel
theorem dX7_behindToken_73 : decode cX7_behindToken 73 = .ok (.ifCond .eq 9, 3) := by decide +kernel
theorem dX7_behindToken_76 : decode cX7_behindToken 76 = .ok (.iinc 4 1, 3) := by decide +kernel
theorem dX7_behindToken_79 : decode cX7_behindToken 79 = .ok (.goto (-54), 3) := by decide +kernel
theorem dX7_behindToken_82 : decode cX7_behindToken 82 = .ok (.iload 4, 2) := by decide +kernel
theorem dX7_behindToken_84 : decode cX7_behindToken 84 = .ok (.ireturn, 1) := by decide +kernel
def T_X7_behindToken_76 (B25 : Int32 → Int32 → Int32 → Mm → Prop) (x2 : Int32) (x3 : Int32) (x4 : Int32) (M : Mm) (K : Int32 → Mm → Prop) : Prop := (∀ y1 : Int32, y1 = x4 + (1 : Int32) → (B25 x2 x3 y1 M))
set_option maxHeartbeats 4000000 in
set_option maxRecDepth 100000 in
theorem w_X7_behindToken_76 {p : Program} {l : Launch} {e : Env} {s : State} {m : MethodId} {args : Array Value} {below : List Frame} {meth : Method} {c : Code} {G : fx_G} {K : Int32 → Mm → Prop} {B25 : Int32 → Int32 → Int32 → Mm → Prop} (X : fx_C G p s m c args cX7_behindToken 5 RX7) (hr : meth.sig.returnType = (some .int)) (hk : meth.locks = false) (hB25 : ∀ (x2 : Int32) (x3 : Int32) (x4 : Int32) (M : Mm) (H : Heap) (locs : List Loc) (ls : Array Slot), B25 x2 x3 x4 M → fx_H G SH M s H locs → lv_has ls 5 [(0, .ref (G.2.2.2 + 132)), (2, .int x2), (3, .int x3), (4, .int x4)] → W p l e (fx_rm (1)) s m args below meth c H locs 0 0 (MQ below (va_Qi K (fx_R G SH) (fx_A G)) args s 0 0 (fx_A G)) (F0 m 25 ls [])) : ∀ (x2 : Int32) (x3 : Int32) (x4 : Int32) (M : Mm) (H : Heap) (locs : List Loc) (ls : Array Slot), T_X7_behindToken_76 B25 x2 x3 x4 M K → fx_H G SH M s H locs → lv_has ls 5 [(0, .ref (G.2.2.2 + 132)), (2, .int x2), (3, .int x3), (4, .int x4)] → W p l e (fx_rm (1)) s m args below meth c H locs 0 0 (MQ below (va_Qi K (fx_R G SH) (fx_A G)) args s 0 0 (fx_A G)) (F0 m 76 ls []) := by
  obtain ⟨⟨hx, hb, hml, hown, hts⟩, hK, hQ⟩ := id X
  intro x2 x3 x4 M H locs ls hT h hl
  unfold T_X7_behindToken_76 at hT
  obtain ⟨y1, ey1⟩ : ∃ z : Int32, z = x4 + (1 : Int32) := ⟨_, rfl⟩
  have hT := hT y1 ey1
  refine lv_iinc (v := y1) (lv' := [(4, .int y1), (0, .ref (G.2.2.2 + 132)), (2, .int x2), (3, .int x3)]) hx hb dX7_behindToken_76 hl (k := 3) rfl (by rw [ey1]; rfl) (by decide) rfl (fun ls hl => ?_)
  refine lv_goto (tgt := 25) hx hb dX7_behindToken_79 (by decide) ?_
  exact hB25 x2 x3 y1 M _ _ ls hT h (lv_sub hl [1, 2, 3, 0] rfl)
def T_X7_behindToken_59 (B25 : Int32 → Int32 → Int32 → Mm → Prop) (x2 : Int32) (x3 : Int32) (x4 : Int32) (M : Mm) (K : Int32 → Mm → Prop) : Prop := ((x3 = 0 → (K x4 M)) ∧ (¬ x3 = 0 → (vp_in x4 400 ∧ (T_X7_isDigit (M 133 (x4).toNatClampNeg) M (fun r6 M5 => ((r6 = 0 → (K x4 M5)) ∧ (¬ r6 = 0 → (T_X7_behindToken_76 B25 x2 x3 x4 M5 K))))))))
set_option maxHeartbeats 4000000 in
set_option maxRecDepth 100000 in
theorem w_X7_behindToken_59 {p : Program} {l : Launch} {e : Env} {s : State} {m : MethodId} {args : Array Value} {below : List Frame} {meth : Method} {c : Code} {G : fx_G} {K : Int32 → Mm → Prop} {B25 : Int32 → Int32 → Int32 → Mm → Prop} (X : fx_C G p s m c args cX7_behindToken 5 RX7) (hr : meth.sig.returnType = (some .int)) (hk : meth.locks = false) (hB25 : ∀ (x2 : Int32) (x3 : Int32) (x4 : Int32) (M : Mm) (H : Heap) (locs : List Loc) (ls : Array Slot), B25 x2 x3 x4 M → fx_H G SH M s H locs → lv_has ls 5 [(0, .ref (G.2.2.2 + 132)), (2, .int x2), (3, .int x3), (4, .int x4)] → W p l e (fx_rm (1)) s m args below meth c H locs 0 0 (MQ below (va_Qi K (fx_R G SH) (fx_A G)) args s 0 0 (fx_A G)) (F0 m 25 ls [])) : ∀ (x2 : Int32) (x3 : Int32) (x4 : Int32) (M : Mm) (H : Heap) (locs : List Loc) (ls : Array Slot), T_X7_behindToken_59 B25 x2 x3 x4 M K → fx_H G SH M s H locs → lv_has ls 5 [(0, .ref (G.2.2.2 + 132)), (2, .int x2), (3, .int x3), (4, .int x4)] → W p l e (fx_rm (1)) s m args below meth c H locs 0 0 (MQ below (va_Qi K (fx_R G SH) (fx_A G)) args s 0 0 (fx_A G)) (F0 m 59 ls []) := by
  obtain ⟨⟨hx, hb, hml, hown, hts⟩, hK, hQ⟩ := id X
  intro x2 x3 x4 M H locs ls hT h hl
  unfold T_X7_behindToken_59 at hT
  refine lv_iload_n hx hb dX7_behindToken_59 rfl (lv_at hl 2 rfl) ?_
  refine lv_if_eq (tgt := 82) hx hb dX7_behindToken_60 (by decide) (fun hc2 => ?_) (fun hc2 => ?_)
  · have hT := hT.1 hc2
    refine lv_iload hx hb dX7_behindToken_82 (lv_at hl 3 rfl) ?_
    exact fx_iret X hr hk h hT dX7_behindToken_84
  · have hT := hT.2 hc2
    refine lv_aload_n hx hb dX7_behindToken_63 rfl (lv_at hl 0 rfl) ?_
    refine fx_getR X h (k := 132) (j := 0) (r := 133) sh_132 rfl fl_RX7_9 dX7_behindToken_64 ?_
    refine lv_iload hx hb dX7_behindToken_67 (lv_at hl 3 rfl) ?_
    obtain ⟨hi3, hT⟩ := hT
    refine fx_iald X h (k := 133) sh_133 hi3 dX7_behindToken_69 ?_
    refine fx_si X h ym_X7_isDigit yt_X7_isDigit (fx_s4 (List.mem_of_getElem? (i := 28) rfl) rfl) (c_X7_isDigit l G hT) (As := [.int (M 133 (x4).toNatClampNeg)]) (rest := []) rfl rfl ⟨Nat.le_of_ble_eq_true rfl, Nat.le_of_ble_eq_true rfl⟩ ⟨Nat.le_refl _, Nat.le_refl _⟩ hl.1 (Nat.le_of_ble_eq_true rfl) dX7_behindToken_70 (fun r6 M5 H locs hT h => ?_)
    refine lv_if_eq (tgt := 82) hx hb dX7_behindToken_73 (by decide) (fun hc7 => ?_) (fun hc7 => ?_)
    · have hT := hT.1 hc7
      refine lv_iload hx hb dX7_behindToken_82 (lv_at hl 3 rfl) ?_
      exact fx_iret X hr hk h hT dX7_behindToken_84
    · have hT := hT.2 hc7
      exact w_X7_behindToken_76 X hr hk (B25 := B25) hB25 x2 x3 x4 M5 _ _ ls hT h (lv_sub hl [0, 1, 2, 3] rfl)
def T_X7_behindToken_25 : Nat → Int32 → Int32 → Int32 → Mm → (Int32 → Mm → Prop) → Prop
  | 0, _, _, _, _, _ => False
  | n + 1, x2, x3, x4, M, K => (((M 132 1) ≤ x4 → (K x4 M)) ∧ (¬ (M 132 1) ≤ x4 → (((400 : Int32) ≤ x4 → (K x4 M)) ∧ (¬ (400 : Int32) ≤ x4 → ((x2 = 0 → (T_X7_behindToken_59 (fun x2 x3 x4 M => T_X7_behindToken_25 n x2 x3 x4 M K) x2 x3 x4 M K)) ∧ (¬ x2 = 0 → (vp_in x4 400 ∧ (T_X7_isLetter (M 133 (x4).toNatClampNeg) M (fun r14 M13 => ((r14 = 0 → (T_X7_behindToken_59 (fun x2 x3 x4 M => T_X7_behindToken_25 n x2 x3 x4 M K) x2 x3 x4 M13 K)) ∧ (¬ r14 = 0 → (T_X7_behindToken_76 (fun x2 x3 x4 M => T_X7_behindToken_25 n x2 x3 x4 M K) x2 x3 x4 M13 K))))))))))))
set_option maxHeartbeats 4000000 in
set_option maxRecDepth 100000 in
theorem w_X7_behindToken_25 {p : Program} {l : Launch} {e : Env} {s : State} {m : MethodId} {args : Array Value} {below : List Frame} {meth : Method} {c : Code} {G : fx_G} {K : Int32 → Mm → Prop} (X : fx_C G p s m c args cX7_behindToken 5 RX7) (hr : meth.sig.returnType = (some .int)) (hk : meth.locks = false) : ∀ (n : Nat) (x2 : Int32) (x3 : Int32) (x4 : Int32) (M : Mm) (H : Heap) (locs : List Loc) (ls : Array Slot), T_X7_behindToken_25 n x2 x3 x4 M K → fx_H G SH M s H locs → lv_has ls 5 [(0, .ref (G.2.2.2 + 132)), (2, .int x2), (3, .int x3), (4, .int x4)] → W p l e (fx_rm (1)) s m args below meth c H locs 0 0 (MQ below (va_Qi K (fx_R G SH) (fx_A G)) args s 0 0 (fx_A G)) (F0 m 25 ls []) := by
  obtain ⟨⟨hx, hb, hml, hown, hts⟩, hK, hQ⟩ := id X
  intro n
  induction n with
  | zero =>
    intro x2 x3 x4 M H locs ls hT
    exact hT.elim
  | succ n ih =>
    intro x2 x3 x4 M H locs ls hT h hl
    rw [T_X7_behindToken_25] at hT
    refine lv_iload hx hb dX7_behindToken_25 (lv_at hl 3 rfl) ?_
    refine lv_aload_n hx hb dX7_behindToken_27 rfl (lv_at hl 0 rfl) ?_
    refine fx_getI X h (k := 132) (j := 1) sh_132 rfl fl_RX7_15 dX7_behindToken_28 ?_
    refine lv_icmp_ge (tgt := 82) hx hb dX7_behindToken_31 (by decide) (fun hc8 => ?_) (fun hc8 => ?_)
    · have hT := hT.1 hc8
      refine lv_iload hx hb dX7_behindToken_82 (lv_at hl 3 rfl) ?_
      exact fx_iret X hr hk h hT dX7_behindToken_84
    · have hT := hT.2 hc8
      refine lv_iload hx hb dX7_behindToken_34 (lv_at hl 3 rfl) ?_
      refine lv_sipush (v := 400) hx hb dX7_behindToken_36 (by decide) ?_
      refine lv_icmp_ge (tgt := 82) hx hb dX7_behindToken_39 (by decide) (fun hc9 => ?_) (fun hc9 => ?_)
      · have hT := hT.1 hc9
        refine lv_iload hx hb dX7_behindToken_82 (lv_at hl 3 rfl) ?_
        exact fx_iret X hr hk h hT dX7_behindToken_84
      · have hT := hT.2 hc9
        refine lv_iload_n hx hb dX7_behindToken_42 rfl (lv_at hl 1 rfl) ?_
        refine lv_if_eq (tgt := 59) hx hb dX7_behindToken_43 (by decide) (fun hc10 => ?_) (fun hc10 => ?_)
        · have hT := hT.1 hc10
          exact w_X7_behindToken_59 X hr hk (B25 := (fun x2 x3 x4 M => T_X7_behindToken_25 n x2 x3 x4 M K)) ih x2 x3 x4 M _ _ ls hT h (lv_sub hl [0, 1, 2, 3] rfl)
        · have hT := hT.2 hc10
          refine lv_aload_n hx hb dX7_behindToken_46 rfl (lv_at hl 0 rfl) ?_
          refine fx_getR X h (k := 132) (j := 0) (r := 133) sh_132 rfl fl_RX7_9 dX7_behindToken_47 ?_
          refine lv_iload hx hb dX7_behindToken_50 (lv_at hl 3 rfl) ?_
          obtain ⟨hi11, hT⟩ := hT
          refine fx_iald X h (k := 133) sh_133 hi11 dX7_behindToken_52 ?_
          refine fx_si X h ym_X7_isLetter yt_X7_isLetter (fx_s4 (List.mem_of_getElem? (i := 25) rfl) rfl) (c_X7_isLetter l G hT) (As := [.int (M 133 (x4).toNatClampNeg)]) (rest := []) rfl rfl ⟨Nat.le_of_ble_eq_true rfl, Nat.le_of_ble_eq_true rfl⟩ ⟨Nat.le_refl _, Nat.le_refl _⟩ hl.1 (Nat.le_of_ble_eq_true rfl) dX7_behindToken_53 (fun r14 M13 H locs hT h => ?_)
          refine lv_if_ne (tgt := 76) hx hb dX7_behindToken_56 (by decide) (fun hc15 => ?_) (fun hc15 => ?_)
          · have hT := hT.2 hc15
            exact w_X7_behindToken_76 X hr hk (B25 := (fun x2 x3 x4 M => T_X7_behindToken_25 n x2 x3 x4 M K)) ih x2 x3 x4 M13 _ _ ls hT h (lv_sub hl [0, 1, 2, 3] rfl)
          · have hT := hT.1 hc15
            exact w_X7_behindToken_59 X hr hk (B25 := (fun x2 x3 x4 M => T_X7_behindToken_25 n x2 x3 x4 M K)) ih x2 x3 x4 M13 _ _ ls hT h (lv_sub hl [0, 1, 2, 3] rfl)
def T_X7_behindToken (x1 : Int32) (M : Mm) (K : Int32 → Mm → Prop) : Prop := (vp_in x1 400 ∧ (T_X7_isLetter (M 133 (x1).toNatClampNeg) M (fun r19 M18 => (vp_in x1 400 ∧ (T_X7_isDigit (M18 133 (x1).toNatClampNeg) M18 (fun r23 M22 => (∀ y24 : Int32, y24 = (x1 + (1 : Int32)) → (T_X7_behindToken_25 5000 r19 r23 y24 M22 K))))))))
set_option maxHeartbeats 4000000 in
set_option maxRecDepth 100000 in
theorem c_X7_behindToken (l : Launch) (G : fx_G) {x1 : Int32} {M : Mm} {K : Int32 → Mm → Prop} (hT : T_X7_behindToken x1 M K) : Met l yX7_behindToken (fx_ws yX7_behindToken cX7_behindToken 5 (some .int)) (fx_rm (1)) (va_Pc [.ref (G.2.2.2 + 132), .int x1] (fx_P G SH M)) (va_Qi K (fx_R G SH) (fx_A G)) 0 0 (fx_A G) := by
  refine fx_met (own := RX7) (by decide +kernel) rfl (Nat.le_of_ble_eq_true rfl) (fun p e s m below meth c X hr hk h ls hl => ?_)
  obtain ⟨⟨hx, hb, hml, hown, hts⟩, hK, hQ⟩ := id X
  have hl : lv_has ls 5 [(0, .ref (G.2.2.2 + 132)), (1, .int x1)] := hl
  unfold T_X7_behindToken at hT
  refine lv_aload_n hx hb dX7_behindToken_0 rfl (lv_at hl 0 rfl) ?_
  refine fx_getR X h (k := 132) (j := 0) (r := 133) sh_132 rfl fl_RX7_9 dX7_behindToken_1 ?_
  refine lv_iload_n hx hb dX7_behindToken_4 rfl (lv_at hl 1 rfl) ?_
  obtain ⟨hi16, hT⟩ := hT
  refine fx_iald X h (k := 133) sh_133 hi16 dX7_behindToken_5 ?_
  refine fx_si X h ym_X7_isLetter yt_X7_isLetter (fx_s4 (List.mem_of_getElem? (i := 25) rfl) rfl) (c_X7_isLetter l G hT) (As := [.int (M 133 (x1).toNatClampNeg)]) (rest := []) rfl rfl ⟨Nat.le_of_ble_eq_true rfl, Nat.le_of_ble_eq_true rfl⟩ ⟨Nat.le_refl _, Nat.le_refl _⟩ hl.1 (Nat.le_of_ble_eq_true rfl) dX7_behindToken_6 (fun r19 M18 H locs hT h => ?_)
  refine lv_istore_n (lv' := [(2, .int r19), (0, .ref (G.2.2.2 + 132)), (1, .int x1)]) hx hb dX7_behindToken_9 rfl hl (by decide) rfl (fun ls hl => ?_)
  refine lv_aload_n hx hb dX7_behindToken_10 rfl (lv_at hl 1 rfl) ?_
  refine fx_getR X h (k := 132) (j := 0) (r := 133) sh_132 rfl fl_RX7_9 dX7_behindToken_11 ?_
  refine lv_iload_n hx hb dX7_behindToken_14 rfl (lv_at hl 2 rfl) ?_
  obtain ⟨hi20, hT⟩ := hT
  refine fx_iald X h (k := 133) sh_133 hi20 dX7_behindToken_15 ?_
  refine fx_si X h ym_X7_isDigit yt_X7_isDigit (fx_s4 (List.mem_of_getElem? (i := 28) rfl) rfl) (c_X7_isDigit l G hT) (As := [.int (M18 133 (x1).toNatClampNeg)]) (rest := []) rfl rfl ⟨Nat.le_of_ble_eq_true rfl, Nat.le_of_ble_eq_true rfl⟩ ⟨Nat.le_refl _, Nat.le_refl _⟩ hl.1 (Nat.le_of_ble_eq_true rfl) dX7_behindToken_16 (fun r23 M22 H locs hT h => ?_)
  refine lv_istore_n (lv' := [(3, .int r23), (2, .int r19), (0, .ref (G.2.2.2 + 132)), (1, .int x1)]) hx hb dX7_behindToken_19 rfl hl (by decide) rfl (fun ls hl => ?_)
  refine lv_iload_n hx hb dX7_behindToken_20 rfl (lv_at hl 3 rfl) ?_
  refine lv_iconst (v := 1) hx hb dX7_behindToken_21 (by decide) ?_
  refine lv_iadd hx hb dX7_behindToken_22 ?_
  refine lv_topi (fun y24 ey24 => ?_)
  have hT := hT y24 ey24
  refine lv_istore (lv' := [(4, .int y24), (3, .int r23), (2, .int r19), (0, .ref (G.2.2.2 + 132)), (1, .int x1)]) hx hb dX7_behindToken_23 hl (by decide) rfl (fun ls hl => ?_)
  exact w_X7_behindToken_25 X hr hk 5000 r19 r23 y24 M22 _ _ ls hT h (lv_sub hl [3, 2, 1, 0] rfl)
/-! MockParcels$Reader.keyword(II)I -/
theorem dX7_keyword_0 : decode cX7_keyword 0 = .ok (.iconst 0, 1) := by decide +kernel
theorem dX7_keyword_1 : decode cX7_keyword 1 = .ok (.istore_n 3, 1) := by decide +kernel
theorem dX7_keyword_2 : decode cX7_keyword 2 = .ok (.iload_n 1, 1) := by decide +kernel
theorem dX7_keyword_3 : decode cX7_keyword 3 = .ok (.istore 4, 2) := by decide +kernel
theorem dX7_keyword_5 : decode cX7_keyword 5 = .ok (.iconst 1, 1) := by decide +kernel
theorem dX7_keyword_6 : decode cX7_keyword 6 = .ok (.istore 5, 2) := by decide +kernel
theorem dX7_keyword_8 : decode cX7_keyword 8 = .ok (.iconst 0, 1) := by decide +kernel
theorem dX7_keyword_9 : decode cX7_keyword 9 = .ok (.istore 6, 2) := by decide +kernel
theorem dX7_keyword_11 : decode cX7_keyword 11 = .ok (.iload 6, 2) := by decide +kernel
theorem dX7_keyword_13 : decode cX7_keyword 13 = .ok (.ldc 85, 2) := by decide +kernel
theorem dX7_keyword_15 : decode cX7_keyword 15 = .ok (.invokevirtual 87, 3) := by decide +kernel
theorem dX7_keyword_18 : decode cX7_keyword 18 = .ok (.if_icmp .ge 87, 3) := by decide +kernel
theorem dX7_keyword_21 : decode cX7_keyword 21 = .ok (.ldc 85, 2) := by decide +kernel
theorem dX7_keyword_23 : decode cX7_keyword 23 = .ok (.iload 6, 2) := by decide +kernel
theorem dX7_keyword_25 : decode cX7_keyword 25 = .ok (.invokevirtual 91, 3) := by decide +kernel
theorem dX7_keyword_28 : decode cX7_keyword 28 = .ok (.istore 7, 2) := by decide +kernel
theorem dX7_keyword_30 : decode cX7_keyword 30 = .ok (.iload 7, 2) := by decide +kernel
theorem dX7_keyword_32 : decode cX7_keyword 32 = .ok (.bipush 32, 2) := by decide +kernel
theorem dX7_keyword_34 : decode cX7_keyword 34 = .ok (.if_icmp .eq 39, 3) := by decide +kernel
theorem dX7_keyword_37 : decode cX7_keyword 37 = .ok (.iload 5, 2) := by decide +kernel
theorem dX7_keyword_39 : decode cX7_keyword 39 = .ok (.ifCond .eq 25, 3) := by decide +kernel
theorem dX7_keyword_42 : decode cX7_keyword 42 = .ok (.iload 4, 2) := by decide +kernel
theorem dX7_keyword_44 : decode cX7_keyword 44 = .ok (.iload_n 2, 1) := by decide +kernel
theorem dX7_keyword_45 : decode cX7_keyword 45 = .ok (.if_icmp .ge 19, 3) := by decide +kernel
theorem dX7_keyword_48 : decode cX7_keyword 48 = .ok (.aload_n 0, 1) := by decide +kernel
theorem dX7_keyword_49 : decode cX7_keyword 49 = .ok (.getfield 9, 3) := by decide +kernel
theorem dX7_keyword_52 : decode cX7_keyword 52 = .ok (.iload 4, 2) := by decide +kernel
theorem dX7_keyword_54 : decode cX7_keyword 54 = .ok (.iaload, 1) := by decide +kernel
theorem dX7_keyword_55 : decode cX7_keyword 55 = .ok (.iload 7, 2) := by decide +kernel
theorem dX7_keyword_57 : decode cX7_keyword 57 = .ok (.if_icmp .ne 7, 3) := by decide +kernel
theorem dX7_keyword_60 : decode cX7_keyword 60 = .ok (.iconst 1, 1) := by decide +kernel
theorem dX7_keyword_61 : decode cX7_keyword 61 = .ok (.goto 4, 3) := by decide +kernel
theorem dX7_keyword_64 : decode cX7_keyword 64 = .ok (.iconst 0, 1) := by decide +kernel
theorem dX7_keyword_65 : decode cX7_keyword 65 = .ok (.istore 5, 2) := by decide +kernel
theorem dX7_keyword_67 : decode cX7_keyword 67 = .ok (.iinc 4 1, 3) := by decide +kernel
theorem dX7_keyword_70 : decode cX7_keyword 70 = .ok (.goto 29, 3) := by decide +kernel
theorem dX7_keyword_73 : decode cX7_keyword 73 = .ok (.iload 5, 2) := by decide +kernel
theorem dX7_keyword_75 : decode cX7_keyword 75 = .ok (.ifCond .eq 15, 3) := by decide +kernel
theorem dX7_keyword_78 : decode cX7_keyword 78 = .ok (.iload 4, 2) := by decide +kernel
theorem dX7_keyword_80 : decode cX7_keyword 80 = .ok (.iload_n 2, 1) := by decide +kernel
theorem dX7_keyword_81 : decode cX7_keyword 81 = .ok (.if_icmp .ne 9, 3) := by decide +kernel
theorem dX7_keyword_84 : decode cX7_keyword 84 = .ok (.sipush 256, 3) := by decide +kernel
theorem dX7_keyword_87 : decode cX7_keyword 87 = .ok (.iload_n 3, 1) := by decide +kernel
theorem dX7_keyword_88 : decode cX7_keyword 88 = .ok (.iadd, 1) := by decide +kernel
theorem dX7_keyword_89 : decode cX7_keyword 89 = .ok (.ireturn, 1) := by decide +kernel
theorem dX7_keyword_90 : decode cX7_keyword 90 = .ok (.iinc 3 1, 3) := by decide +kernel
theorem dX7_keyword_93 : decode cX7_keyword 93 = .ok (.iload_n 1, 1) := by decide +kernel
theorem dX7_keyword_94 : decode cX7_keyword 94 = .ok (.istore 4, 2) := by decide +kernel
theorem dX7_keyword_96 : decode cX7_keyword 96 = .ok (.iconst 1, 1) := by decide +kernel
theorem dX7_keyword_97 : decode cX7_keyword 97 = .ok (.istore 5, 2) := by decide +kernel
theorem dX7_keyword_99 : decode cX7_keyword 99 = .ok (.iinc 6 1, 3) := by decide +kernel
theorem dX7_keyword_102 : decode cX7_keyword 102 = .ok (.goto (-91), 3) := by decide +kernel
theorem dX7_keyword_105 : decode cX7_keyword 105 = .ok (.iconst 1, 1) := by decide +kernel
theorem dX7_keyword_106 : decode cX7_keyword 106 = .ok (.ireturn, 1) := by decide +kernel
def T_X7_keyword_99 (B11 : Int32 → Int32 → Int32 → Int32 → Int32 → Int32 → Mm → Prop) (x1 : Int32) (x2 : Int32) (x3 : Int32) (x4 : Int32) (x5 : Int32) (x6 : Int32) (M : Mm) (K : Int32 → Mm → Prop) : Prop := (∀ y1 : Int32, y1 = x6 + (1 : Int32) → (B11 x1 x2 x3 x4 x5 y1 M))
set_option maxHeartbeats 4000000 in
set_option maxRecDepth 100000 in
theorem w_X7_keyword_99 {p : Program} {l : Launch} {e : Env} {s : State} {m : MethodId} {args : Array Value} {below : List Frame} {meth : Method} {c : Code} {G : fx_G} {K : Int32 → Mm → Prop} {B11 : Int32 → Int32 → Int32 → Int32 → Int32 → Int32 → Mm → Prop} (X : fx_C G p s m c args cX7_keyword 8 RX7) (hr : meth.sig.returnType = (some .int)) (hk : meth.locks = false) (hB11 : ∀ (x1 : Int32) (x2 : Int32) (x3 : Int32) (x4 : Int32) (x5 : Int32) (x6 : Int32) (M : Mm) (H : Heap) (locs : List Loc) (ls : Array Slot), B11 x1 x2 x3 x4 x5 x6 M → fx_H G SH M s H locs → lv_has ls 8 [(0, .ref (G.2.2.2 + 132)), (1, .int x1), (2, .int x2), (3, .int x3), (4, .int x4), (5, .int x5), (6, .int x6)] → W p l e (fx_rm (4)) s m args below meth c H locs 0 0 (MQ below (va_Qi K (fx_R G SH) (fx_A G)) args s 0 0 (fx_A G)) (F0 m 11 ls [])) : ∀ (x1 : Int32) (x2 : Int32) (x3 : Int32) (x4 : Int32) (x5 : Int32) (x6 : Int32) (M : Mm) (H : Heap) (locs : List Loc) (ls : Array Slot), T_X7_keyword_99 B11 x1 x2 x3 x4 x5 x6 M K → fx_H G SH M s H locs → lv_has ls 8 [(0, .ref (G.2.2.2 + 132)), (1, .int x1), (2, .int x2), (3, .int x3), (4, .int x4), (5, .int x5), (6, .int x6)] → W p l e (fx_rm (4)) s m args below meth c H locs 0 0 (MQ below (va_Qi K (fx_R G SH) (fx_A G)) args s 0 0 (fx_A G)) (F0 m 99 ls []) := by
  obtain ⟨⟨hx, hb, hml, hown, hts⟩, hK, hQ⟩ := id X
  intro x1 x2 x3 x4 x5 x6 M H locs ls hT h hl
  unfold T_X7_keyword_99 at hT
  obtain ⟨y1, ey1⟩ : ∃ z : Int32, z = x6 + (1 : Int32) := ⟨_, rfl⟩
  have hT := hT y1 ey1
  refine lv_iinc (v := y1) (lv' := [(6, .int y1), (0, .ref (G.2.2.2 + 132)), (1, .int x1), (2, .int x2), (3, .int x3), (4, .int x4), (5, .int x5)]) hx hb dX7_keyword_99 hl (k := 6) rfl (by rw [ey1]; rfl) (by decide) rfl (fun ls hl => ?_)
  refine lv_goto (tgt := 11) hx hb dX7_keyword_102 (by decide) ?_
  exact hB11 x1 x2 x3 x4 x5 y1 M _ _ ls hT h (lv_sub hl [1, 2, 3, 4, 5, 6, 0] rfl)
def T_X7_keyword_90 (B11 : Int32 → Int32 → Int32 → Int32 → Int32 → Int32 → Mm → Prop) (x1 : Int32) (x2 : Int32) (x3 : Int32) (x6 : Int32) (M : Mm) (K : Int32 → Mm → Prop) : Prop := (∀ y2 : Int32, y2 = x3 + (1 : Int32) → (T_X7_keyword_99 B11 x1 x2 y2 x1 (1 : Int32) x6 M K))
set_option maxHeartbeats 4000000 in
set_option maxRecDepth 100000 in
theorem w_X7_keyword_90 {p : Program} {l : Launch} {e : Env} {s : State} {m : MethodId} {args : Array Value} {below : List Frame} {meth : Method} {c : Code} {G : fx_G} {K : Int32 → Mm → Prop} {B11 : Int32 → Int32 → Int32 → Int32 → Int32 → Int32 → Mm → Prop} (X : fx_C G p s m c args cX7_keyword 8 RX7) (hr : meth.sig.returnType = (some .int)) (hk : meth.locks = false) (hB11 : ∀ (x1 : Int32) (x2 : Int32) (x3 : Int32) (x4 : Int32) (x5 : Int32) (x6 : Int32) (M : Mm) (H : Heap) (locs : List Loc) (ls : Array Slot), B11 x1 x2 x3 x4 x5 x6 M → fx_H G SH M s H locs → lv_has ls 8 [(0, .ref (G.2.2.2 + 132)), (1, .int x1), (2, .int x2), (3, .int x3), (4, .int x4), (5, .int x5), (6, .int x6)] → W p l e (fx_rm (4)) s m args below meth c H locs 0 0 (MQ below (va_Qi K (fx_R G SH) (fx_A G)) args s 0 0 (fx_A G)) (F0 m 11 ls [])) : ∀ (x1 : Int32) (x2 : Int32) (x3 : Int32) (x6 : Int32) (M : Mm) (H : Heap) (locs : List Loc) (ls : Array Slot), T_X7_keyword_90 B11 x1 x2 x3 x6 M K → fx_H G SH M s H locs → lv_has ls 8 [(0, .ref (G.2.2.2 + 132)), (1, .int x1), (2, .int x2), (3, .int x3), (6, .int x6)] → W p l e (fx_rm (4)) s m args below meth c H locs 0 0 (MQ below (va_Qi K (fx_R G SH) (fx_A G)) args s 0 0 (fx_A G)) (F0 m 90 ls []) := by
  obtain ⟨⟨hx, hb, hml, hown, hts⟩, hK, hQ⟩ := id X
  intro x1 x2 x3 x6 M H locs ls hT h hl
  unfold T_X7_keyword_90 at hT
  obtain ⟨y2, ey2⟩ : ∃ z : Int32, z = x3 + (1 : Int32) := ⟨_, rfl⟩
  have hT := hT y2 ey2
  refine lv_iinc (v := y2) (lv' := [(3, .int y2), (0, .ref (G.2.2.2 + 132)), (1, .int x1), (2, .int x2), (6, .int x6)]) hx hb dX7_keyword_90 hl (k := 3) rfl (by rw [ey2]; rfl) (by decide) rfl (fun ls hl => ?_)
  refine lv_iload_n hx hb dX7_keyword_93 rfl (lv_at hl 2 rfl) ?_
  refine lv_istore (lv' := [(4, .int x1), (3, .int y2), (0, .ref (G.2.2.2 + 132)), (1, .int x1), (2, .int x2), (6, .int x6)]) hx hb dX7_keyword_94 hl (by decide) rfl (fun ls hl => ?_)
  refine lv_iconst (v := 1) hx hb dX7_keyword_96 (by decide) ?_
  refine lv_istore (lv' := [(5, .int (1 : Int32)), (4, .int x1), (3, .int y2), (0, .ref (G.2.2.2 + 132)), (1, .int x1), (2, .int x2), (6, .int x6)]) hx hb dX7_keyword_97 hl (by decide) rfl (fun ls hl => ?_)
  exact w_X7_keyword_99 X hr hk (B11 := B11) hB11 x1 x2 y2 x1 (1 : Int32) x6 M _ _ ls hT h (lv_sub hl [3, 4, 5, 2, 1, 0, 6] rfl)
def T_X7_keyword_65 (B11 : Int32 → Int32 → Int32 → Int32 → Int32 → Int32 → Mm → Prop) (x1 : Int32) (x2 : Int32) (x3 : Int32) (x4 : Int32) (x6 : Int32) (s0 : Int32) (M : Mm) (K : Int32 → Mm → Prop) : Prop := (∀ y3 : Int32, y3 = x4 + (1 : Int32) → (T_X7_keyword_99 B11 x1 x2 x3 y3 s0 x6 M K))
set_option maxHeartbeats 4000000 in
set_option maxRecDepth 100000 in
theorem w_X7_keyword_65 {p : Program} {l : Launch} {e : Env} {s : State} {m : MethodId} {args : Array Value} {below : List Frame} {meth : Method} {c : Code} {G : fx_G} {K : Int32 → Mm → Prop} {B11 : Int32 → Int32 → Int32 → Int32 → Int32 → Int32 → Mm → Prop} (X : fx_C G p s m c args cX7_keyword 8 RX7) (hr : meth.sig.returnType = (some .int)) (hk : meth.locks = false) (hB11 : ∀ (x1 : Int32) (x2 : Int32) (x3 : Int32) (x4 : Int32) (x5 : Int32) (x6 : Int32) (M : Mm) (H : Heap) (locs : List Loc) (ls : Array Slot), B11 x1 x2 x3 x4 x5 x6 M → fx_H G SH M s H locs → lv_has ls 8 [(0, .ref (G.2.2.2 + 132)), (1, .int x1), (2, .int x2), (3, .int x3), (4, .int x4), (5, .int x5), (6, .int x6)] → W p l e (fx_rm (4)) s m args below meth c H locs 0 0 (MQ below (va_Qi K (fx_R G SH) (fx_A G)) args s 0 0 (fx_A G)) (F0 m 11 ls [])) : ∀ (x1 : Int32) (x2 : Int32) (x3 : Int32) (x4 : Int32) (x6 : Int32) (s0 : Int32) (M : Mm) (H : Heap) (locs : List Loc) (ls : Array Slot), T_X7_keyword_65 B11 x1 x2 x3 x4 x6 s0 M K → fx_H G SH M s H locs → lv_has ls 8 [(0, .ref (G.2.2.2 + 132)), (1, .int x1), (2, .int x2), (3, .int x3), (4, .int x4), (6, .int x6)] → W p l e (fx_rm (4)) s m args below meth c H locs 0 0 (MQ below (va_Qi K (fx_R G SH) (fx_A G)) args s 0 0 (fx_A G)) (F0 m 65 ls [.int s0]) := by
  obtain ⟨⟨hx, hb, hml, hown, hts⟩, hK, hQ⟩ := id X
  intro x1 x2 x3 x4 x6 s0 M H locs ls hT h hl
  unfold T_X7_keyword_65 at hT
  refine lv_istore (lv' := [(5, .int s0), (0, .ref (G.2.2.2 + 132)), (1, .int x1), (2, .int x2), (3, .int x3), (4, .int x4), (6, .int x6)]) hx hb dX7_keyword_65 hl (by decide) rfl (fun ls hl => ?_)
  obtain ⟨y3, ey3⟩ : ∃ z : Int32, z = x4 + (1 : Int32) := ⟨_, rfl⟩
  have hT := hT y3 ey3
  refine lv_iinc (v := y3) (lv' := [(4, .int y3), (5, .int s0), (0, .ref (G.2.2.2 + 132)), (1, .int x1), (2, .int x2), (3, .int x3), (6, .int x6)]) hx hb dX7_keyword_67 hl (k := 5) rfl (by rw [ey3]; rfl) (by decide) rfl (fun ls hl => ?_)
  refine lv_goto (tgt := 99) hx hb dX7_keyword_70 (by decide) ?_
  exact w_X7_keyword_99 X hr hk (B11 := B11) hB11 x1 x2 x3 y3 s0 x6 M _ _ ls hT h (lv_sub hl [2, 3, 4, 5, 0, 1, 6] rfl)
def T_X7_keyword_64 (B11 : Int32 → Int32 → Int32 → Int32 → Int32 → Int32 → Mm → Prop) (x1 : Int32) (x2 : Int32) (x3 : Int32) (x4 : Int32) (x6 : Int32) (M : Mm) (K : Int32 → Mm → Prop) : Prop := (T_X7_keyword_65 B11 x1 x2 x3 x4 x6 (0 : Int32) M K)
set_option maxHeartbeats 4000000 in
set_option maxRecDepth 100000 in
theorem w_X7_keyword_64 {p : Program} {l : Launch} {e : Env} {s : State} {m : MethodId} {args : Array Value} {below : List Frame} {meth : Method} {c : Code} {G : fx_G} {K : Int32 → Mm → Prop} {B11 : Int32 → Int32 → Int32 → Int32 → Int32 → Int32 → Mm → Prop} (X : fx_C G p s m c args cX7_keyword 8 RX7) (hr : meth.sig.returnType = (some .int)) (hk : meth.locks = false) (hB11 : ∀ (x1 : Int32) (x2 : Int32) (x3 : Int32) (x4 : Int32) (x5 : Int32) (x6 : Int32) (M : Mm) (H : Heap) (locs : List Loc) (ls : Array Slot), B11 x1 x2 x3 x4 x5 x6 M → fx_H G SH M s H locs → lv_has ls 8 [(0, .ref (G.2.2.2 + 132)), (1, .int x1), (2, .int x2), (3, .int x3), (4, .int x4), (5, .int x5), (6, .int x6)] → W p l e (fx_rm (4)) s m args below meth c H locs 0 0 (MQ below (va_Qi K (fx_R G SH) (fx_A G)) args s 0 0 (fx_A G)) (F0 m 11 ls [])) : ∀ (x1 : Int32) (x2 : Int32) (x3 : Int32) (x4 : Int32) (x6 : Int32) (M : Mm) (H : Heap) (locs : List Loc) (ls : Array Slot), T_X7_keyword_64 B11 x1 x2 x3 x4 x6 M K → fx_H G SH M s H locs → lv_has ls 8 [(0, .ref (G.2.2.2 + 132)), (1, .int x1), (2, .int x2), (3, .int x3), (4, .int x4), (6, .int x6)] → W p l e (fx_rm (4)) s m args below meth c H locs 0 0 (MQ below (va_Qi K (fx_R G SH) (fx_A G)) args s 0 0 (fx_A G)) (F0 m 64 ls []) := by
  obtain ⟨⟨hx, hb, hml, hown, hts⟩, hK, hQ⟩ := id X
  intro x1 x2 x3 x4 x6 M H locs ls hT h hl
  unfold T_X7_keyword_64 at hT
  refine lv_iconst (v := 0) hx hb dX7_keyword_64 (by decide) ?_
  exact w_X7_keyword_65 X hr hk (B11 := B11) hB11 x1 x2 x3 x4 x6 (0 : Int32) M _ _ ls hT h (lv_sub hl [0, 1, 2, 3, 4, 5] rfl)
def T_X7_keyword_11 : Nat → Int32 → Int32 → Int32 → Int32 → Int32 → Int32 → Mm → (Int32 → Mm → Prop) → Prop
  | 0, _, _, _, _, _, _, _, _ => False
  | n + 1, x1, x2, x3, x4, x5, x6, M, K => (T_J0_length_8abf5 0 M (fun r6 M5 => ((r6 ≤ x6 → (K (1 : Int32) M5)) ∧ (¬ r6 ≤ x6 → (T_J0_charAt_5068e 0 x6 M5 (fun r10 M9 => ((r10 = (32 : Int32) → ((x5 = 0 → (T_X7_keyword_90 (fun x1 x2 x3 x4 x5 x6 M => T_X7_keyword_11 n x1 x2 x3 x4 x5 x6 M K) x1 x2 x3 x6 M9 K)) ∧ (¬ x5 = 0 → ((x4 = x2 → (K ((256 : Int32) + x3) M9)) ∧ (¬ x4 = x2 → (T_X7_keyword_90 (fun x1 x2 x3 x4 x5 x6 M => T_X7_keyword_11 n x1 x2 x3 x4 x5 x6 M K) x1 x2 x3 x6 M9 K)))))) ∧ (¬ r10 = (32 : Int32) → ((x5 = 0 → (T_X7_keyword_64 (fun x1 x2 x3 x4 x5 x6 M => T_X7_keyword_11 n x1 x2 x3 x4 x5 x6 M K) x1 x2 x3 x4 x6 M9 K)) ∧ (¬ x5 = 0 → ((x2 ≤ x4 → (T_X7_keyword_64 (fun x1 x2 x3 x4 x5 x6 M => T_X7_keyword_11 n x1 x2 x3 x4 x5 x6 M K) x1 x2 x3 x4 x6 M9 K)) ∧ (¬ x2 ≤ x4 → (vp_in x4 400 ∧ (((M9 133 (x4).toNatClampNeg) = r10 → (T_X7_keyword_65 (fun x1 x2 x3 x4 x5 x6 M => T_X7_keyword_11 n x1 x2 x3 x4 x5 x6 M K) x1 x2 x3 x4 x6 (1 : Int32) M9 K)) ∧ (¬ (M9 133 (x4).toNatClampNeg) = r10 → (T_X7_keyword_64 (fun x1 x2 x3 x4 x5 x6 M => T_X7_keyword_11 n x1 x2 x3 x4 x5 x6 M K) x1 x2 x3 x4 x6 M9 K))))))))))))))))
set_option maxHeartbeats 4000000 in
set_option maxRecDepth 100000 in
theorem w_X7_keyword_11 {p : Program} {l : Launch} {e : Env} {s : State} {m : MethodId} {args : Array Value} {below : List Frame} {meth : Method} {c : Code} {G : fx_G} {K : Int32 → Mm → Prop} (X : fx_C G p s m c args cX7_keyword 8 RX7) (hr : meth.sig.returnType = (some .int)) (hk : meth.locks = false) : ∀ (n : Nat) (x1 : Int32) (x2 : Int32) (x3 : Int32) (x4 : Int32) (x5 : Int32) (x6 : Int32) (M : Mm) (H : Heap) (locs : List Loc) (ls : Array Slot), T_X7_keyword_11 n x1 x2 x3 x4 x5 x6 M K → fx_H G SH M s H locs → lv_has ls 8 [(0, .ref (G.2.2.2 + 132)), (1, .int x1), (2, .int x2), (3, .int x3), (4, .int x4), (5, .int x5), (6, .int x6)] → W p l e (fx_rm (4)) s m args below meth c H locs 0 0 (MQ below (va_Qi K (fx_R G SH) (fx_A G)) args s 0 0 (fx_A G)) (F0 m 11 ls []) := by
  obtain ⟨⟨hx, hb, hml, hown, hts⟩, hK, hQ⟩ := id X
  intro n
  induction n with
  | zero =>
    intro x1 x2 x3 x4 x5 x6 M H locs ls hT
    exact hT.elim
  | succ n ih =>
    intro x1 x2 x3 x4 x5 x6 M H locs ls hT h hl
    rw [T_X7_keyword_11] at hT
    refine lv_iload hx hb dX7_keyword_11 (lv_at hl 6 rfl) ?_
    refine va_ldcS hx hb hown hQ.1 dX7_keyword_13 ?_
    refine fx_ti X h ym_J0_length_8abf5 yi_J0_length_8abf5 ys_J0_length_8abf5 (fx_s4 (List.mem_of_getElem? (i := 40) rfl) rfl) (k := 0) (by decide) rfl (c_J0_length_8abf5 l G (by decide) hT) (As := []) (rest := [.int x6]) rfl rfl ⟨Nat.le_of_ble_eq_true rfl, Nat.le_of_ble_eq_true rfl⟩ ⟨Nat.le_refl _, Nat.le_refl _⟩ hl.1 (Nat.le_of_ble_eq_true rfl) dX7_keyword_15 (fun r6 M5 H locs hT h => ?_)
    refine lv_icmp_ge (tgt := 105) hx hb dX7_keyword_18 (by decide) (fun hc7 => ?_) (fun hc7 => ?_)
    · have hT := hT.1 hc7
      refine lv_iconst (v := 1) hx hb dX7_keyword_105 (by decide) ?_
      exact fx_iret X hr hk h hT dX7_keyword_106
    · have hT := hT.2 hc7
      refine va_ldcS hx hb hown hQ.1 dX7_keyword_21 ?_
      refine lv_iload hx hb dX7_keyword_23 (lv_at hl 6 rfl) ?_
      refine fx_ti X h ym_J0_charAt_5068e yi_J0_charAt_5068e ys_J0_charAt_5068e (fx_s4 (List.mem_of_getElem? (i := 50) rfl) rfl) (k := 0) (by decide) rfl (c_J0_charAt_5068e l G (by decide) hT) (As := [.int x6]) (rest := []) rfl rfl ⟨Nat.le_of_ble_eq_true rfl, Nat.le_of_ble_eq_true rfl⟩ ⟨Nat.le_refl _, Nat.le_refl _⟩ hl.1 (Nat.le_of_ble_eq_true rfl) dX7_keyword_25 (fun r10 M9 H locs hT h => ?_)
      refine lv_istore (lv' := [(7, .int r10), (0, .ref (G.2.2.2 + 132)), (1, .int x1), (2, .int x2), (3, .int x3), (4, .int x4), (5, .int x5), (6, .int x6)]) hx hb dX7_keyword_28 hl (by decide) rfl (fun ls hl => ?_)
      refine lv_iload hx hb dX7_keyword_30 (lv_at hl 0 rfl) ?_
      refine lv_bipush (v := 32) hx hb dX7_keyword_32 (by decide) ?_
      refine lv_icmp_eq (tgt := 73) hx hb dX7_keyword_34 (by decide) (fun hc11 => ?_) (fun hc11 => ?_)
      · have hT := hT.1 hc11
        refine lv_iload hx hb dX7_keyword_73 (lv_at hl 6 rfl) ?_
        refine lv_if_eq (tgt := 90) hx hb dX7_keyword_75 (by decide) (fun hc12 => ?_) (fun hc12 => ?_)
        · have hT := hT.1 hc12
          exact w_X7_keyword_90 X hr hk (B11 := (fun x1 x2 x3 x4 x5 x6 M => T_X7_keyword_11 n x1 x2 x3 x4 x5 x6 M K)) ih x1 x2 x3 x6 M9 _ _ ls hT h (lv_sub hl [1, 2, 3, 4, 7] rfl)
        · have hT := hT.2 hc12
          refine lv_iload hx hb dX7_keyword_78 (lv_at hl 5 rfl) ?_
          refine lv_iload_n hx hb dX7_keyword_80 rfl (lv_at hl 3 rfl) ?_
          refine lv_icmp_ne (tgt := 90) hx hb dX7_keyword_81 (by decide) (fun hc13 => ?_) (fun hc13 => ?_)
          · have hT := hT.2 hc13
            exact w_X7_keyword_90 X hr hk (B11 := (fun x1 x2 x3 x4 x5 x6 M => T_X7_keyword_11 n x1 x2 x3 x4 x5 x6 M K)) ih x1 x2 x3 x6 M9 _ _ ls hT h (lv_sub hl [1, 2, 3, 4, 7] rfl)
          · have hT := hT.1 hc13
            refine lv_sipush (v := 256) hx hb dX7_keyword_84 (by decide) ?_
            refine lv_iload_n hx hb dX7_keyword_87 rfl (lv_at hl 4 rfl) ?_
            refine lv_iadd hx hb dX7_keyword_88 ?_
            exact fx_iret X hr hk h hT dX7_keyword_89
      · have hT := hT.2 hc11
        refine lv_iload hx hb dX7_keyword_37 (lv_at hl 6 rfl) ?_
        refine lv_if_eq (tgt := 64) hx hb dX7_keyword_39 (by decide) (fun hc14 => ?_) (fun hc14 => ?_)
        · have hT := hT.1 hc14
          exact w_X7_keyword_64 X hr hk (B11 := (fun x1 x2 x3 x4 x5 x6 M => T_X7_keyword_11 n x1 x2 x3 x4 x5 x6 M K)) ih x1 x2 x3 x4 x6 M9 _ _ ls hT h (lv_sub hl [1, 2, 3, 4, 5, 7] rfl)
        · have hT := hT.2 hc14
          refine lv_iload hx hb dX7_keyword_42 (lv_at hl 5 rfl) ?_
          refine lv_iload_n hx hb dX7_keyword_44 rfl (lv_at hl 3 rfl) ?_
          refine lv_icmp_ge (tgt := 64) hx hb dX7_keyword_45 (by decide) (fun hc15 => ?_) (fun hc15 => ?_)
          · have hT := hT.1 hc15
            exact w_X7_keyword_64 X hr hk (B11 := (fun x1 x2 x3 x4 x5 x6 M => T_X7_keyword_11 n x1 x2 x3 x4 x5 x6 M K)) ih x1 x2 x3 x4 x6 M9 _ _ ls hT h (lv_sub hl [1, 2, 3, 4, 5, 7] rfl)
          · have hT := hT.2 hc15
            refine lv_aload_n hx hb dX7_keyword_48 rfl (lv_at hl 1 rfl) ?_
            refine fx_getR X h (k := 132) (j := 0) (r := 133) sh_132 rfl fl_RX7_9 dX7_keyword_49 ?_
            refine lv_iload hx hb dX7_keyword_52 (lv_at hl 5 rfl) ?_
            obtain ⟨hi16, hT⟩ := hT
            refine fx_iald X h (k := 133) sh_133 hi16 dX7_keyword_54 ?_
            refine lv_iload hx hb dX7_keyword_55 (lv_at hl 0 rfl) ?_
            refine lv_icmp_ne (tgt := 64) hx hb dX7_keyword_57 (by decide) (fun hc17 => ?_) (fun hc17 => ?_)
            · have hT := hT.2 hc17
              exact w_X7_keyword_64 X hr hk (B11 := (fun x1 x2 x3 x4 x5 x6 M => T_X7_keyword_11 n x1 x2 x3 x4 x5 x6 M K)) ih x1 x2 x3 x4 x6 M9 _ _ ls hT h (lv_sub hl [1, 2, 3, 4, 5, 7] rfl)
            · have hT := hT.1 hc17
              refine lv_iconst (v := 1) hx hb dX7_keyword_60 (by decide) ?_
              refine lv_goto (tgt := 65) hx hb dX7_keyword_61 (by decide) ?_
              exact w_X7_keyword_65 X hr hk (B11 := (fun x1 x2 x3 x4 x5 x6 M => T_X7_keyword_11 n x1 x2 x3 x4 x5 x6 M K)) ih x1 x2 x3 x4 x6 (1 : Int32) M9 _ _ ls hT h (lv_sub hl [1, 2, 3, 4, 5, 7] rfl)
def T_X7_keyword (x1 : Int32) (x2 : Int32) (M : Mm) (K : Int32 → Mm → Prop) : Prop := (T_X7_keyword_11 5000 x1 x2 (0 : Int32) x1 (1 : Int32) (0 : Int32) M K)
set_option maxHeartbeats 4000000 in
set_option maxRecDepth 100000 in
theorem c_X7_keyword (l : Launch) (G : fx_G) {x1 : Int32} {x2 : Int32} {M : Mm} {K : Int32 → Mm → Prop} (hT : T_X7_keyword x1 x2 M K) : Met l yX7_keyword (fx_ws yX7_keyword cX7_keyword 8 (some .int)) (fx_rm (4)) (va_Pc [.ref (G.2.2.2 + 132), .int x1, .int x2] (fx_P G SH M)) (va_Qi K (fx_R G SH) (fx_A G)) 0 0 (fx_A G) := by
  refine fx_met (own := RX7) (by decide +kernel) rfl (Nat.le_of_ble_eq_true rfl) (fun p e s m below meth c X hr hk h ls hl => ?_)
  obtain ⟨⟨hx, hb, hml, hown, hts⟩, hK, hQ⟩ := id X
  have hl : lv_has ls 8 [(0, .ref (G.2.2.2 + 132)), (1, .int x1), (2, .int x2)] := hl
  unfold T_X7_keyword at hT
  refine lv_iconst (v := 0) hx hb dX7_keyword_0 (by decide) ?_
  refine lv_istore_n (lv' := [(3, .int (0 : Int32)), (0, .ref (G.2.2.2 + 132)), (1, .int x1), (2, .int x2)]) hx hb dX7_keyword_1 rfl hl (by decide) rfl (fun ls hl => ?_)
  refine lv_iload_n hx hb dX7_keyword_2 rfl (lv_at hl 2 rfl) ?_
  refine lv_istore (lv' := [(4, .int x1), (3, .int (0 : Int32)), (0, .ref (G.2.2.2 + 132)), (1, .int x1), (2, .int x2)]) hx hb dX7_keyword_3 hl (by decide) rfl (fun ls hl => ?_)
  refine lv_iconst (v := 1) hx hb dX7_keyword_5 (by decide) ?_
  refine lv_istore (lv' := [(5, .int (1 : Int32)), (4, .int x1), (3, .int (0 : Int32)), (0, .ref (G.2.2.2 + 132)), (1, .int x1), (2, .int x2)]) hx hb dX7_keyword_6 hl (by decide) rfl (fun ls hl => ?_)
  refine lv_iconst (v := 0) hx hb dX7_keyword_8 (by decide) ?_
  refine lv_istore (lv' := [(6, .int (0 : Int32)), (5, .int (1 : Int32)), (4, .int x1), (3, .int (0 : Int32)), (0, .ref (G.2.2.2 + 132)), (1, .int x1), (2, .int x2)]) hx hb dX7_keyword_9 hl (by decide) rfl (fun ls hl => ?_)
  exact w_X7_keyword_11 X hr hk 5000 x1 x2 (0 : Int32) x1 (1 : Int32) (0 : Int32) M _ _ ls hT h (lv_sub hl [4, 5, 6, 3, 2, 1, 0] rfl)
/-! MockParcels$Reader.number(II)I -/
theorem dX7_number_0 : decode cX7_number 0 = .ok (.iload_n 2, 1) := by decide +kernel
theorem dX7_number_1 : decode cX7_number 1 = .ok (.iload_n 1, 1) := by decide +kernel
theorem dX7_number_2 : decode cX7_number 2 = .ok (.isub, 1) := by decide +kernel
theorem dX7_number_3 : decode cX7_number 3 = .ok (.iconst 4, 1) := by decide +kernel
theorem dX7_number_4 : decode cX7_number 4 = .ok (.if_icmp .le 5, 3) := by decide +kernel
theorem dX7_number_7 : decode cX7_number 7 = .ok (.iconst 1, 1) := by decide +kernel
theorem dX7_number_8 : decode cX7_number 8 = .ok (.ireturn, 1) := by decide +kernel
theorem dX7_number_9 : decode cX7_number 9 = .ok (.iconst 0, 1) := by decide +kernel
theorem dX7_number_10 : decode cX7_number 10 = .ok (.istore_n 3, 1) := by decide +kernel
theorem dX7_number_11 : decode cX7_number 11 = .ok (.iload_n 1, 1) := by decide +kernel
theorem dX7_number_12 : decode cX7_number 12 = .ok (.istore 4, 2) := by decide +kernel
theorem dX7_number_14 : decode cX7_number 14 = .ok (.iload 4, 2) := by decide +kernel
theorem dX7_number_16 : decode cX7_number 16 = .ok (.iload_n 2, 1) := by decide +kernel
theorem dX7_number_17 : decode cX7_number 17 = .ok (.if_icmp .ge 33, 3) := by decide +kernel
theorem dX7_number_20 : decode cX7_number 20 = .ok (.iload 4, 2) := by decide +kernel
theorem dX7_number_22 : decode cX7_number 22 = .ok (.sipush 400, 3) := by decide +kernel
theorem dX7_number_25 : decode cX7_number 25 = .ok (.if_icmp .ge 25, 3) := by decide +kernel
theorem dX7_number_28 : decode cX7_number 28 = .ok (.bipush 10, 2) := by decide +kernel
theorem dX7_number_30 : decode cX7_number 30 = .ok (.iload_n 3, 1) := by decide +kernel
theorem dX7_number_31 : decode cX7_number 31 = .ok (.imul, 1) := by decide +kernel
theorem dX7_number_32 : decode cX7_number 32 = .ok (.aload_n 0, 1) := by decide +kernel
theorem dX7_number_33 : decode cX7_number 33 = .ok (.getfield 9, 3) := by decide +kernel
theorem dX7_number_36 : decode cX7_number 36 = .ok (.iload 4, 2) := by decide +kernel
theorem dX7_number_38 : decode cX7_number 38 = .ok (.iaload, 1) := by decide +kernel
theorem dX7_number_39 : decode cX7_number 39 = .ok (.iadd, 1) := by decide +kernel
theorem dX7_number_40 : decode cX7_number 40 = .ok (.bipush 48, 2) := by decide +kernel
theorem dX7_number_42 : decode cX7_number 42 = .ok (.isub, 1) := by decide +kernel
theorem dX7_number_43 : decode cX7_number 43 = .ok (.istore_n 3, 1) := by decide +kernel
theorem dX7_number_44 : decode cX7_number 44 = .ok (.iinc 4 1, 3) := by decide +kernel
theorem dX7_number_47 : decode cX7_number 47 = .ok (.goto (-33), 3) := by decide +kernel
theorem dX7_number_50 : decode cX7_number 50 = .ok (.sipush 1000, 3) := by decide +kernel
theorem dX7_number_53 : decode cX7_number 53 = .ok (.iload_n 3, 1) := by decide +kernel
theorem dX7_number_54 : decode cX7_number 54 = .ok (.iadd, 1) := by decide +kernel
theorem dX7_number_55 : decode cX7_number 55 = .ok (.ireturn, 1) := by decide +kernel
def T_X7_number_50 (x3 : Int32) (M : Mm) (K : Int32 → Mm → Prop) : Prop := (K ((1000 : Int32) + x3) M)
set_option maxHeartbeats 4000000 in
set_option maxRecDepth 100000 in
theorem w_X7_number_50 {p : Program} {l : Launch} {e : Env} {s : State} {m : MethodId} {args : Array Value} {below : List Frame} {meth : Method} {c : Code} {G : fx_G} {K : Int32 → Mm → Prop} (X : fx_C G p s m c args cX7_number 5 RX7) (hr : meth.sig.returnType = (some .int)) (hk : meth.locks = false) : ∀ (x3 : Int32) (M : Mm) (H : Heap) (locs : List Loc) (ls : Array Slot), T_X7_number_50 x3 M K → fx_H G SH M s H locs → lv_has ls 5 [(3, .int x3)] → W p l e (fx_rm (0)) s m args below meth c H locs 0 0 (MQ below (va_Qi K (fx_R G SH) (fx_A G)) args s 0 0 (fx_A G)) (F0 m 50 ls []) := by
  obtain ⟨⟨hx, hb, hml, hown, hts⟩, hK, hQ⟩ := id X
  intro x3 M H locs ls hT h hl
  unfold T_X7_number_50 at hT
  refine lv_sipush (v := 1000) hx hb dX7_number_50 (by decide) ?_
  refine lv_iload_n hx hb dX7_number_53 rfl (lv_at hl 0 rfl) ?_
  refine lv_iadd hx hb dX7_number_54 ?_
  exact fx_iret X hr hk h hT dX7_number_55
def T_X7_number_14 : Nat → Int32 → Int32 → Int32 → Mm → (Int32 → Mm → Prop) → Prop
  | 0, _, _, _, _, _ => False
  | n + 1, x2, x3, x4, M, K => ((x2 ≤ x4 → (T_X7_number_50 x3 M K)) ∧ (¬ x2 ≤ x4 → (((400 : Int32) ≤ x4 → (T_X7_number_50 x3 M K)) ∧ (¬ (400 : Int32) ≤ x4 → (vp_in x4 400 ∧ (∀ y4 : Int32, y4 = ((((10 : Int32) * x3) + (M 133 (x4).toNatClampNeg)) - (48 : Int32)) → (∀ y5 : Int32, y5 = x4 + (1 : Int32) → (T_X7_number_14 n x2 y4 y5 M K))))))))
set_option maxHeartbeats 4000000 in
set_option maxRecDepth 100000 in
theorem w_X7_number_14 {p : Program} {l : Launch} {e : Env} {s : State} {m : MethodId} {args : Array Value} {below : List Frame} {meth : Method} {c : Code} {G : fx_G} {K : Int32 → Mm → Prop} (X : fx_C G p s m c args cX7_number 5 RX7) (hr : meth.sig.returnType = (some .int)) (hk : meth.locks = false) : ∀ (n : Nat) (x2 : Int32) (x3 : Int32) (x4 : Int32) (M : Mm) (H : Heap) (locs : List Loc) (ls : Array Slot), T_X7_number_14 n x2 x3 x4 M K → fx_H G SH M s H locs → lv_has ls 5 [(0, .ref (G.2.2.2 + 132)), (2, .int x2), (3, .int x3), (4, .int x4)] → W p l e (fx_rm (0)) s m args below meth c H locs 0 0 (MQ below (va_Qi K (fx_R G SH) (fx_A G)) args s 0 0 (fx_A G)) (F0 m 14 ls []) := by
  obtain ⟨⟨hx, hb, hml, hown, hts⟩, hK, hQ⟩ := id X
  intro n
  induction n with
  | zero =>
    intro x2 x3 x4 M H locs ls hT
    exact hT.elim
  | succ n ih =>
    intro x2 x3 x4 M H locs ls hT h hl
    rw [T_X7_number_14] at hT
    refine lv_iload hx hb dX7_number_14 (lv_at hl 3 rfl) ?_
    refine lv_iload_n hx hb dX7_number_16 rfl (lv_at hl 1 rfl) ?_
    refine lv_icmp_ge (tgt := 50) hx hb dX7_number_17 (by decide) (fun hc1 => ?_) (fun hc1 => ?_)
    · have hT := hT.1 hc1
      exact w_X7_number_50 X hr hk x3 M _ _ ls hT h (lv_sub hl [2] rfl)
    · have hT := hT.2 hc1
      refine lv_iload hx hb dX7_number_20 (lv_at hl 3 rfl) ?_
      refine lv_sipush (v := 400) hx hb dX7_number_22 (by decide) ?_
      refine lv_icmp_ge (tgt := 50) hx hb dX7_number_25 (by decide) (fun hc2 => ?_) (fun hc2 => ?_)
      · have hT := hT.1 hc2
        exact w_X7_number_50 X hr hk x3 M _ _ ls hT h (lv_sub hl [2] rfl)
      · have hT := hT.2 hc2
        refine lv_bipush (v := 10) hx hb dX7_number_28 (by decide) ?_
        refine lv_iload_n hx hb dX7_number_30 rfl (lv_at hl 2 rfl) ?_
        refine lv_imul hx hb dX7_number_31 ?_
        refine lv_aload_n hx hb dX7_number_32 rfl (lv_at hl 0 rfl) ?_
        refine fx_getR X h (k := 132) (j := 0) (r := 133) sh_132 rfl fl_RX7_9 dX7_number_33 ?_
        refine lv_iload hx hb dX7_number_36 (lv_at hl 3 rfl) ?_
        obtain ⟨hi3, hT⟩ := hT
        refine fx_iald X h (k := 133) sh_133 hi3 dX7_number_38 ?_
        refine lv_iadd hx hb dX7_number_39 ?_
        refine lv_bipush (v := 48) hx hb dX7_number_40 (by decide) ?_
        refine lv_isub hx hb dX7_number_42 ?_
        refine lv_topi (fun y4 ey4 => ?_)
        have hT := hT y4 ey4
        refine lv_istore_n (lv' := [(3, .int y4), (0, .ref (G.2.2.2 + 132)), (2, .int x2), (4, .int x4)]) hx hb dX7_number_43 rfl hl (by decide) rfl (fun ls hl => ?_)
        obtain ⟨y5, ey5⟩ : ∃ z : Int32, z = x4 + (1 : Int32) := ⟨_, rfl⟩
        have hT := hT y5 ey5
        refine lv_iinc (v := y5) (lv' := [(4, .int y5), (3, .int y4), (0, .ref (G.2.2.2 + 132)), (2, .int x2)]) hx hb dX7_number_44 hl (k := 3) rfl (by rw [ey5]; rfl) (by decide) rfl (fun ls hl => ?_)
        refine lv_goto (tgt := 14) hx hb dX7_number_47 (by decide) ?_
        exact ih x2 y4 y5 M _ _ ls hT h (lv_sub hl [2, 3, 1, 0] rfl)
def T_X7_number (x1 : Int32) (x2 : Int32) (M : Mm) (K : Int32 → Mm → Prop) : Prop := (((x2 - x1) ≤ (4 : Int32) → (T_X7_number_14 5000 x2 (0 : Int32) x1 M K)) ∧ (¬ (x2 - x1) ≤ (4 : Int32) → (K (1 : Int32) M)))
set_option maxHeartbeats 4000000 in
set_option maxRecDepth 100000 in
theorem c_X7_number (l : Launch) (G : fx_G) {x1 : Int32} {x2 : Int32} {M : Mm} {K : Int32 → Mm → Prop} (hT : T_X7_number x1 x2 M K) : Met l yX7_number (fx_ws yX7_number cX7_number 5 (some .int)) (fx_rm (0)) (va_Pc [.ref (G.2.2.2 + 132), .int x1, .int x2] (fx_P G SH M)) (va_Qi K (fx_R G SH) (fx_A G)) 0 0 (fx_A G) := by
  refine fx_met (own := RX7) (by decide +kernel) rfl (Nat.le_of_ble_eq_true rfl) (fun p e s m below meth c X hr hk h ls hl => ?_)
  obtain ⟨⟨hx, hb, hml, hown, hts⟩, hK, hQ⟩ := id X
  have hl : lv_has ls 5 [(0, .ref (G.2.2.2 + 132)), (1, .int x1), (2, .int x2)] := hl
  unfold T_X7_number at hT
  refine lv_iload_n hx hb dX7_number_0 rfl (lv_at hl 2 rfl) ?_
  refine lv_iload_n hx hb dX7_number_1 rfl (lv_at hl 1 rfl) ?_
  refine lv_isub hx hb dX7_number_2 ?_
  refine lv_iconst (v := 4) hx hb dX7_number_3 (by decide) ?_
  refine lv_icmp_le (tgt := 9) hx hb dX7_number_4 (by decide) (fun hc6 => ?_) (fun hc6 => ?_)
  · have hT := hT.1 hc6
    refine lv_iconst (v := 0) hx hb dX7_number_9 (by decide) ?_
    refine lv_istore_n (lv' := [(3, .int (0 : Int32)), (0, .ref (G.2.2.2 + 132)), (1, .int x1), (2, .int x2)]) hx hb dX7_number_10 rfl hl (by decide) rfl (fun ls hl => ?_)
    refine lv_iload_n hx hb dX7_number_11 rfl (lv_at hl 2 rfl) ?_
    refine lv_istore (lv' := [(4, .int x1), (3, .int (0 : Int32)), (0, .ref (G.2.2.2 + 132)), (1, .int x1), (2, .int x2)]) hx hb dX7_number_12 hl (by decide) rfl (fun ls hl => ?_)
    exact w_X7_number_14 X hr hk 5000 x2 (0 : Int32) x1 M _ _ ls hT h (lv_sub hl [2, 4, 1, 0] rfl)
  · have hT := hT.2 hc6
    refine lv_iconst (v := 1) hx hb dX7_number_7 (by decide) ?_
    exact fx_iret X hr hk h hT dX7_number_8
/-! MockParcels$Reader.tokenOf(II)I -/
theorem dX7_tokenOf_0 : decode cX7_tokenOf 0 = .ok (.aload_n 0, 1) := by decide +kernel
theorem dX7_tokenOf_1 : decode cX7_tokenOf 1 = .ok (.getfield 9, 3) := by decide +kernel
theorem dX7_tokenOf_4 : decode cX7_tokenOf 4 = .ok (.iload_n 1, 1) := by decide +kernel
theorem dX7_tokenOf_5 : decode cX7_tokenOf 5 = .ok (.iaload, 1) := by decide +kernel
theorem dX7_tokenOf_6 : decode cX7_tokenOf 6 = .ok (.invokestatic 66, 3) := by decide +kernel
theorem dX7_tokenOf_9 : decode cX7_tokenOf 9 = .ok (.ifCond .eq 10, 3) := by decide +kernel
theorem dX7_tokenOf_12 : decode cX7_tokenOf 12 = .ok (.aload_n 0, 1) := by decide +kernel
theorem dX7_tokenOf_13 : decode cX7_tokenOf 13 = .ok (.iload_n 1, 1) := by decide +kernel
theorem dX7_tokenOf_14 : decode cX7_tokenOf 14 = .ok (.iload_n 2, 1) := by decide +kernel
theorem dX7_tokenOf_15 : decode cX7_tokenOf 15 = .ok (.invokevirtual 72, 3) := by decide +kernel
theorem dX7_tokenOf_18 : decode cX7_tokenOf 18 = .ok (.ireturn, 1) := by decide +kernel
theorem dX7_tokenOf_19 : decode cX7_tokenOf 19 = .ok (.aload_n 0, 1) := by decide +kernel
theorem dX7_tokenOf_20 : decode cX7_tokenOf 20 = .ok (.getfield 9, 3) := by decide +kernel
theorem dX7_tokenOf_23 : decode cX7_tokenOf 23 = .ok (.iload_n 1, 1) := by decide +kernel
theorem dX7_tokenOf_24 : decode cX7_tokenOf 24 = .ok (.iaload, 1) := by decide +kernel
theorem dX7_tokenOf_25 : decode cX7_tokenOf 25 = .ok (.invokestatic 69, 3) := by decide +kernel
theorem dX7_tokenOf_28 : decode cX7_tokenOf 28 = .ok (.ifCond .eq 10, 3) := by decide +kernel
theorem dX7_tokenOf_31 : decode cX7_tokenOf 31 = .ok (.aload_n 0, 1) := by decide +kernel
theorem dX7_tokenOf_32 : decode cX7_tokenOf 32 = .ok (.iload_n 1, 1) := by decide +kernel
theorem dX7_tokenOf_33 : decode cX7_tokenOf 33 = .ok (.iload_n 2, 1) := by decide +kernel
theorem dX7_tokenOf_34 : decode cX7_tokenOf 34 = .ok (.invokevirtual 75, 3) := by decide +kernel
theorem dX7_tokenOf_37 : decode cX7_tokenOf 37 = .ok (.ireturn, 1) := by decide +kernel
theorem dX7_tokenOf_38 : decode cX7_tokenOf 38 = .ok (.ldc 78, 2) := by decide +kernel
theorem dX7_tokenOf_40 : decode cX7_tokenOf 40 = .ok (.aload_n 0, 1) := by decide +kernel
theorem dX7_tokenOf_41 : decode cX7_tokenOf 41 = .ok (.getfield 9, 3) := by decide +kernel
theorem dX7_tokenOf_44 : decode cX7_tokenOf 44 = .ok (.iload_n 1, 1) := by decide +kernel
theorem dX7_tokenOf_45 : decode cX7_tokenOf 45 = .ok (.iaload, 1) := by decide +kernel
theorem dX7_tokenOf_46 : decode cX7_tokenOf 46 = .ok (.i2c, 1) := by decide +kernel
theorem dX7_tokenOf_47 : decode cX7_tokenOf 47 = .ok (.invokevirtual 80, 3) := by decide +kernel
theorem dX7_tokenOf_50 : decode cX7_tokenOf 50 = .ok (.ifCond .lt 12, 3) := by decide +kernel
theorem dX7_tokenOf_53 : decode cX7_tokenOf 53 = .ok (.aload_n 0, 1) := by decide +kernel
theorem dX7_tokenOf_54 : decode cX7_tokenOf 54 = .ok (.getfield 9, 3) := by decide +kernel
theorem dX7_tokenOf_57 : decode cX7_tokenOf 57 = .ok (.iload_n 1, 1) := by decide +kernel
theorem dX7_tokenOf_58 : decode cX7_tokenOf 58 = .ok (.iaload, 1) := by decide +kernel
theorem dX7_tokenOf_59 : decode cX7_tokenOf 59 = .ok (.goto 4, 3) := by decide +kernel
theorem dX7_tokenOf_62 : decode cX7_tokenOf 62 = .ok (.iconst 1, 1) := by decide +kernel
theorem dX7_tokenOf_63 : decode cX7_tokenOf 63 = .ok (.ireturn, 1) := by decide +kernel
def T_X7_tokenOf (x1 : Int32) (x2 : Int32) (M : Mm) (K : Int32 → Mm → Prop) : Prop := (vp_in x1 400 ∧ (T_X7_isLetter (M 133 (x1).toNatClampNeg) M (fun r4 M3 => ((r4 = 0 → (vp_in x1 400 ∧ (T_X7_isDigit (M3 133 (x1).toNatClampNeg) M3 (fun r9 M8 => ((r9 = 0 → (vp_in x1 400 ∧ (T_J0_indexOf_0f7a4 1 (((M8 133 (x1).toNatClampNeg)).toUInt32 % 65536).toInt32 M8 (fun r14 M13 => ((r14 < 0 → (K (1 : Int32) M13)) ∧ (¬ r14 < 0 → (vp_in x1 400 ∧ (K (M13 133 (x1).toNatClampNeg) M13)))))))) ∧ (¬ r9 = 0 → (T_X7_number x1 x2 M8 (fun r19 M18 => (K r19 M18))))))))) ∧ (¬ r4 = 0 → (T_X7_keyword x1 x2 M3 (fun r22 M21 => (K r22 M21))))))))
set_option maxHeartbeats 4000000 in
set_option maxRecDepth 100000 in
theorem c_X7_tokenOf (l : Launch) (G : fx_G) {x1 : Int32} {x2 : Int32} {M : Mm} {K : Int32 → Mm → Prop} (hT : T_X7_tokenOf x1 x2 M K) : Met l yX7_tokenOf (fx_ws yX7_tokenOf cX7_tokenOf 3 (some .int)) (fx_rm (5)) (va_Pc [.ref (G.2.2.2 + 132), .int x1, .int x2] (fx_P G SH M)) (va_Qi K (fx_R G SH) (fx_A G)) 0 0 (fx_A G) := by
  refine fx_met (own := RX7) (by decide +kernel) rfl (Nat.le_of_ble_eq_true rfl) (fun p e s m below meth c X hr hk h ls hl => ?_)
  obtain ⟨⟨hx, hb, hml, hown, hts⟩, hK, hQ⟩ := id X
  have hl : lv_has ls 3 [(0, .ref (G.2.2.2 + 132)), (1, .int x1), (2, .int x2)] := hl
  unfold T_X7_tokenOf at hT
  refine lv_aload_n hx hb dX7_tokenOf_0 rfl (lv_at hl 0 rfl) ?_
  refine fx_getR X h (k := 132) (j := 0) (r := 133) sh_132 rfl fl_RX7_9 dX7_tokenOf_1 ?_
  refine lv_iload_n hx hb dX7_tokenOf_4 rfl (lv_at hl 1 rfl) ?_
  obtain ⟨hi1, hT⟩ := hT
  refine fx_iald X h (k := 133) sh_133 hi1 dX7_tokenOf_5 ?_
  refine fx_si X h ym_X7_isLetter yt_X7_isLetter (fx_s4 (List.mem_of_getElem? (i := 25) rfl) rfl) (c_X7_isLetter l G hT) (As := [.int (M 133 (x1).toNatClampNeg)]) (rest := []) rfl rfl ⟨Nat.le_of_ble_eq_true rfl, Nat.le_of_ble_eq_true rfl⟩ ⟨Nat.le_refl _, Nat.le_refl _⟩ hl.1 (Nat.le_of_ble_eq_true rfl) dX7_tokenOf_6 (fun r4 M3 H locs hT h => ?_)
  refine lv_if_eq (tgt := 19) hx hb dX7_tokenOf_9 (by decide) (fun hc5 => ?_) (fun hc5 => ?_)
  · have hT := hT.1 hc5
    refine lv_aload_n hx hb dX7_tokenOf_19 rfl (lv_at hl 0 rfl) ?_
    refine fx_getR X h (k := 132) (j := 0) (r := 133) sh_132 rfl fl_RX7_9 dX7_tokenOf_20 ?_
    refine lv_iload_n hx hb dX7_tokenOf_23 rfl (lv_at hl 1 rfl) ?_
    obtain ⟨hi6, hT⟩ := hT
    refine fx_iald X h (k := 133) sh_133 hi6 dX7_tokenOf_24 ?_
    refine fx_si X h ym_X7_isDigit yt_X7_isDigit (fx_s4 (List.mem_of_getElem? (i := 28) rfl) rfl) (c_X7_isDigit l G hT) (As := [.int (M3 133 (x1).toNatClampNeg)]) (rest := []) rfl rfl ⟨Nat.le_of_ble_eq_true rfl, Nat.le_of_ble_eq_true rfl⟩ ⟨Nat.le_refl _, Nat.le_refl _⟩ hl.1 (Nat.le_of_ble_eq_true rfl) dX7_tokenOf_25 (fun r9 M8 H locs hT h => ?_)
    refine lv_if_eq (tgt := 38) hx hb dX7_tokenOf_28 (by decide) (fun hc10 => ?_) (fun hc10 => ?_)
    · have hT := hT.1 hc10
      refine va_ldcS hx hb hown hQ.2.1 dX7_tokenOf_38 ?_
      refine lv_aload_n hx hb dX7_tokenOf_40 rfl (lv_at hl 0 rfl) ?_
      refine fx_getR X h (k := 132) (j := 0) (r := 133) sh_132 rfl fl_RX7_9 dX7_tokenOf_41 ?_
      refine lv_iload_n hx hb dX7_tokenOf_44 rfl (lv_at hl 1 rfl) ?_
      obtain ⟨hi11, hT⟩ := hT
      refine fx_iald X h (k := 133) sh_133 hi11 dX7_tokenOf_45 ?_
      refine lv_i2c hx hb dX7_tokenOf_46 rfl ?_
      refine fx_ti X h ym_J0_indexOf_0f7a4 yi_J0_indexOf_0f7a4 ys_J0_indexOf_0f7a4 (fx_s4 (List.mem_of_getElem? (i := 93) rfl) rfl) (k := 1) (by decide) rfl (c_J0_indexOf_0f7a4 l G (by decide) hT) (As := [.int (((M8 133 (x1).toNatClampNeg)).toUInt32 % 65536).toInt32]) (rest := []) rfl rfl ⟨Nat.le_of_ble_eq_true rfl, Nat.le_of_ble_eq_true rfl⟩ ⟨Nat.le_refl _, Nat.le_refl _⟩ hl.1 (Nat.le_of_ble_eq_true rfl) dX7_tokenOf_47 (fun r14 M13 H locs hT h => ?_)
      refine lv_if_lt (tgt := 62) hx hb dX7_tokenOf_50 (by decide) (fun hc15 => ?_) (fun hc15 => ?_)
      · have hT := hT.1 hc15
        refine lv_iconst (v := 1) hx hb dX7_tokenOf_62 (by decide) ?_
        exact fx_iret X hr hk h hT dX7_tokenOf_63
      · have hT := hT.2 hc15
        refine lv_aload_n hx hb dX7_tokenOf_53 rfl (lv_at hl 0 rfl) ?_
        refine fx_getR X h (k := 132) (j := 0) (r := 133) sh_132 rfl fl_RX7_9 dX7_tokenOf_54 ?_
        refine lv_iload_n hx hb dX7_tokenOf_57 rfl (lv_at hl 1 rfl) ?_
        obtain ⟨hi16, hT⟩ := hT
        refine fx_iald X h (k := 133) sh_133 hi16 dX7_tokenOf_58 ?_
        refine lv_goto (tgt := 63) hx hb dX7_tokenOf_59 (by decide) ?_
        exact fx_iret X hr hk h hT dX7_tokenOf_63
    · have hT := hT.2 hc10
      refine lv_aload_n hx hb dX7_tokenOf_31 rfl (lv_at hl 0 rfl) ?_
      refine lv_iload_n hx hb dX7_tokenOf_32 rfl (lv_at hl 1 rfl) ?_
      refine lv_iload_n hx hb dX7_tokenOf_33 rfl (lv_at hl 2 rfl) ?_
      refine fx_vi X h ym_X7_number yi_X7_number ys_X7_number (fx_s4 (List.mem_of_getElem? (i := 88) rfl) rfl) sh_132 rfl (c_X7_number l G hT) (As := [.int x1, .int x2]) (rest := []) rfl rfl ⟨Nat.le_of_ble_eq_true rfl, Nat.le_of_ble_eq_true rfl⟩ ⟨Nat.le_refl _, Nat.le_refl _⟩ hl.1 (Nat.le_of_ble_eq_true rfl) dX7_tokenOf_34 (fun r19 M18 H locs hT h => ?_)
      exact fx_iret X hr hk h hT dX7_tokenOf_37
  · have hT := hT.2 hc5
    refine lv_aload_n hx hb dX7_tokenOf_12 rfl (lv_at hl 0 rfl) ?_
    refine lv_iload_n hx hb dX7_tokenOf_13 rfl (lv_at hl 1 rfl) ?_
    refine lv_iload_n hx hb dX7_tokenOf_14 rfl (lv_at hl 2 rfl) ?_
    refine fx_vi X h ym_X7_keyword yi_X7_keyword ys_X7_keyword (fx_s4 (List.mem_of_getElem? (i := 35) rfl) rfl) sh_132 rfl (c_X7_keyword l G hT) (As := [.int x1, .int x2]) (rest := []) rfl rfl ⟨Nat.le_of_ble_eq_true rfl, Nat.le_of_ble_eq_true rfl⟩ ⟨Nat.le_refl _, Nat.le_refl _⟩ hl.1 (Nat.le_of_ble_eq_true rfl) dX7_tokenOf_15 (fun r22 M21 H locs hT h => ?_)
    exact fx_iret X hr hk h hT dX7_tokenOf_18
/-! MockParcels$Reader.addToken(II)V -/
theorem dX7_addToken_0 : decode cX7_addToken 0 = .ok (.aload_n 0, 1) := by decide +kernel
theorem dX7_addToken_1 : decode cX7_addToken 1 = .ok (.getfield 25, 3) := by decide +kernel
theorem dX7_addToken_4 : decode cX7_addToken 4 = .ok (.sipush 400, 3) := by decide +kernel
theorem dX7_addToken_7 : decode cX7_addToken 7 = .ok (.if_icmp .gt 33, 3) := by decide +kernel
theorem dX7_addToken_10 : decode cX7_addToken 10 = .ok (.aload_n 0, 1) := by decide +kernel
theorem dX7_addToken_11 : decode cX7_addToken 11 = .ok (.getfield 19, 3) := by decide +kernel
theorem dX7_addToken_14 : decode cX7_addToken 14 = .ok (.aload_n 0, 1) := by decide +kernel
theorem dX7_addToken_15 : decode cX7_addToken 15 = .ok (.getfield 25, 3) := by decide +kernel
theorem dX7_addToken_18 : decode cX7_addToken 18 = .ok (.iload_n 1, 1) := by decide +kernel
theorem dX7_addToken_19 : decode cX7_addToken 19 = .ok (.iastore, 1) := by decide +kernel
theorem dX7_addToken_20 : decode cX7_addToken 20 = .ok (.aload_n 0, 1) := by decide +kernel
theorem dX7_addToken_21 : decode cX7_addToken 21 = .ok (.getfield 22, 3) := by decide +kernel
theorem dX7_addToken_24 : decode cX7_addToken 24 = .ok (.aload_n 0, 1) := by decide +kernel
theorem dX7_addToken_25 : decode cX7_addToken 25 = .ok (.getfield 25, 3) := by decide +kernel
theorem dX7_addToken_28 : decode cX7_addToken 28 = .ok (.iload_n 2, 1) := by decide +kernel
theorem dX7_addToken_29 : decode cX7_addToken 29 = .ok (.iastore, 1) := by decide +kernel
theorem dX7_addToken_30 : decode cX7_addToken 30 = .ok (.aload_n 0, 1) := by decide +kernel
theorem dX7_addToken_31 : decode cX7_addToken 31 = .ok (.dup, 1) := by decide +kernel
theorem dX7_addToken_32 : decode cX7_addToken 32 = .ok (.getfield 25, 3) := by decide +kernel
theorem dX7_addToken_35 : decode cX7_addToken 35 = .ok (.iconst 1, 1) := by decide +kernel
theorem dX7_addToken_36 : decode cX7_addToken 36 = .ok (.iadd, 1) := by decide +kernel
theorem dX7_addToken_37 : decode cX7_addToken 37 = .ok (.putfield 25, 3) := by decide +kernel
theorem dX7_addToken_40 : decode cX7_addToken 40 = .ok (.return_, 1) := by decide +kernel
def T_X7_addToken (x1 : Int32) (x2 : Int32) (M : Mm) (K : Mm → Prop) : Prop := (((400 : Int32) < (M 132 4) → (K M)) ∧ (¬ (400 : Int32) < (M 132 4) → (vp_in (M 132 4) 401 ∧ (∀ M2 : Mm, M2 = m_up M 134 ((M 132 4)).toNatClampNeg x1 → (vp_in (M2 132 4) 401 ∧ (∀ M4 : Mm, M4 = m_up M2 135 ((M2 132 4)).toNatClampNeg x2 → (∀ M6 : Mm, M6 = m_up M4 132 4 ((M4 132 4) + (1 : Int32)) → (K M6))))))))
set_option maxHeartbeats 4000000 in
set_option maxRecDepth 100000 in
theorem c_X7_addToken (l : Launch) (G : fx_G) {x1 : Int32} {x2 : Int32} {M : Mm} {K : Mm → Prop} (hT : T_X7_addToken x1 x2 M K) : Met l yX7_addToken (fx_ws yX7_addToken cX7_addToken 3 none) (fx_rm (0)) (va_Pc [.ref (G.2.2.2 + 132), .int x1, .int x2] (fx_P G SH M)) (va_Qv K (fx_R G SH) (fx_A G)) 0 0 (fx_A G) := by
  refine fx_met (own := RX7) (by decide +kernel) rfl (Nat.le_of_ble_eq_true rfl) (fun p e s m below meth c X hr hk h ls hl => ?_)
  obtain ⟨⟨hx, hb, hml, hown, hts⟩, hK, hQ⟩ := id X
  have hl : lv_has ls 3 [(0, .ref (G.2.2.2 + 132)), (1, .int x1), (2, .int x2)] := hl
  unfold T_X7_addToken at hT
  refine lv_aload_n hx hb dX7_addToken_0 rfl (lv_at hl 0 rfl) ?_
  refine fx_getI X h (k := 132) (j := 4) sh_132 rfl fl_RX7_25 dX7_addToken_1 ?_
  refine lv_sipush (v := 400) hx hb dX7_addToken_4 (by decide) ?_
  refine lv_icmp_gt (tgt := 40) hx hb dX7_addToken_7 (by decide) (fun hc1 => ?_) (fun hc1 => ?_)
  · have hT := hT.1 hc1
    exact fx_vret X hr hk h hT dX7_addToken_40
  · have hT := hT.2 hc1
    refine lv_aload_n hx hb dX7_addToken_10 rfl (lv_at hl 0 rfl) ?_
    refine fx_getR X h (k := 132) (j := 2) (r := 134) sh_132 rfl fl_RX7_19 dX7_addToken_11 ?_
    refine lv_aload_n hx hb dX7_addToken_14 rfl (lv_at hl 0 rfl) ?_
    refine fx_getI X h (k := 132) (j := 4) sh_132 rfl fl_RX7_25 dX7_addToken_15 ?_
    refine lv_iload_n hx hb dX7_addToken_18 rfl (lv_at hl 1 rfl) ?_
    obtain ⟨hi3, hT⟩ := hT
    refine fx_iast X h (k := 134) sh_134 hi3 dX7_addToken_19 (fun H locs h => ?_)
    obtain ⟨M2, eM2⟩ : ∃ z : Mm, z = m_up M 134 ((M 132 4)).toNatClampNeg x1 := ⟨_, rfl⟩
    have hT := hT M2 eM2
    rw [← eM2] at h
    refine lv_aload_n hx hb dX7_addToken_20 rfl (lv_at hl 0 rfl) ?_
    refine fx_getR X h (k := 132) (j := 3) (r := 135) sh_132 rfl fl_RX7_22 dX7_addToken_21 ?_
    refine lv_aload_n hx hb dX7_addToken_24 rfl (lv_at hl 0 rfl) ?_
    refine fx_getI X h (k := 132) (j := 4) sh_132 rfl fl_RX7_25 dX7_addToken_25 ?_
    refine lv_iload_n hx hb dX7_addToken_28 rfl (lv_at hl 2 rfl) ?_
    obtain ⟨hi5, hT⟩ := hT
    refine fx_iast X h (k := 135) sh_135 hi5 dX7_addToken_29 (fun H locs h => ?_)
    obtain ⟨M4, eM4⟩ : ∃ z : Mm, z = m_up M2 135 ((M2 132 4)).toNatClampNeg x2 := ⟨_, rfl⟩
    have hT := hT M4 eM4
    rw [← eM4] at h
    refine lv_aload_n hx hb dX7_addToken_30 rfl (lv_at hl 0 rfl) ?_
    refine lv_dup hx hb dX7_addToken_31 rfl ?_
    refine fx_getI X h (k := 132) (j := 4) sh_132 rfl fl_RX7_25 dX7_addToken_32 ?_
    refine lv_iconst (v := 1) hx hb dX7_addToken_35 (by decide) ?_
    refine lv_iadd hx hb dX7_addToken_36 ?_
    refine fx_putI X h (k := 132) (j := 4) sh_132 rfl fl_RX7_25 dX7_addToken_37 (fun H locs h => ?_)
    obtain ⟨M6, eM6⟩ : ∃ z : Mm, z = m_up M4 132 4 ((M4 132 4) + (1 : Int32)) := ⟨_, rfl⟩
    have hT := hT M6 eM6
    rw [← eM6] at h
    exact fx_vret X hr hk h hT dX7_addToken_40
/-! MockParcels$Reader.begin()V -/
theorem dX7_begin_0 : decode cX7_begin 0 = .ok (.aload_n 0, 1) := by decide +kernel
theorem dX7_begin_1 : decode cX7_begin 1 = .ok (.iconst 0, 1) := by decide +kernel
theorem dX7_begin_2 : decode cX7_begin 2 = .ok (.putfield 34, 3) := by decide +kernel
theorem dX7_begin_5 : decode cX7_begin 5 = .ok (.aload_n 0, 1) := by decide +kernel
theorem dX7_begin_6 : decode cX7_begin 6 = .ok (.iconst (-1), 1) := by decide +kernel
theorem dX7_begin_7 : decode cX7_begin 7 = .ok (.putfield 37, 3) := by decide +kernel
theorem dX7_begin_10 : decode cX7_begin 10 = .ok (.aload_n 0, 1) := by decide +kernel
theorem dX7_begin_11 : decode cX7_begin 11 = .ok (.iconst 0, 1) := by decide +kernel
theorem dX7_begin_12 : decode cX7_begin 12 = .ok (.putfield 25, 3) := by decide +kernel
theorem dX7_begin_15 : decode cX7_begin 15 = .ok (.iconst 0, 1) := by decide +kernel
theorem dX7_begin_16 : decode cX7_begin 16 = .ok (.istore_n 1, 1) := by decide +kernel
theorem dX7_begin_17 : decode cX7_begin 17 = .ok (.iconst 0, 1) := by decide +kernel
theorem dX7_begin_18 : decode cX7_begin 18 = .ok (.istore_n 2, 1) := by decide +kernel
theorem dX7_begin_19 : decode cX7_begin 19 = .ok (.iload_n 2, 1) := by decide +kernel
theorem dX7_begin_20 : decode cX7_begin 20 = .ok (.sipush 400, 3) := by decide +kernel
theorem dX7_begin_23 : decode cX7_begin 23 = .ok (.if_icmp .ge 59, 3) := by decide +kernel
theorem dX7_begin_26 : decode cX7_begin 26 = .ok (.iload_n 1, 1) := by decide +kernel
theorem dX7_begin_27 : decode cX7_begin 27 = .ok (.aload_n 0, 1) := by decide +kernel
theorem dX7_begin_28 : decode cX7_begin 28 = .ok (.getfield 15, 3) := by decide +kernel
theorem dX7_begin_31 : decode cX7_begin 31 = .ok (.if_icmp .ge 51, 3) := by decide +kernel
theorem dX7_begin_34 : decode cX7_begin 34 = .ok (.iload_n 1, 1) := by decide +kernel
theorem dX7_begin_35 : decode cX7_begin 35 = .ok (.sipush 400, 3) := by decide +kernel
theorem dX7_begin_38 : decode cX7_begin 38 = .ok (.if_icmp .ge 44, 3) := by decide +kernel
theorem dX7_begin_41 : decode cX7_begin 41 = .ok (.iload_n 1, 1) := by decide +kernel
theorem dX7_begin_42 : decode cX7_begin 42 = .ok (.iconst 1, 1) := by decide +kernel
theorem dX7_begin_43 : decode cX7_begin 43 = .ok (.iadd, 1) := by decide +kernel
theorem dX7_begin_44 : decode cX7_begin 44 = .ok (.istore_n 3, 1) := by decide +kernel
theorem dX7_begin_45 : decode cX7_begin 45 = .ok (.aload_n 0, 1) := by decide +kernel
theorem dX7_begin_46 : decode cX7_begin 46 = .ok (.getfield 9, 3) := by decide +kernel
theorem dX7_begin_49 : decode cX7_begin 49 = .ok (.iload_n 1, 1) := by decide +kernel
theorem dX7_begin_50 : decode cX7_begin 50 = .ok (.iaload, 1) := by decide +kernel
theorem dX7_begin_51 : decode cX7_begin 51 = .ok (.invokestatic 40, 3) := by decide +kernel
theorem dX7_begin_54 : decode cX7_begin 54 = .ok (.ifCond .ne 20, 3) := by decide +kernel
theorem dX7_begin_57 : decode cX7_begin 57 = .ok (.aload_n 0, 1) := by decide +kernel
theorem dX7_begin_58 : decode cX7_begin 58 = .ok (.iload_n 1, 1) := by decide +kernel
theorem dX7_begin_59 : decode cX7_begin 59 = .ok (.invokevirtual 44, 3) := by decide +kernel
theorem dX7_begin_62 : decode cX7_begin 62 = .ok (.istore_n 3, 1) := by decide +kernel
theorem dX7_begin_63 : decode cX7_begin 63 = .ok (.aload_n 0, 1) := by decide +kernel
theorem dX7_begin_64 : decode cX7_begin 64 = .ok (.aload_n 0, 1) := by decide +kernel
theorem dX7_begin_65 : decode cX7_begin 65 = .ok (.iload_n 1, 1) := by decide +kernel
theorem dX7_begin_66 : decode cX7_begin 66 = .ok (.iload_n 3, 1) := by decide +kernel
theorem dX7_begin_67 : decode cX7_begin 67 = .ok (.invokevirtual 48, 3) := by decide +kernel
theorem dX7_begin_70 : decode cX7_begin 70 = .ok (.iload_n 1, 1) := by decide +kernel
theorem dX7_begin_71 : decode cX7_begin 71 = .ok (.invokevirtual 52, 3) := by decide +kernel
theorem dX7_begin_74 : decode cX7_begin 74 = .ok (.iload_n 3, 1) := by decide +kernel
theorem dX7_begin_75 : decode cX7_begin 75 = .ok (.istore_n 1, 1) := by decide +kernel
theorem dX7_begin_76 : decode cX7_begin 76 = .ok (.iinc 2 1, 3) := by decide +kernel
theorem dX7_begin_79 : decode cX7_begin 79 = .ok (.goto (-60), 3) := by decide +kernel
theorem dX7_begin_82 : decode cX7_begin 82 = .ok (.aload_n 0, 1) := by decide +kernel
theorem dX7_begin_83 : decode cX7_begin 83 = .ok (.iconst 0, 1) := by decide +kernel
theorem dX7_begin_84 : decode cX7_begin 84 = .ok (.aload_n 0, 1) := by decide +kernel
theorem dX7_begin_85 : decode cX7_begin 85 = .ok (.getfield 15, 3) := by decide +kernel
theorem dX7_begin_88 : decode cX7_begin 88 = .ok (.invokevirtual 52, 3) := by decide +kernel
theorem dX7_begin_91 : decode cX7_begin 91 = .ok (.aload_n 0, 1) := by decide +kernel
theorem dX7_begin_92 : decode cX7_begin 92 = .ok (.iconst 0, 1) := by decide +kernel
theorem dX7_begin_93 : decode cX7_begin 93 = .ok (.putfield 28, 3) := by decide +kernel
theorem dX7_begin_96 : decode cX7_begin 96 = .ok (.aload_n 0, 1) := by decide +kernel
theorem dX7_begin_97 : decode cX7_begin 97 = .ok (.aload_n 0, 1) := by decide +kernel
theorem dX7_begin_98 : decode cX7_begin 98 = .ok (.getfield 19, 3) := by decide +kernel
theorem dX7_begin_101 : decode cX7_begin 101 = .ok (.iconst 0, 1) := by decide +kernel
theorem dX7_begin_102 : decode cX7_begin 102 = .ok (.iaload, 1) := by decide +kernel
theorem dX7_begin_103 : decode cX7_begin 103 = .ok (.putfield 31, 3) := by decide +kernel
theorem dX7_begin_106 : decode cX7_begin 106 = .ok (.return_, 1) := by decide +kernel
def T_X7_begin_82 (M : Mm) (K : Mm → Prop) : Prop := (T_X7_addToken (0 : Int32) (M 132 1) M (fun M2 => (∀ M3 : Mm, M3 = m_up M2 132 5 (0 : Int32) → (∀ M4 : Mm, M4 = m_up M3 132 6 (M3 134 0) → (K M4)))))
set_option maxHeartbeats 4000000 in
set_option maxRecDepth 100000 in
theorem w_X7_begin_82 {p : Program} {l : Launch} {e : Env} {s : State} {m : MethodId} {args : Array Value} {below : List Frame} {meth : Method} {c : Code} {G : fx_G} {K : Mm → Prop} (X : fx_C G p s m c args cX7_begin 4 RX7) (hr : meth.sig.returnType = none) (hk : meth.locks = false) : ∀ (M : Mm) (H : Heap) (locs : List Loc) (ls : Array Slot), T_X7_begin_82  M K → fx_H G SH M s H locs → lv_has ls 4 [(0, .ref (G.2.2.2 + 132))] → W p l e (fx_rm (6)) s m args below meth c H locs 0 0 (MQ below (va_Qv K (fx_R G SH) (fx_A G)) args s 0 0 (fx_A G)) (F0 m 82 ls []) := by
  obtain ⟨⟨hx, hb, hml, hown, hts⟩, hK, hQ⟩ := id X
  intro  M H locs ls hT h hl
  unfold T_X7_begin_82 at hT
  refine lv_aload_n hx hb dX7_begin_82 rfl (lv_at hl 0 rfl) ?_
  refine lv_iconst (v := 0) hx hb dX7_begin_83 (by decide) ?_
  refine lv_aload_n hx hb dX7_begin_84 rfl (lv_at hl 0 rfl) ?_
  refine fx_getI X h (k := 132) (j := 1) sh_132 rfl fl_RX7_15 dX7_begin_85 ?_
  refine fx_vv X h ym_X7_addToken yi_X7_addToken ys_X7_addToken (fx_s4 (List.mem_of_getElem? (i := 148) rfl) rfl) sh_132 rfl (c_X7_addToken l G hT) (As := [.int (0 : Int32), .int (M 132 1)]) (rest := []) rfl rfl ⟨Nat.le_of_ble_eq_true rfl, Nat.le_of_ble_eq_true rfl⟩ ⟨Nat.le_refl _, Nat.le_refl _⟩ hl.1 (Nat.le_of_ble_eq_true rfl) dX7_begin_88 (fun M2 H locs hT h => ?_)
  refine lv_aload_n hx hb dX7_begin_91 rfl (lv_at hl 0 rfl) ?_
  refine lv_iconst (v := 0) hx hb dX7_begin_92 (by decide) ?_
  refine fx_putI X h (k := 132) (j := 5) sh_132 rfl fl_RX7_28 dX7_begin_93 (fun H locs h => ?_)
  obtain ⟨M3, eM3⟩ : ∃ z : Mm, z = m_up M2 132 5 (0 : Int32) := ⟨_, rfl⟩
  have hT := hT M3 eM3
  rw [← eM3] at h
  refine lv_aload_n hx hb dX7_begin_96 rfl (lv_at hl 0 rfl) ?_
  refine lv_aload_n hx hb dX7_begin_97 rfl (lv_at hl 0 rfl) ?_
  refine fx_getR X h (k := 132) (j := 2) (r := 134) sh_132 rfl fl_RX7_19 dX7_begin_98 ?_
  refine lv_iconst (v := 0) hx hb dX7_begin_101 (by decide) ?_
  refine fx_iald X h (k := 134) sh_134 (by unfold vp_in; decide) dX7_begin_102 ?_
  rw [show ((0 : Int32)).toNatClampNeg = 0 by decide]
  refine fx_putI X h (k := 132) (j := 6) sh_132 rfl fl_RX7_31 dX7_begin_103 (fun H locs h => ?_)
  obtain ⟨M4, eM4⟩ : ∃ z : Mm, z = m_up M3 132 6 (M3 134 0) := ⟨_, rfl⟩
  have hT := hT M4 eM4
  rw [← eM4] at h
  exact fx_vret X hr hk h hT dX7_begin_106
def T_X7_begin_74 (B19 : Int32 → Int32 → Mm → Prop) (x2 : Int32) (x3 : Int32) (M : Mm) (K : Mm → Prop) : Prop := (∀ y5 : Int32, y5 = x2 + (1 : Int32) → (B19 x3 y5 M))
set_option maxHeartbeats 4000000 in
set_option maxRecDepth 100000 in
theorem w_X7_begin_74 {p : Program} {l : Launch} {e : Env} {s : State} {m : MethodId} {args : Array Value} {below : List Frame} {meth : Method} {c : Code} {G : fx_G} {K : Mm → Prop} {B19 : Int32 → Int32 → Mm → Prop} (X : fx_C G p s m c args cX7_begin 4 RX7) (hr : meth.sig.returnType = none) (hk : meth.locks = false) (hB19 : ∀ (x1 : Int32) (x2 : Int32) (M : Mm) (H : Heap) (locs : List Loc) (ls : Array Slot), B19 x1 x2 M → fx_H G SH M s H locs → lv_has ls 4 [(0, .ref (G.2.2.2 + 132)), (1, .int x1), (2, .int x2)] → W p l e (fx_rm (6)) s m args below meth c H locs 0 0 (MQ below (va_Qv K (fx_R G SH) (fx_A G)) args s 0 0 (fx_A G)) (F0 m 19 ls [])) : ∀ (x2 : Int32) (x3 : Int32) (M : Mm) (H : Heap) (locs : List Loc) (ls : Array Slot), T_X7_begin_74 B19 x2 x3 M K → fx_H G SH M s H locs → lv_has ls 4 [(0, .ref (G.2.2.2 + 132)), (2, .int x2), (3, .int x3)] → W p l e (fx_rm (6)) s m args below meth c H locs 0 0 (MQ below (va_Qv K (fx_R G SH) (fx_A G)) args s 0 0 (fx_A G)) (F0 m 74 ls []) := by
  obtain ⟨⟨hx, hb, hml, hown, hts⟩, hK, hQ⟩ := id X
  intro x2 x3 M H locs ls hT h hl
  unfold T_X7_begin_74 at hT
  refine lv_iload_n hx hb dX7_begin_74 rfl (lv_at hl 2 rfl) ?_
  refine lv_istore_n (lv' := [(1, .int x3), (0, .ref (G.2.2.2 + 132)), (2, .int x2), (3, .int x3)]) hx hb dX7_begin_75 rfl hl (by decide) rfl (fun ls hl => ?_)
  obtain ⟨y5, ey5⟩ : ∃ z : Int32, z = x2 + (1 : Int32) := ⟨_, rfl⟩
  have hT := hT y5 ey5
  refine lv_iinc (v := y5) (lv' := [(2, .int y5), (1, .int x3), (0, .ref (G.2.2.2 + 132)), (3, .int x3)]) hx hb dX7_begin_76 hl (k := 2) rfl (by rw [ey5]; rfl) (by decide) rfl (fun ls hl => ?_)
  refine lv_goto (tgt := 19) hx hb dX7_begin_79 (by decide) ?_
  exact hB19 x3 y5 M _ _ ls hT h (lv_sub hl [2, 1, 0] rfl)
def T_X7_begin_19 : Nat → Int32 → Int32 → Mm → (Mm → Prop) → Prop
  | 0, _, _, _, _ => False
  | n + 1, x1, x2, M, K => (((400 : Int32) ≤ x2 → (T_X7_begin_82 M K)) ∧ (¬ (400 : Int32) ≤ x2 → (((M 132 1) ≤ x1 → (T_X7_begin_82 M K)) ∧ (¬ (M 132 1) ≤ x1 → (((400 : Int32) ≤ x1 → (T_X7_begin_82 M K)) ∧ (¬ (400 : Int32) ≤ x1 → (∀ y9 : Int32, y9 = (x1 + (1 : Int32)) → (vp_in x1 400 ∧ (T_X7_isBlank (M 133 (x1).toNatClampNeg) M (fun r13 M12 => ((r13 = 0 → (T_X7_behindToken x1 M12 (fun r17 M16 => (T_X7_tokenOf x1 r17 M16 (fun r20 M19 => (T_X7_addToken r20 x1 M19 (fun M22 => (T_X7_begin_74 (fun x1 x2 M => T_X7_begin_19 n x1 x2 M K) x2 r17 M22 K)))))))) ∧ (¬ r13 = 0 → (T_X7_begin_74 (fun x1 x2 M => T_X7_begin_19 n x1 x2 M K) x2 y9 M12 K)))))))))))))
set_option maxHeartbeats 4000000 in
set_option maxRecDepth 100000 in
theorem w_X7_begin_19 {p : Program} {l : Launch} {e : Env} {s : State} {m : MethodId} {args : Array Value} {below : List Frame} {meth : Method} {c : Code} {G : fx_G} {K : Mm → Prop} (X : fx_C G p s m c args cX7_begin 4 RX7) (hr : meth.sig.returnType = none) (hk : meth.locks = false) : ∀ (n : Nat) (x1 : Int32) (x2 : Int32) (M : Mm) (H : Heap) (locs : List Loc) (ls : Array Slot), T_X7_begin_19 n x1 x2 M K → fx_H G SH M s H locs → lv_has ls 4 [(0, .ref (G.2.2.2 + 132)), (1, .int x1), (2, .int x2)] → W p l e (fx_rm (6)) s m args below meth c H locs 0 0 (MQ below (va_Qv K (fx_R G SH) (fx_A G)) args s 0 0 (fx_A G)) (F0 m 19 ls []) := by
  obtain ⟨⟨hx, hb, hml, hown, hts⟩, hK, hQ⟩ := id X
  intro n
  induction n with
  | zero =>
    intro x1 x2 M H locs ls hT
    exact hT.elim
  | succ n ih =>
    intro x1 x2 M H locs ls hT h hl
    rw [T_X7_begin_19] at hT
    refine lv_iload_n hx hb dX7_begin_19 rfl (lv_at hl 2 rfl) ?_
    refine lv_sipush (v := 400) hx hb dX7_begin_20 (by decide) ?_
    refine lv_icmp_ge (tgt := 82) hx hb dX7_begin_23 (by decide) (fun hc6 => ?_) (fun hc6 => ?_)
    · have hT := hT.1 hc6
      exact w_X7_begin_82 X hr hk M _ _ ls hT h (lv_sub hl [0] rfl)
    · have hT := hT.2 hc6
      refine lv_iload_n hx hb dX7_begin_26 rfl (lv_at hl 1 rfl) ?_
      refine lv_aload_n hx hb dX7_begin_27 rfl (lv_at hl 0 rfl) ?_
      refine fx_getI X h (k := 132) (j := 1) sh_132 rfl fl_RX7_15 dX7_begin_28 ?_
      refine lv_icmp_ge (tgt := 82) hx hb dX7_begin_31 (by decide) (fun hc7 => ?_) (fun hc7 => ?_)
      · have hT := hT.1 hc7
        exact w_X7_begin_82 X hr hk M _ _ ls hT h (lv_sub hl [0] rfl)
      · have hT := hT.2 hc7
        refine lv_iload_n hx hb dX7_begin_34 rfl (lv_at hl 1 rfl) ?_
        refine lv_sipush (v := 400) hx hb dX7_begin_35 (by decide) ?_
        refine lv_icmp_ge (tgt := 82) hx hb dX7_begin_38 (by decide) (fun hc8 => ?_) (fun hc8 => ?_)
        · have hT := hT.1 hc8
          exact w_X7_begin_82 X hr hk M _ _ ls hT h (lv_sub hl [0] rfl)
        · have hT := hT.2 hc8
          refine lv_iload_n hx hb dX7_begin_41 rfl (lv_at hl 1 rfl) ?_
          refine lv_iconst (v := 1) hx hb dX7_begin_42 (by decide) ?_
          refine lv_iadd hx hb dX7_begin_43 ?_
          refine lv_topi (fun y9 ey9 => ?_)
          have hT := hT y9 ey9
          refine lv_istore_n (lv' := [(3, .int y9), (0, .ref (G.2.2.2 + 132)), (1, .int x1), (2, .int x2)]) hx hb dX7_begin_44 rfl hl (by decide) rfl (fun ls hl => ?_)
          refine lv_aload_n hx hb dX7_begin_45 rfl (lv_at hl 1 rfl) ?_
          refine fx_getR X h (k := 132) (j := 0) (r := 133) sh_132 rfl fl_RX7_9 dX7_begin_46 ?_
          refine lv_iload_n hx hb dX7_begin_49 rfl (lv_at hl 2 rfl) ?_
          obtain ⟨hi10, hT⟩ := hT
          refine fx_iald X h (k := 133) sh_133 hi10 dX7_begin_50 ?_
          refine fx_si X h ym_X7_isBlank yt_X7_isBlank (fx_s4 (List.mem_of_getElem? (i := 18) rfl) rfl) (c_X7_isBlank l G hT) (As := [.int (M 133 (x1).toNatClampNeg)]) (rest := []) rfl rfl ⟨Nat.le_of_ble_eq_true rfl, Nat.le_of_ble_eq_true rfl⟩ ⟨Nat.le_refl _, Nat.le_refl _⟩ hl.1 (Nat.le_of_ble_eq_true rfl) dX7_begin_51 (fun r13 M12 H locs hT h => ?_)
          refine lv_if_ne (tgt := 74) hx hb dX7_begin_54 (by decide) (fun hc14 => ?_) (fun hc14 => ?_)
          · have hT := hT.2 hc14
            exact w_X7_begin_74 X hr hk (B19 := (fun x1 x2 M => T_X7_begin_19 n x1 x2 M K)) ih x2 y9 M12 _ _ ls hT h (lv_sub hl [1, 3, 0] rfl)
          · have hT := hT.1 hc14
            refine lv_aload_n hx hb dX7_begin_57 rfl (lv_at hl 1 rfl) ?_
            refine lv_iload_n hx hb dX7_begin_58 rfl (lv_at hl 2 rfl) ?_
            refine fx_vi X h ym_X7_behindToken yi_X7_behindToken ys_X7_behindToken (fx_s4 (List.mem_of_getElem? (i := 21) rfl) rfl) sh_132 rfl (c_X7_behindToken l G hT) (As := [.int x1]) (rest := []) rfl rfl ⟨Nat.le_of_ble_eq_true rfl, Nat.le_of_ble_eq_true rfl⟩ ⟨Nat.le_refl _, Nat.le_refl _⟩ hl.1 (Nat.le_of_ble_eq_true rfl) dX7_begin_59 (fun r17 M16 H locs hT h => ?_)
            refine lv_istore_n (lv' := [(3, .int r17), (0, .ref (G.2.2.2 + 132)), (1, .int x1), (2, .int x2)]) hx hb dX7_begin_62 rfl hl (by decide) rfl (fun ls hl => ?_)
            refine lv_aload_n hx hb dX7_begin_63 rfl (lv_at hl 1 rfl) ?_
            refine lv_aload_n hx hb dX7_begin_64 rfl (lv_at hl 1 rfl) ?_
            refine lv_iload_n hx hb dX7_begin_65 rfl (lv_at hl 2 rfl) ?_
            refine lv_iload_n hx hb dX7_begin_66 rfl (lv_at hl 0 rfl) ?_
            refine fx_vi X h ym_X7_tokenOf yi_X7_tokenOf ys_X7_tokenOf (fx_s4 (List.mem_of_getElem? (i := 31) rfl) rfl) sh_132 rfl (c_X7_tokenOf l G hT) (As := [.int x1, .int r17]) (rest := [.ref (G.2.2.2 + 132)]) rfl rfl ⟨Nat.le_of_ble_eq_true rfl, Nat.le_of_ble_eq_true rfl⟩ ⟨Nat.le_refl _, Nat.le_refl _⟩ hl.1 (Nat.le_of_ble_eq_true rfl) dX7_begin_67 (fun r20 M19 H locs hT h => ?_)
            refine lv_iload_n hx hb dX7_begin_70 rfl (lv_at hl 2 rfl) ?_
            refine fx_vv X h ym_X7_addToken yi_X7_addToken ys_X7_addToken (fx_s4 (List.mem_of_getElem? (i := 148) rfl) rfl) sh_132 rfl (c_X7_addToken l G hT) (As := [.int r20, .int x1]) (rest := []) rfl rfl ⟨Nat.le_of_ble_eq_true rfl, Nat.le_of_ble_eq_true rfl⟩ ⟨Nat.le_refl _, Nat.le_refl _⟩ hl.1 (Nat.le_of_ble_eq_true rfl) dX7_begin_71 (fun M22 H locs hT h => ?_)
            exact w_X7_begin_74 X hr hk (B19 := (fun x1 x2 M => T_X7_begin_19 n x1 x2 M K)) ih x2 r17 M22 _ _ ls hT h (lv_sub hl [1, 3, 0] rfl)
def T_X7_begin (M : Mm) (K : Mm → Prop) : Prop := (∀ M23 : Mm, M23 = m_up M 132 7 (0 : Int32) → (∀ M24 : Mm, M24 = m_up M23 132 8 (-1 : Int32) → (∀ M25 : Mm, M25 = m_up M24 132 4 (0 : Int32) → (T_X7_begin_19 5000 (0 : Int32) (0 : Int32) M25 K))))
set_option maxHeartbeats 4000000 in
set_option maxRecDepth 100000 in
theorem c_X7_begin (l : Launch) (G : fx_G) {M : Mm} {K : Mm → Prop} (hT : T_X7_begin M K) : Met l yX7_begin (fx_ws yX7_begin cX7_begin 4 none) (fx_rm (6)) (va_Pc [.ref (G.2.2.2 + 132)] (fx_P G SH M)) (va_Qv K (fx_R G SH) (fx_A G)) 0 0 (fx_A G) := by
  refine fx_met (own := RX7) (by decide +kernel) rfl (Nat.le_of_ble_eq_true rfl) (fun p e s m below meth c X hr hk h ls hl => ?_)
  obtain ⟨⟨hx, hb, hml, hown, hts⟩, hK, hQ⟩ := id X
  have hl : lv_has ls 4 [(0, .ref (G.2.2.2 + 132))] := hl
  unfold T_X7_begin at hT
  refine lv_aload_n hx hb dX7_begin_0 rfl (lv_at hl 0 rfl) ?_
  refine lv_iconst (v := 0) hx hb dX7_begin_1 (by decide) ?_
  refine fx_putI X h (k := 132) (j := 7) sh_132 rfl fl_RX7_34 dX7_begin_2 (fun H locs h => ?_)
  obtain ⟨M23, eM23⟩ : ∃ z : Mm, z = m_up M 132 7 (0 : Int32) := ⟨_, rfl⟩
  have hT := hT M23 eM23
  rw [← eM23] at h
  refine lv_aload_n hx hb dX7_begin_5 rfl (lv_at hl 0 rfl) ?_
  refine lv_iconst (v := -1) hx hb dX7_begin_6 (by decide) ?_
  refine fx_putI X h (k := 132) (j := 8) sh_132 rfl fl_RX7_37 dX7_begin_7 (fun H locs h => ?_)
  obtain ⟨M24, eM24⟩ : ∃ z : Mm, z = m_up M23 132 8 (-1 : Int32) := ⟨_, rfl⟩
  have hT := hT M24 eM24
  rw [← eM24] at h
  refine lv_aload_n hx hb dX7_begin_10 rfl (lv_at hl 0 rfl) ?_
  refine lv_iconst (v := 0) hx hb dX7_begin_11 (by decide) ?_
  refine fx_putI X h (k := 132) (j := 4) sh_132 rfl fl_RX7_25 dX7_begin_12 (fun H locs h => ?_)
  obtain ⟨M25, eM25⟩ : ∃ z : Mm, z = m_up M24 132 4 (0 : Int32) := ⟨_, rfl⟩
  have hT := hT M25 eM25
  rw [← eM25] at h
  refine lv_iconst (v := 0) hx hb dX7_begin_15 (by decide) ?_
  refine lv_istore_n (lv' := [(1, .int (0 : Int32)), (0, .ref (G.2.2.2 + 132))]) hx hb dX7_begin_16 rfl hl (by decide) rfl (fun ls hl => ?_)
  refine lv_iconst (v := 0) hx hb dX7_begin_17 (by decide) ?_
  refine lv_istore_n (lv' := [(2, .int (0 : Int32)), (1, .int (0 : Int32)), (0, .ref (G.2.2.2 + 132))]) hx hb dX7_begin_18 rfl hl (by decide) rfl (fun ls hl => ?_)
  exact w_X7_begin_19 X hr hk 5000 (0 : Int32) (0 : Int32) M25 _ _ ls hT h (lv_sub hl [2, 1, 0] rfl)
/-! MockParcels$Reader.step()V -/
theorem dX7_step_0 : decode cX7_step 0 = .ok (.aload_n 0, 1) := by decide +kernel
theorem dX7_step_1 : decode cX7_step 1 = .ok (.getfield 28, 3) := by decide +kernel
theorem dX7_step_4 : decode cX7_step 4 = .ok (.aload_n 0, 1) := by decide +kernel
theorem dX7_step_5 : decode cX7_step 5 = .ok (.getfield 25, 3) := by decide +kernel
theorem dX7_step_8 : decode cX7_step 8 = .ok (.iconst 1, 1) := by decide +kernel
theorem dX7_step_9 : decode cX7_step 9 = .ok (.isub, 1) := by decide +kernel
theorem dX7_step_10 : decode cX7_step 10 = .ok (.if_icmp .ge 13, 3) := by decide +kernel
theorem dX7_step_13 : decode cX7_step 13 = .ok (.aload_n 0, 1) := by decide +kernel
theorem dX7_step_14 : decode cX7_step 14 = .ok (.dup, 1) := by decide +kernel
theorem dX7_step_15 : decode cX7_step 15 = .ok (.getfield 28, 3) := by decide +kernel
theorem dX7_step_18 : decode cX7_step 18 = .ok (.iconst 1, 1) := by decide +kernel
theorem dX7_step_19 : decode cX7_step 19 = .ok (.iadd, 1) := by decide +kernel
theorem dX7_step_20 : decode cX7_step 20 = .ok (.putfield 28, 3) := by decide +kernel
theorem dX7_step_23 : decode cX7_step 23 = .ok (.aload_n 0, 1) := by decide +kernel
theorem dX7_step_24 : decode cX7_step 24 = .ok (.aload_n 0, 1) := by decide +kernel
theorem dX7_step_25 : decode cX7_step 25 = .ok (.getfield 19, 3) := by decide +kernel
theorem dX7_step_28 : decode cX7_step 28 = .ok (.aload_n 0, 1) := by decide +kernel
theorem dX7_step_29 : decode cX7_step 29 = .ok (.getfield 28, 3) := by decide +kernel
theorem dX7_step_32 : decode cX7_step 32 = .ok (.iaload, 1) := by decide +kernel
theorem dX7_step_33 : decode cX7_step 33 = .ok (.putfield 31, 3) := by decide +kernel
theorem dX7_step_36 : decode cX7_step 36 = .ok (.return_, 1) := by decide +kernel
def T_X7_step_23 (M : Mm) (K : Mm → Prop) : Prop := (vp_in (M 132 5) 401 ∧ (∀ M2 : Mm, M2 = m_up M 132 6 (M 134 ((M 132 5)).toNatClampNeg) → (K M2)))
set_option maxHeartbeats 4000000 in
set_option maxRecDepth 100000 in
theorem w_X7_step_23 {p : Program} {l : Launch} {e : Env} {s : State} {m : MethodId} {args : Array Value} {below : List Frame} {meth : Method} {c : Code} {G : fx_G} {K : Mm → Prop} (X : fx_C G p s m c args cX7_step 1 RX7) (hr : meth.sig.returnType = none) (hk : meth.locks = false) : ∀ (M : Mm) (H : Heap) (locs : List Loc) (ls : Array Slot), T_X7_step_23  M K → fx_H G SH M s H locs → lv_has ls 1 [(0, .ref (G.2.2.2 + 132))] → W p l e (fx_rm (0)) s m args below meth c H locs 0 0 (MQ below (va_Qv K (fx_R G SH) (fx_A G)) args s 0 0 (fx_A G)) (F0 m 23 ls []) := by
  obtain ⟨⟨hx, hb, hml, hown, hts⟩, hK, hQ⟩ := id X
  intro  M H locs ls hT h hl
  unfold T_X7_step_23 at hT
  refine lv_aload_n hx hb dX7_step_23 rfl (lv_at hl 0 rfl) ?_
  refine lv_aload_n hx hb dX7_step_24 rfl (lv_at hl 0 rfl) ?_
  refine fx_getR X h (k := 132) (j := 2) (r := 134) sh_132 rfl fl_RX7_19 dX7_step_25 ?_
  refine lv_aload_n hx hb dX7_step_28 rfl (lv_at hl 0 rfl) ?_
  refine fx_getI X h (k := 132) (j := 5) sh_132 rfl fl_RX7_28 dX7_step_29 ?_
  obtain ⟨hi1, hT⟩ := hT
  refine fx_iald X h (k := 134) sh_134 hi1 dX7_step_32 ?_
  refine fx_putI X h (k := 132) (j := 6) sh_132 rfl fl_RX7_31 dX7_step_33 (fun H locs h => ?_)
  obtain ⟨M2, eM2⟩ : ∃ z : Mm, z = m_up M 132 6 (M 134 ((M 132 5)).toNatClampNeg) := ⟨_, rfl⟩
  have hT := hT M2 eM2
  rw [← eM2] at h
  exact fx_vret X hr hk h hT dX7_step_36
def T_X7_step (M : Mm) (K : Mm → Prop) : Prop := ((((M 132 4) - (1 : Int32)) ≤ (M 132 5) → (T_X7_step_23 M K)) ∧ (¬ ((M 132 4) - (1 : Int32)) ≤ (M 132 5) → (∀ M4 : Mm, M4 = m_up M 132 5 ((M 132 5) + (1 : Int32)) → (T_X7_step_23 M4 K))))
set_option maxHeartbeats 4000000 in
set_option maxRecDepth 100000 in
theorem c_X7_step (l : Launch) (G : fx_G) {M : Mm} {K : Mm → Prop} (hT : T_X7_step M K) : Met l yX7_step (fx_ws yX7_step cX7_step 1 none) (fx_rm (0)) (va_Pc [.ref (G.2.2.2 + 132)] (fx_P G SH M)) (va_Qv K (fx_R G SH) (fx_A G)) 0 0 (fx_A G) := by
  refine fx_met (own := RX7) (by decide +kernel) rfl (Nat.le_of_ble_eq_true rfl) (fun p e s m below meth c X hr hk h ls hl => ?_)
  obtain ⟨⟨hx, hb, hml, hown, hts⟩, hK, hQ⟩ := id X
  have hl : lv_has ls 1 [(0, .ref (G.2.2.2 + 132))] := hl
  unfold T_X7_step at hT
  refine lv_aload_n hx hb dX7_step_0 rfl (lv_at hl 0 rfl) ?_
  refine fx_getI X h (k := 132) (j := 5) sh_132 rfl fl_RX7_28 dX7_step_1 ?_
  refine lv_aload_n hx hb dX7_step_4 rfl (lv_at hl 0 rfl) ?_
  refine fx_getI X h (k := 132) (j := 4) sh_132 rfl fl_RX7_25 dX7_step_5 ?_
  refine lv_iconst (v := 1) hx hb dX7_step_8 (by decide) ?_
  refine lv_isub hx hb dX7_step_9 ?_
  refine lv_icmp_ge (tgt := 23) hx hb dX7_step_10 (by decide) (fun hc3 => ?_) (fun hc3 => ?_)
  · have hT := hT.1 hc3
    exact w_X7_step_23 X hr hk M _ _ ls hT h (lv_sub hl [0] rfl)
  · have hT := hT.2 hc3
    refine lv_aload_n hx hb dX7_step_13 rfl (lv_at hl 0 rfl) ?_
    refine lv_dup hx hb dX7_step_14 rfl ?_
    refine fx_getI X h (k := 132) (j := 5) sh_132 rfl fl_RX7_28 dX7_step_15 ?_
    refine lv_iconst (v := 1) hx hb dX7_step_18 (by decide) ?_
    refine lv_iadd hx hb dX7_step_19 ?_
    refine fx_putI X h (k := 132) (j := 5) sh_132 rfl fl_RX7_28 dX7_step_20 (fun H locs h => ?_)
    obtain ⟨M4, eM4⟩ : ∃ z : Mm, z = m_up M 132 5 ((M 132 5) + (1 : Int32)) := ⟨_, rfl⟩
    have hT := hT M4 eM4
    rw [← eM4] at h
    exact w_X7_step_23 X hr hk M4 _ _ ls hT h (lv_sub hl [0] rfl)
/-! MockParcels$Reader.refuse(I)Z -/
theorem dX7_refuse_0 : decode cX7_refuse 0 = .ok (.aload_n 0, 1) := by decide +kernel
theorem dX7_refuse_1 : decode cX7_refuse 1 = .ok (.iload_n 1, 1) := by decide +kernel
theorem dX7_refuse_2 : decode cX7_refuse 2 = .ok (.putfield 34, 3) := by decide +kernel
theorem dX7_refuse_5 : decode cX7_refuse 5 = .ok (.aload_n 0, 1) := by decide +kernel
theorem dX7_refuse_6 : decode cX7_refuse 6 = .ok (.aload_n 0, 1) := by decide +kernel
theorem dX7_refuse_7 : decode cX7_refuse 7 = .ok (.getfield 22, 3) := by decide +kernel
theorem dX7_refuse_10 : decode cX7_refuse 10 = .ok (.aload_n 0, 1) := by decide +kernel
theorem dX7_refuse_11 : decode cX7_refuse 11 = .ok (.getfield 28, 3) := by decide +kernel
theorem dX7_refuse_14 : decode cX7_refuse 14 = .ok (.iaload, 1) := by decide +kernel
theorem dX7_refuse_15 : decode cX7_refuse 15 = .ok (.putfield 37, 3) := by decide +kernel
theorem dX7_refuse_18 : decode cX7_refuse 18 = .ok (.iconst 0, 1) := by decide +kernel
theorem dX7_refuse_19 : decode cX7_refuse 19 = .ok (.ireturn, 1) := by decide +kernel
def T_X7_refuse (x1 : Int32) (M : Mm) (K : Int32 → Mm → Prop) : Prop := (∀ M1 : Mm, M1 = m_up M 132 7 x1 → (vp_in (M1 132 5) 401 ∧ (∀ M3 : Mm, M3 = m_up M1 132 8 (M1 135 ((M1 132 5)).toNatClampNeg) → (K (0 : Int32) M3))))
set_option maxHeartbeats 4000000 in
set_option maxRecDepth 100000 in
theorem c_X7_refuse (l : Launch) (G : fx_G) {x1 : Int32} {M : Mm} {K : Int32 → Mm → Prop} (hT : T_X7_refuse x1 M K) : Met l yX7_refuse (fx_ws yX7_refuse cX7_refuse 2 (some .boolean)) (fx_rm (0)) (va_Pc [.ref (G.2.2.2 + 132), .int x1] (fx_P G SH M)) (va_Qi K (fx_R G SH) (fx_A G)) 0 0 (fx_A G) := by
  refine fx_met (own := RX7) (by decide +kernel) rfl (Nat.le_of_ble_eq_true rfl) (fun p e s m below meth c X hr hk h ls hl => ?_)
  obtain ⟨⟨hx, hb, hml, hown, hts⟩, hK, hQ⟩ := id X
  have hl : lv_has ls 2 [(0, .ref (G.2.2.2 + 132)), (1, .int x1)] := hl
  unfold T_X7_refuse at hT
  refine lv_aload_n hx hb dX7_refuse_0 rfl (lv_at hl 0 rfl) ?_
  refine lv_iload_n hx hb dX7_refuse_1 rfl (lv_at hl 1 rfl) ?_
  refine fx_putI X h (k := 132) (j := 7) sh_132 rfl fl_RX7_34 dX7_refuse_2 (fun H locs h => ?_)
  obtain ⟨M1, eM1⟩ : ∃ z : Mm, z = m_up M 132 7 x1 := ⟨_, rfl⟩
  have hT := hT M1 eM1
  rw [← eM1] at h
  refine lv_aload_n hx hb dX7_refuse_5 rfl (lv_at hl 0 rfl) ?_
  refine lv_aload_n hx hb dX7_refuse_6 rfl (lv_at hl 0 rfl) ?_
  refine fx_getR X h (k := 132) (j := 3) (r := 135) sh_132 rfl fl_RX7_22 dX7_refuse_7 ?_
  refine lv_aload_n hx hb dX7_refuse_10 rfl (lv_at hl 0 rfl) ?_
  refine fx_getI X h (k := 132) (j := 5) sh_132 rfl fl_RX7_28 dX7_refuse_11 ?_
  obtain ⟨hi2, hT⟩ := hT
  refine fx_iald X h (k := 135) sh_135 hi2 dX7_refuse_14 ?_
  refine fx_putI X h (k := 132) (j := 8) sh_132 rfl fl_RX7_37 dX7_refuse_15 (fun H locs h => ?_)
  obtain ⟨M3, eM3⟩ : ∃ z : Mm, z = m_up M1 132 8 (M1 135 ((M1 132 5)).toNatClampNeg) := ⟨_, rfl⟩
  have hT := hT M3 eM3
  rw [← eM3] at h
  refine lv_iconst (v := 0) hx hb dX7_refuse_18 (by decide) ?_
  exact fx_zret X hr hk h (Or.inl rfl) hT dX7_refuse_19
/-! MockParcels$Reader.take(I)Z -/
theorem dX7_take_0 : decode cX7_take 0 = .ok (.aload_n 0, 1) := by decide +kernel
theorem dX7_take_1 : decode cX7_take 1 = .ok (.getfield 31, 3) := by decide +kernel
theorem dX7_take_4 : decode cX7_take 4 = .ok (.iload_n 1, 1) := by decide +kernel
theorem dX7_take_5 : decode cX7_take 5 = .ok (.if_icmp .eq 9, 3) := by decide +kernel
theorem dX7_take_8 : decode cX7_take 8 = .ok (.aload_n 0, 1) := by decide +kernel
theorem dX7_take_9 : decode cX7_take 9 = .ok (.iconst 1, 1) := by decide +kernel
theorem dX7_take_10 : decode cX7_take 10 = .ok (.invokevirtual 56, 3) := by decide +kernel
theorem dX7_take_13 : decode cX7_take 13 = .ok (.ireturn, 1) := by decide +kernel
theorem dX7_take_14 : decode cX7_take 14 = .ok (.aload_n 0, 1) := by decide +kernel
theorem dX7_take_15 : decode cX7_take 15 = .ok (.invokevirtual 59, 3) := by decide +kernel
theorem dX7_take_18 : decode cX7_take 18 = .ok (.iconst 1, 1) := by decide +kernel
theorem dX7_take_19 : decode cX7_take 19 = .ok (.ireturn, 1) := by decide +kernel
def T_X7_take (x1 : Int32) (M : Mm) (K : Int32 → Mm → Prop) : Prop := (((M 132 6) = x1 → (T_X7_step M (fun M3 => (K (1 : Int32) M3)))) ∧ (¬ (M 132 6) = x1 → (T_X7_refuse (1 : Int32) M (fun r6 M5 => ((r6 = 0 ∨ r6 = 1) ∧ K r6 M5)))))
set_option maxHeartbeats 4000000 in
set_option maxRecDepth 100000 in
theorem c_X7_take (l : Launch) (G : fx_G) {x1 : Int32} {M : Mm} {K : Int32 → Mm → Prop} (hT : T_X7_take x1 M K) : Met l yX7_take (fx_ws yX7_take cX7_take 2 (some .boolean)) (fx_rm (1)) (va_Pc [.ref (G.2.2.2 + 132), .int x1] (fx_P G SH M)) (va_Qi K (fx_R G SH) (fx_A G)) 0 0 (fx_A G) := by
  refine fx_met (own := RX7) (by decide +kernel) rfl (Nat.le_of_ble_eq_true rfl) (fun p e s m below meth c X hr hk h ls hl => ?_)
  obtain ⟨⟨hx, hb, hml, hown, hts⟩, hK, hQ⟩ := id X
  have hl : lv_has ls 2 [(0, .ref (G.2.2.2 + 132)), (1, .int x1)] := hl
  unfold T_X7_take at hT
  refine lv_aload_n hx hb dX7_take_0 rfl (lv_at hl 0 rfl) ?_
  refine fx_getI X h (k := 132) (j := 6) sh_132 rfl fl_RX7_31 dX7_take_1 ?_
  refine lv_iload_n hx hb dX7_take_4 rfl (lv_at hl 1 rfl) ?_
  refine lv_icmp_eq (tgt := 14) hx hb dX7_take_5 (by decide) (fun hc1 => ?_) (fun hc1 => ?_)
  · have hT := hT.1 hc1
    refine lv_aload_n hx hb dX7_take_14 rfl (lv_at hl 0 rfl) ?_
    refine fx_vv X h ym_X7_step yi_X7_step ys_X7_step (fx_s4 (List.mem_of_getElem? (i := 206) rfl) rfl) sh_132 rfl (c_X7_step l G hT) (As := []) (rest := []) rfl rfl ⟨Nat.le_of_ble_eq_true rfl, Nat.le_of_ble_eq_true rfl⟩ ⟨Nat.le_refl _, Nat.le_refl _⟩ hl.1 (Nat.le_of_ble_eq_true rfl) dX7_take_15 (fun M3 H locs hT h => ?_)
    refine lv_iconst (v := 1) hx hb dX7_take_18 (by decide) ?_
    exact fx_zret X hr hk h (Or.inr rfl) hT dX7_take_19
  · have hT := hT.2 hc1
    refine lv_aload_n hx hb dX7_take_8 rfl (lv_at hl 0 rfl) ?_
    refine lv_iconst (v := 1) hx hb dX7_take_9 (by decide) ?_
    refine fx_vi X h ym_X7_refuse yi_X7_refuse ys_X7_refuse (fx_s4 (List.mem_of_getElem? (i := 205) rfl) rfl) sh_132 rfl (c_X7_refuse l G hT) (As := [.int (1 : Int32)]) (rest := []) rfl rfl ⟨Nat.le_of_ble_eq_true rfl, Nat.le_of_ble_eq_true rfl⟩ ⟨Nat.le_refl _, Nat.le_refl _⟩ hl.1 (Nat.le_of_ble_eq_true rfl) dX7_take_10 (fun r6 M5 H locs hT h => ?_)
    exact fx_zret X hr hk h hT.1 hT.2 dX7_take_13
/-! MockParcels$Reader.isNumber(II)Z -/
theorem dX7_isNumber_0 : decode cX7_isNumber 0 = .ok (.aload_n 0, 1) := by decide +kernel
theorem dX7_isNumber_1 : decode cX7_isNumber 1 = .ok (.getfield 31, 3) := by decide +kernel
theorem dX7_isNumber_4 : decode cX7_isNumber 4 = .ok (.sipush 1000, 3) := by decide +kernel
theorem dX7_isNumber_7 : decode cX7_isNumber 7 = .ok (.if_icmp .ge 9, 3) := by decide +kernel
theorem dX7_isNumber_10 : decode cX7_isNumber 10 = .ok (.aload_n 0, 1) := by decide +kernel
theorem dX7_isNumber_11 : decode cX7_isNumber 11 = .ok (.iconst 1, 1) := by decide +kernel
theorem dX7_isNumber_12 : decode cX7_isNumber 12 = .ok (.invokevirtual 56, 3) := by decide +kernel
theorem dX7_isNumber_15 : decode cX7_isNumber 15 = .ok (.ireturn, 1) := by decide +kernel
theorem dX7_isNumber_16 : decode cX7_isNumber 16 = .ok (.aload_n 0, 1) := by decide +kernel
theorem dX7_isNumber_17 : decode cX7_isNumber 17 = .ok (.getfield 31, 3) := by decide +kernel
theorem dX7_isNumber_20 : decode cX7_isNumber 20 = .ok (.sipush 1000, 3) := by decide +kernel
theorem dX7_isNumber_23 : decode cX7_isNumber 23 = .ok (.isub, 1) := by decide +kernel
theorem dX7_isNumber_24 : decode cX7_isNumber 24 = .ok (.iload_n 1, 1) := by decide +kernel
theorem dX7_isNumber_25 : decode cX7_isNumber 25 = .ok (.iload_n 2, 1) := by decide +kernel
theorem dX7_isNumber_26 : decode cX7_isNumber 26 = .ok (.invokestatic 62, 3) := by decide +kernel
theorem dX7_isNumber_29 : decode cX7_isNumber 29 = .ok (.ifCond .ne 11, 3) := by decide +kernel
theorem dX7_isNumber_32 : decode cX7_isNumber 32 = .ok (.aload_n 0, 1) := by decide +kernel
theorem dX7_isNumber_33 : decode cX7_isNumber 33 = .ok (.iconst 2, 1) := by decide +kernel
theorem dX7_isNumber_34 : decode cX7_isNumber 34 = .ok (.invokevirtual 56, 3) := by decide +kernel
theorem dX7_isNumber_37 : decode cX7_isNumber 37 = .ok (.ifCond .eq 7, 3) := by decide +kernel
theorem dX7_isNumber_40 : decode cX7_isNumber 40 = .ok (.iconst 1, 1) := by decide +kernel
theorem dX7_isNumber_41 : decode cX7_isNumber 41 = .ok (.goto 4, 3) := by decide +kernel
theorem dX7_isNumber_44 : decode cX7_isNumber 44 = .ok (.iconst 0, 1) := by decide +kernel
theorem dX7_isNumber_45 : decode cX7_isNumber 45 = .ok (.ireturn, 1) := by decide +kernel
def T_X7_isNumber_40 (M : Mm) (K : Int32 → Mm → Prop) : Prop := (K (1 : Int32) M)
set_option maxHeartbeats 4000000 in
set_option maxRecDepth 100000 in
theorem w_X7_isNumber_40 {p : Program} {l : Launch} {e : Env} {s : State} {m : MethodId} {args : Array Value} {below : List Frame} {meth : Method} {c : Code} {G : fx_G} {K : Int32 → Mm → Prop} (X : fx_C G p s m c args cX7_isNumber 3 RX7) (hr : meth.sig.returnType = (some .boolean)) (hk : meth.locks = false) : ∀ (M : Mm) (H : Heap) (locs : List Loc) (ls : Array Slot), T_X7_isNumber_40  M K → fx_H G SH M s H locs → lv_has ls 3 [] → W p l e (fx_rm (1)) s m args below meth c H locs 0 0 (MQ below (va_Qi K (fx_R G SH) (fx_A G)) args s 0 0 (fx_A G)) (F0 m 40 ls []) := by
  obtain ⟨⟨hx, hb, hml, hown, hts⟩, hK, hQ⟩ := id X
  intro  M H locs ls hT h hl
  unfold T_X7_isNumber_40 at hT
  refine lv_iconst (v := 1) hx hb dX7_isNumber_40 (by decide) ?_
  refine lv_goto (tgt := 45) hx hb dX7_isNumber_41 (by decide) ?_
  exact fx_zret X hr hk h (Or.inr rfl) hT dX7_isNumber_45
def T_X7_isNumber (x1 : Int32) (x2 : Int32) (M : Mm) (K : Int32 → Mm → Prop) : Prop := (((1000 : Int32) ≤ (M 132 6) → (T_X11_isWithin ((M 132 6) - (1000 : Int32)) x1 x2 M (fun r4 M3 => ((r4 = 0 → (T_X7_refuse (2 : Int32) M3 (fun r8 M7 => ((r8 = 0 → (K (0 : Int32) M7)) ∧ (¬ r8 = 0 → (T_X7_isNumber_40 M7 K)))))) ∧ (¬ r4 = 0 → (T_X7_isNumber_40 M3 K)))))) ∧ (¬ (1000 : Int32) ≤ (M 132 6) → (T_X7_refuse (1 : Int32) M (fun r12 M11 => ((r12 = 0 ∨ r12 = 1) ∧ K r12 M11)))))
set_option maxHeartbeats 4000000 in
set_option maxRecDepth 100000 in
theorem c_X7_isNumber (l : Launch) (G : fx_G) {x1 : Int32} {x2 : Int32} {M : Mm} {K : Int32 → Mm → Prop} (hT : T_X7_isNumber x1 x2 M K) : Met l yX7_isNumber (fx_ws yX7_isNumber cX7_isNumber 3 (some .boolean)) (fx_rm (1)) (va_Pc [.ref (G.2.2.2 + 132), .int x1, .int x2] (fx_P G SH M)) (va_Qi K (fx_R G SH) (fx_A G)) 0 0 (fx_A G) := by
  refine fx_met (own := RX7) (by decide +kernel) rfl (Nat.le_of_ble_eq_true rfl) (fun p e s m below meth c X hr hk h ls hl => ?_)
  obtain ⟨⟨hx, hb, hml, hown, hts⟩, hK, hQ⟩ := id X
  have hl : lv_has ls 3 [(0, .ref (G.2.2.2 + 132)), (1, .int x1), (2, .int x2)] := hl
  unfold T_X7_isNumber at hT
  refine lv_aload_n hx hb dX7_isNumber_0 rfl (lv_at hl 0 rfl) ?_
  refine fx_getI X h (k := 132) (j := 6) sh_132 rfl fl_RX7_31 dX7_isNumber_1 ?_
  refine lv_sipush (v := 1000) hx hb dX7_isNumber_4 (by decide) ?_
  refine lv_icmp_ge (tgt := 16) hx hb dX7_isNumber_7 (by decide) (fun hc1 => ?_) (fun hc1 => ?_)
  · have hT := hT.1 hc1
    refine lv_aload_n hx hb dX7_isNumber_16 rfl (lv_at hl 0 rfl) ?_
    refine fx_getI X h (k := 132) (j := 6) sh_132 rfl fl_RX7_31 dX7_isNumber_17 ?_
    refine lv_sipush (v := 1000) hx hb dX7_isNumber_20 (by decide) ?_
    refine lv_isub hx hb dX7_isNumber_23 ?_
    refine lv_iload_n hx hb dX7_isNumber_24 rfl (lv_at hl 1 rfl) ?_
    refine lv_iload_n hx hb dX7_isNumber_25 rfl (lv_at hl 2 rfl) ?_
    refine fx_ni X h ym_X11_isWithin yt_X11_isWithin (nq_RX7_62) (c_X11_isWithin l G hT) (As := [.int ((M 132 6) - (1000 : Int32)), .int x1, .int x2]) (rest := []) rfl rfl ⟨Nat.le_of_ble_eq_true rfl, Nat.le_of_ble_eq_true rfl⟩ ⟨Nat.le_refl _, Nat.le_refl _⟩ hl.1 (Nat.le_of_ble_eq_true rfl) dX7_isNumber_26 (fun r4 M3 H locs hT h => ?_)
    refine lv_if_ne (tgt := 40) hx hb dX7_isNumber_29 (by decide) (fun hc5 => ?_) (fun hc5 => ?_)
    · have hT := hT.2 hc5
      exact w_X7_isNumber_40 X hr hk M3 _ _ ls hT h (lv_sub hl [] rfl)
    · have hT := hT.1 hc5
      refine lv_aload_n hx hb dX7_isNumber_32 rfl (lv_at hl 0 rfl) ?_
      refine lv_iconst (v := 2) hx hb dX7_isNumber_33 (by decide) ?_
      refine fx_vi X h ym_X7_refuse yi_X7_refuse ys_X7_refuse (fx_s4 (List.mem_of_getElem? (i := 205) rfl) rfl) sh_132 rfl (c_X7_refuse l G hT) (As := [.int (2 : Int32)]) (rest := []) rfl rfl ⟨Nat.le_of_ble_eq_true rfl, Nat.le_of_ble_eq_true rfl⟩ ⟨Nat.le_refl _, Nat.le_refl _⟩ hl.1 (Nat.le_of_ble_eq_true rfl) dX7_isNumber_34 (fun r8 M7 H locs hT h => ?_)
      refine lv_if_eq (tgt := 44) hx hb dX7_isNumber_37 (by decide) (fun hc9 => ?_) (fun hc9 => ?_)
      · have hT := hT.1 hc9
        refine lv_iconst (v := 0) hx hb dX7_isNumber_44 (by decide) ?_
        exact fx_zret X hr hk h (Or.inl rfl) hT dX7_isNumber_45
      · have hT := hT.2 hc9
        exact w_X7_isNumber_40 X hr hk M7 _ _ ls hT h (lv_sub hl [] rfl)
  · have hT := hT.2 hc1
    refine lv_aload_n hx hb dX7_isNumber_10 rfl (lv_at hl 0 rfl) ?_
    refine lv_iconst (v := 1) hx hb dX7_isNumber_11 (by decide) ?_
    refine fx_vi X h ym_X7_refuse yi_X7_refuse ys_X7_refuse (fx_s4 (List.mem_of_getElem? (i := 205) rfl) rfl) sh_132 rfl (c_X7_refuse l G hT) (As := [.int (1 : Int32)]) (rest := []) rfl rfl ⟨Nat.le_of_ble_eq_true rfl, Nat.le_of_ble_eq_true rfl⟩ ⟨Nat.le_refl _, Nat.le_refl _⟩ hl.1 (Nat.le_of_ble_eq_true rfl) dX7_isNumber_12 (fun r12 M11 H locs hT h => ?_)
    exact fx_zret X hr hk h hT.1 hT.2 dX7_isNumber_15
