/-! MockParcels$Reader.append(I)V -/
theorem dX7_append_0 : decode cX7_append 0 = .ok (.bipush 24, 2) := by decide +kernel
theorem dX7_append_2 : decode cX7_append 2 = .ok (.istore_n 2, 1) := by decide +kernel
theorem dX7_append_3 : decode cX7_append 3 = .ok (.iload_n 2, 1) := by decide +kernel
theorem dX7_append_4 : decode cX7_append 4 = .ok (.ifCond .lt 45, 3) := by decide +kernel
theorem dX7_append_7 : decode cX7_append 7 = .ok (.aload_n 0, 1) := by decide +kernel
theorem dX7_append_8 : decode cX7_append 8 = .ok (.getfield 15, 3) := by decide +kernel
theorem dX7_append_11 : decode cX7_append 11 = .ok (.sipush 400, 3) := by decide +kernel
theorem dX7_append_14 : decode cX7_append 14 = .ok (.if_icmp .ge 35, 3) := by decide +kernel
theorem dX7_append_17 : decode cX7_append 17 = .ok (.aload_n 0, 1) := by decide +kernel
theorem dX7_append_18 : decode cX7_append 18 = .ok (.getfield 9, 3) := by decide +kernel
theorem dX7_append_21 : decode cX7_append 21 = .ok (.aload_n 0, 1) := by decide +kernel
theorem dX7_append_22 : decode cX7_append 22 = .ok (.getfield 15, 3) := by decide +kernel
theorem dX7_append_25 : decode cX7_append 25 = .ok (.iload_n 1, 1) := by decide +kernel
theorem dX7_append_26 : decode cX7_append 26 = .ok (.iload_n 2, 1) := by decide +kernel
theorem dX7_append_27 : decode cX7_append 27 = .ok (.iushr, 1) := by decide +kernel
theorem dX7_append_28 : decode cX7_append 28 = .ok (.sipush 255, 3) := by decide +kernel
theorem dX7_append_31 : decode cX7_append 31 = .ok (.iand, 1) := by decide +kernel
theorem dX7_append_32 : decode cX7_append 32 = .ok (.iastore, 1) := by decide +kernel
theorem dX7_append_33 : decode cX7_append 33 = .ok (.aload_n 0, 1) := by decide +kernel
theorem dX7_append_34 : decode cX7_append 34 = .ok (.dup, 1) := by decide +kernel
theorem dX7_append_35 : decode cX7_append 35 = .ok (.getfield 15, 3) := by decide +kernel
theorem dX7_append_38 : decode cX7_append 38 = .ok (.iconst 1, 1) := by decide +kernel
theorem dX7_append_39 : decode cX7_append 39 = .ok (.iadd, 1) := by decide +kernel
theorem dX7_append_40 : decode cX7_append 40 = .ok (.putfield 15, 3) := by decide +kernel
theorem dX7_append_43 : decode cX7_append 43 = .ok (.iinc 2 (-8), 3) := by decide +kernel
theorem dX7_append_46 : decode cX7_append 46 = .ok (.goto (-43), 3) := by decide +kernel
theorem dX7_append_49 : decode cX7_append 49 = .ok (.return_, 1) := by decide +kernel
def T_X7_append_3 : Nat → Int32 → Int32 → Mm → (Mm → Prop) → Prop
  | 0, _, _, _, _ => False
  | n + 1, x1, x2, M, K => ((x2 < 0 → (K M)) ∧ (¬ x2 < 0 → (((400 : Int32) ≤ (M 132 1) → (K M)) ∧ (¬ (400 : Int32) ≤ (M 132 1) → (vp_in (M 132 1) 400 ∧ (∀ M4 : Mm, M4 = m_up M 133 ((M 132 1)).toNatClampNeg ((((x1).toUInt32 >>> ((x2).toUInt32 &&& Int32.toUInt32 31)).toInt32) &&& (255 : Int32)) → (∀ M5 : Mm, M5 = m_up M4 132 1 ((M4 132 1) + (1 : Int32)) → (∀ y6 : Int32, y6 = x2 + (-8 : Int32) → (T_X7_append_3 n x1 y6 M5 K)))))))))
set_option maxHeartbeats 4000000 in
set_option maxRecDepth 100000 in
theorem w_X7_append_3 {p : Program} {l : Launch} {e : Env} {s : State} {m : MethodId} {args : Array Value} {below : List Frame} {meth : Method} {c : Code} {G : fx_G} {K : Mm → Prop} (X : fx_C G p s m c args cX7_append 3 RX7) (hr : meth.sig.returnType = none) (hk : meth.locks = false) : ∀ (n : Nat) (x1 : Int32) (x2 : Int32) (M : Mm) (H : Heap) (locs : List Loc) (ls : Array Slot), T_X7_append_3 n x1 x2 M K → fx_H G SH M s H locs → lv_has ls 3 [(0, .ref (G.2.2.2 + 132)), (1, .int x1), (2, .int x2)] → W p l e (fx_rm 0) s m args below meth c H locs 0 0 (MQ below (va_Qv K (fx_R G SH) (fx_A G)) args s 0 0 (fx_A G)) (F0 m 3 ls []) := by
  obtain ⟨⟨hx, hb, hml, hown, hts⟩, hK⟩ := id X
  intro n
  induction n with
  | zero =>
    intro x1 x2 M H locs ls hT
    exact hT.elim
  | succ n ih =>
    intro x1 x2 M H locs ls hT h hl
    rw [T_X7_append_3] at hT
    refine lv_iload_n hx hb dX7_append_3 rfl (lv_at hl 2 rfl) ?_
    refine lv_if_lt (tgt := 49) hx hb dX7_append_4 (by decide) (fun hc1 => ?_) (fun hc1 => ?_)
    · have hT := hT.1 hc1
      exact fx_vret X hr hk h hT dX7_append_49
    · have hT := hT.2 hc1
      refine lv_aload_n hx hb dX7_append_7 rfl (lv_at hl 0 rfl) ?_
      refine fx_getI X h (k := 132) (j := 1) sh_132 rfl fl_RX7_15 dX7_append_8 ?_
      refine lv_sipush (v := 400) hx hb dX7_append_11 (by decide) ?_
      refine lv_icmp_ge (tgt := 49) hx hb dX7_append_14 (by decide) (fun hc2 => ?_) (fun hc2 => ?_)
      · have hT := hT.1 hc2
        exact fx_vret X hr hk h hT dX7_append_49
      · have hT := hT.2 hc2
        refine lv_aload_n hx hb dX7_append_17 rfl (lv_at hl 0 rfl) ?_
        refine fx_getR X h (k := 132) (j := 0) (r := 133) sh_132 rfl fl_RX7_9 dX7_append_18 ?_
        refine lv_aload_n hx hb dX7_append_21 rfl (lv_at hl 0 rfl) ?_
        refine fx_getI X h (k := 132) (j := 1) sh_132 rfl fl_RX7_15 dX7_append_22 ?_
        refine lv_iload_n hx hb dX7_append_25 rfl (lv_at hl 1 rfl) ?_
        refine lv_iload_n hx hb dX7_append_26 rfl (lv_at hl 2 rfl) ?_
        refine lv_iushr hx hb dX7_append_27 rfl ?_
        refine lv_sipush (v := 255) hx hb dX7_append_28 (by decide) ?_
        refine lv_iand hx hb dX7_append_31 ?_
        obtain ⟨hi3, hT⟩ := hT
        refine fx_iast X h (k := 133) sh_133 hi3 dX7_append_32 (fun H locs h => ?_)
        obtain ⟨M4, eM4⟩ : ∃ z : Mm, z = m_up M 133 ((M 132 1)).toNatClampNeg ((((x1).toUInt32 >>> ((x2).toUInt32 &&& Int32.toUInt32 31)).toInt32) &&& (255 : Int32)) := ⟨_, rfl⟩
        have hT := hT M4 eM4
        rw [← eM4] at h
        refine lv_aload_n hx hb dX7_append_33 rfl (lv_at hl 0 rfl) ?_
        refine lv_dup hx hb dX7_append_34 rfl ?_
        refine fx_getI X h (k := 132) (j := 1) sh_132 rfl fl_RX7_15 dX7_append_35 ?_
        refine lv_iconst (v := 1) hx hb dX7_append_38 (by decide) ?_
        refine lv_iadd hx hb dX7_append_39 ?_
        refine fx_putI X h (k := 132) (j := 1) sh_132 rfl fl_RX7_15 dX7_append_40 (fun H locs h => ?_)
        obtain ⟨M5, eM5⟩ : ∃ z : Mm, z = m_up M4 132 1 ((M4 132 1) + (1 : Int32)) := ⟨_, rfl⟩
        have hT := hT M5 eM5
        rw [← eM5] at h
        obtain ⟨y6, ey6⟩ : ∃ z : Int32, z = x2 + (-8 : Int32) := ⟨_, rfl⟩
        have hT := hT y6 ey6
        refine lv_iinc (v := y6) (lv' := [(2, .int y6), (0, .ref (G.2.2.2 + 132)), (1, .int x1)]) hx hb dX7_append_43 hl (k := 2) rfl (by rw [ey6]; rfl) (by decide) rfl (fun ls hl => ?_)
        refine lv_goto (tgt := 3) hx hb dX7_append_46 (by decide) ?_
        exact ih x1 y6 M5 _ _ ls hT h (lv_sub hl [1, 2, 0] rfl)
def T_X7_append (x1 : Int32) (M : Mm) (K : Mm → Prop) : Prop := (T_X7_append_3 5000 x1 (24 : Int32) M K)
set_option maxHeartbeats 4000000 in
set_option maxRecDepth 100000 in
theorem c_X7_append (l : Launch) (G : fx_G) {x1 : Int32} {M : Mm} {K : Mm → Prop} (hT : T_X7_append x1 M K) : Met l yX7_append (fx_ws yX7_append cX7_append 3 none) (fx_rm 0) (va_Pc [.ref (G.2.2.2 + 132), .int x1] (fx_P G SH M)) (va_Qv K (fx_R G SH) (fx_A G)) 0 0 (fx_A G) := by
  refine fx_met (own := RX7) (by decide +kernel) rfl (Nat.le_of_ble_eq_true rfl) (fun p e s m below meth c X hr hk h ls hl => ?_)
  obtain ⟨⟨hx, hb, hml, hown, hts⟩, hK⟩ := id X
  have hl : lv_has ls 3 [(0, .ref (G.2.2.2 + 132)), (1, .int x1)] := hl
  unfold T_X7_append at hT
  refine lv_bipush (v := 24) hx hb dX7_append_0 (by decide) ?_
  refine lv_istore_n (lv' := [(2, .int (24 : Int32)), (0, .ref (G.2.2.2 + 132)), (1, .int x1)]) hx hb dX7_append_2 rfl hl (by decide) rfl (fun ls hl => ?_)
  exact w_X7_append_3 X hr hk 5000 x1 (24 : Int32) M _ _ ls hT h (lv_sub hl [1, 2, 0] rfl)
/-! MockParcels$Reader.step()V -/
theorem dX7_step_0 : decode cX7_step 0 = .ok (.aload_n 0, 1) := by decide +kernel
theorem dX7_step_1 : decode cX7_step 1 = .ok (.getfield 28, 3) := by decide +kernel
theorem dX7_step_4 : decode cX7_step 4 = .ok (.aload_n 0, 1) := by decide +kernel
theorem dX7_step_5 : decode cX7_step 5 = .ok (.getfield 25, 3) := by decide +kernel
theorem dX7_step_8 : decode cX7_step 8 = .ok (.iconst 1, 1) := by decide +kernel
theorem dX7_step_9 : decode cX7_step 9 = .ok (.isub, 1) := by decide +kernel
theorem dX7_step_10 : decode cX7_step 10 = .ok (.if_icmp .ge 13, 3) := by decide +kernel
theorem dX7_step_13 : decode cX7_step 13 = .ok (.aload_n 0, 1) := by decide +kernel
theorem dX7_step_14 : decode cX7_step 14 = .ok (.dup, 1) := by decide +kernel
theorem dX7_step_15 : decode cX7_step 15 = .ok (.getfield 28, 3) := by decide +kernel
theorem dX7_step_18 : decode cX7_step 18 = .ok (.iconst 1, 1) := by decide +kernel
theorem dX7_step_19 : decode cX7_step 19 = .ok (.iadd, 1) := by decide +kernel
theorem dX7_step_20 : decode cX7_step 20 = .ok (.putfield 28, 3) := by decide +kernel
theorem dX7_step_23 : decode cX7_step 23 = .ok (.aload_n 0, 1) := by decide +kernel
theorem dX7_step_24 : decode cX7_step 24 = .ok (.aload_n 0, 1) := by decide +kernel
theorem dX7_step_25 : decode cX7_step 25 = .ok (.getfield 19, 3) := by decide +kernel
theorem dX7_step_28 : decode cX7_step 28 = .ok (.aload_n 0, 1) := by decide +kernel
theorem dX7_step_29 : decode cX7_step 29 = .ok (.getfield 28, 3) := by decide +kernel
theorem dX7_step_32 : decode cX7_step 32 = .ok (.iaload, 1) := by decide +kernel
theorem dX7_step_33 : decode cX7_step 33 = .ok (.putfield 31, 3) := by decide +kernel
theorem dX7_step_36 : decode cX7_step 36 = .ok (.return_, 1) := by decide +kernel
def T_X7_step_23 (M : Mm) (K : Mm → Prop) : Prop := (vp_in (M 132 5) 401 ∧ (∀ M2 : Mm, M2 = m_up M 132 6 (M 134 ((M 132 5)).toNatClampNeg) → (K M2)))
set_option maxHeartbeats 4000000 in
set_option maxRecDepth 100000 in
theorem w_X7_step_23 {p : Program} {l : Launch} {e : Env} {s : State} {m : MethodId} {args : Array Value} {below : List Frame} {meth : Method} {c : Code} {G : fx_G} {K : Mm → Prop} (X : fx_C G p s m c args cX7_step 1 RX7) (hr : meth.sig.returnType = none) (hk : meth.locks = false) : ∀ (M : Mm) (H : Heap) (locs : List Loc) (ls : Array Slot), T_X7_step_23  M K → fx_H G SH M s H locs → lv_has ls 1 [(0, .ref (G.2.2.2 + 132))] → W p l e (fx_rm 0) s m args below meth c H locs 0 0 (MQ below (va_Qv K (fx_R G SH) (fx_A G)) args s 0 0 (fx_A G)) (F0 m 23 ls []) := by
  obtain ⟨⟨hx, hb, hml, hown, hts⟩, hK⟩ := id X
  intro  M H locs ls hT h hl
  unfold T_X7_step_23 at hT
  refine lv_aload_n hx hb dX7_step_23 rfl (lv_at hl 0 rfl) ?_
  refine lv_aload_n hx hb dX7_step_24 rfl (lv_at hl 0 rfl) ?_
  refine fx_getR X h (k := 132) (j := 2) (r := 134) sh_132 rfl fl_RX7_19 dX7_step_25 ?_
  refine lv_aload_n hx hb dX7_step_28 rfl (lv_at hl 0 rfl) ?_
  refine fx_getI X h (k := 132) (j := 5) sh_132 rfl fl_RX7_28 dX7_step_29 ?_
  obtain ⟨hi1, hT⟩ := hT
  refine fx_iald X h (k := 134) sh_134 hi1 dX7_step_32 ?_
  refine fx_putI X h (k := 132) (j := 6) sh_132 rfl fl_RX7_31 dX7_step_33 (fun H locs h => ?_)
  obtain ⟨M2, eM2⟩ : ∃ z : Mm, z = m_up M 132 6 (M 134 ((M 132 5)).toNatClampNeg) := ⟨_, rfl⟩
  have hT := hT M2 eM2
  rw [← eM2] at h
  exact fx_vret X hr hk h hT dX7_step_36
def T_X7_step (M : Mm) (K : Mm → Prop) : Prop := ((((M 132 4) - (1 : Int32)) ≤ (M 132 5) → (T_X7_step_23 M K)) ∧ (¬ ((M 132 4) - (1 : Int32)) ≤ (M 132 5) → (∀ M4 : Mm, M4 = m_up M 132 5 ((M 132 5) + (1 : Int32)) → (T_X7_step_23 M4 K))))
set_option maxHeartbeats 4000000 in
set_option maxRecDepth 100000 in
theorem c_X7_step (l : Launch) (G : fx_G) {M : Mm} {K : Mm → Prop} (hT : T_X7_step M K) : Met l yX7_step (fx_ws yX7_step cX7_step 1 none) (fx_rm 0) (va_Pc [.ref (G.2.2.2 + 132)] (fx_P G SH M)) (va_Qv K (fx_R G SH) (fx_A G)) 0 0 (fx_A G) := by
  refine fx_met (own := RX7) (by decide +kernel) rfl (Nat.le_of_ble_eq_true rfl) (fun p e s m below meth c X hr hk h ls hl => ?_)
  obtain ⟨⟨hx, hb, hml, hown, hts⟩, hK⟩ := id X
  have hl : lv_has ls 1 [(0, .ref (G.2.2.2 + 132))] := hl
  unfold T_X7_step at hT
  refine lv_aload_n hx hb dX7_step_0 rfl (lv_at hl 0 rfl) ?_
  refine fx_getI X h (k := 132) (j := 5) sh_132 rfl fl_RX7_28 dX7_step_1 ?_
  refine lv_aload_n hx hb dX7_step_4 rfl (lv_at hl 0 rfl) ?_
  refine fx_getI X h (k := 132) (j := 4) sh_132 rfl fl_RX7_25 dX7_step_5 ?_
  refine lv_iconst (v := 1) hx hb dX7_step_8 (by decide) ?_
  refine lv_isub hx hb dX7_step_9 ?_
  refine lv_icmp_ge (tgt := 23) hx hb dX7_step_10 (by decide) (fun hc3 => ?_) (fun hc3 => ?_)
  · have hT := hT.1 hc3
    exact w_X7_step_23 X hr hk M _ _ ls hT h (lv_sub hl [0] rfl)
  · have hT := hT.2 hc3
    refine lv_aload_n hx hb dX7_step_13 rfl (lv_at hl 0 rfl) ?_
    refine lv_dup hx hb dX7_step_14 rfl ?_
    refine fx_getI X h (k := 132) (j := 5) sh_132 rfl fl_RX7_28 dX7_step_15 ?_
    refine lv_iconst (v := 1) hx hb dX7_step_18 (by decide) ?_
    refine lv_iadd hx hb dX7_step_19 ?_
    refine fx_putI X h (k := 132) (j := 5) sh_132 rfl fl_RX7_28 dX7_step_20 (fun H locs h => ?_)
    obtain ⟨M4, eM4⟩ : ∃ z : Mm, z = m_up M 132 5 ((M 132 5) + (1 : Int32)) := ⟨_, rfl⟩
    have hT := hT M4 eM4
    rw [← eM4] at h
    exact w_X7_step_23 X hr hk M4 _ _ ls hT h (lv_sub hl [0] rfl)
/-! MockParcels$Reader.refuse(I)Z -/
theorem dX7_refuse_0 : decode cX7_refuse 0 = .ok (.aload_n 0, 1) := by decide +kernel
theorem dX7_refuse_1 : decode cX7_refuse 1 = .ok (.iload_n 1, 1) := by decide +kernel
theorem dX7_refuse_2 : decode cX7_refuse 2 = .ok (.putfield 34, 3) := by decide +kernel
theorem dX7_refuse_5 : decode cX7_refuse 5 = .ok (.aload_n 0, 1) := by decide +kernel
theorem dX7_refuse_6 : decode cX7_refuse 6 = .ok (.aload_n 0, 1) := by decide +kernel
theorem dX7_refuse_7 : decode cX7_refuse 7 = .ok (.getfield 22, 3) := by decide +kernel
theorem dX7_refuse_10 : decode cX7_refuse 10 = .ok (.aload_n 0, 1) := by decide +kernel
theorem dX7_refuse_11 : decode cX7_refuse 11 = .ok (.getfield 28, 3) := by decide +kernel
theorem dX7_refuse_14 : decode cX7_refuse 14 = .ok (.iaload, 1) := by decide +kernel
theorem dX7_refuse_15 : decode cX7_refuse 15 = .ok (.putfield 37, 3) := by decide +kernel
theorem dX7_refuse_18 : decode cX7_refuse 18 = .ok (.iconst 0, 1) := by decide +kernel
theorem dX7_refuse_19 : decode cX7_refuse 19 = .ok (.ireturn, 1) := by decide +kernel
def T_X7_refuse (x1 : Int32) (M : Mm) (K : Int32 → Mm → Prop) : Prop := (∀ M1 : Mm, M1 = m_up M 132 7 x1 → (vp_in (M1 132 5) 401 ∧ (∀ M3 : Mm, M3 = m_up M1 132 8 (M1 135 ((M1 132 5)).toNatClampNeg) → (K (0 : Int32) M3))))
set_option maxHeartbeats 4000000 in
set_option maxRecDepth 100000 in
theorem c_X7_refuse (l : Launch) (G : fx_G) {x1 : Int32} {M : Mm} {K : Int32 → Mm → Prop} (hT : T_X7_refuse x1 M K) : Met l yX7_refuse (fx_ws yX7_refuse cX7_refuse 2 (some .boolean)) (fx_rm 0) (va_Pc [.ref (G.2.2.2 + 132), .int x1] (fx_P G SH M)) (va_Qi K (fx_R G SH) (fx_A G)) 0 0 (fx_A G) := by
  refine fx_met (own := RX7) (by decide +kernel) rfl (Nat.le_of_ble_eq_true rfl) (fun p e s m below meth c X hr hk h ls hl => ?_)
  obtain ⟨⟨hx, hb, hml, hown, hts⟩, hK⟩ := id X
  have hl : lv_has ls 2 [(0, .ref (G.2.2.2 + 132)), (1, .int x1)] := hl
  unfold T_X7_refuse at hT
  refine lv_aload_n hx hb dX7_refuse_0 rfl (lv_at hl 0 rfl) ?_
  refine lv_iload_n hx hb dX7_refuse_1 rfl (lv_at hl 1 rfl) ?_
  refine fx_putI X h (k := 132) (j := 7) sh_132 rfl fl_RX7_34 dX7_refuse_2 (fun H locs h => ?_)
  obtain ⟨M1, eM1⟩ : ∃ z : Mm, z = m_up M 132 7 x1 := ⟨_, rfl⟩
  have hT := hT M1 eM1
  rw [← eM1] at h
  refine lv_aload_n hx hb dX7_refuse_5 rfl (lv_at hl 0 rfl) ?_
  refine lv_aload_n hx hb dX7_refuse_6 rfl (lv_at hl 0 rfl) ?_
  refine fx_getR X h (k := 132) (j := 3) (r := 135) sh_132 rfl fl_RX7_22 dX7_refuse_7 ?_
  refine lv_aload_n hx hb dX7_refuse_10 rfl (lv_at hl 0 rfl) ?_
  refine fx_getI X h (k := 132) (j := 5) sh_132 rfl fl_RX7_28 dX7_refuse_11 ?_
  obtain ⟨hi2, hT⟩ := hT
  refine fx_iald X h (k := 135) sh_135 hi2 dX7_refuse_14 ?_
  refine fx_putI X h (k := 132) (j := 8) sh_132 rfl fl_RX7_37 dX7_refuse_15 (fun H locs h => ?_)
  obtain ⟨M3, eM3⟩ : ∃ z : Mm, z = m_up M1 132 8 (M1 135 ((M1 132 5)).toNatClampNeg) := ⟨_, rfl⟩
  have hT := hT M3 eM3
  rw [← eM3] at h
  refine lv_iconst (v := 0) hx hb dX7_refuse_18 (by decide) ?_
  exact fx_zret X hr hk h (Or.inl rfl) hT dX7_refuse_19
/-! MockParcels$Reader.take(I)Z -/
theorem dX7_take_0 : decode cX7_take 0 = .ok (.aload_n 0, 1) := by decide +kernel
theorem dX7_take_1 : decode cX7_take 1 = .ok (.getfield 31, 3) := by decide +kernel
theorem dX7_take_4 : decode cX7_take 4 = .ok (.iload_n 1, 1) := by decide +kernel
theorem dX7_take_5 : decode cX7_take 5 = .ok (.if_icmp .eq 9, 3) := by decide +kernel
theorem dX7_take_8 : decode cX7_take 8 = .ok (.aload_n 0, 1) := by decide +kernel
theorem dX7_take_9 : decode cX7_take 9 = .ok (.iconst 1, 1) := by decide +kernel
theorem dX7_take_10 : decode cX7_take 10 = .ok (.invokevirtual 56, 3) := by decide +kernel
theorem dX7_take_13 : decode cX7_take 13 = .ok (.ireturn, 1) := by decide +kernel
theorem dX7_take_14 : decode cX7_take 14 = .ok (.aload_n 0, 1) := by decide +kernel
theorem dX7_take_15 : decode cX7_take 15 = .ok (.invokevirtual 59, 3) := by decide +kernel
theorem dX7_take_18 : decode cX7_take 18 = .ok (.iconst 1, 1) := by decide +kernel
theorem dX7_take_19 : decode cX7_take 19 = .ok (.ireturn, 1) := by decide +kernel
def T_X7_take (x1 : Int32) (M : Mm) (K : Int32 → Mm → Prop) : Prop := (((M 132 6) = x1 → (T_X7_step M (fun M3 => (K (1 : Int32) M3)))) ∧ (¬ (M 132 6) = x1 → (T_X7_refuse (1 : Int32) M (fun r6 M5 => ((r6 = 0 ∨ r6 = 1) ∧ K r6 M5)))))
set_option maxHeartbeats 4000000 in
set_option maxRecDepth 100000 in
theorem c_X7_take (l : Launch) (G : fx_G) {x1 : Int32} {M : Mm} {K : Int32 → Mm → Prop} (hT : T_X7_take x1 M K) : Met l yX7_take (fx_ws yX7_take cX7_take 2 (some .boolean)) (fx_rm 1) (va_Pc [.ref (G.2.2.2 + 132), .int x1] (fx_P G SH M)) (va_Qi K (fx_R G SH) (fx_A G)) 0 0 (fx_A G) := by
  refine fx_met (own := RX7) (by decide +kernel) rfl (Nat.le_of_ble_eq_true rfl) (fun p e s m below meth c X hr hk h ls hl => ?_)
  obtain ⟨⟨hx, hb, hml, hown, hts⟩, hK⟩ := id X
  have hl : lv_has ls 2 [(0, .ref (G.2.2.2 + 132)), (1, .int x1)] := hl
  unfold T_X7_take at hT
  refine lv_aload_n hx hb dX7_take_0 rfl (lv_at hl 0 rfl) ?_
  refine fx_getI X h (k := 132) (j := 6) sh_132 rfl fl_RX7_31 dX7_take_1 ?_
  refine lv_iload_n hx hb dX7_take_4 rfl (lv_at hl 1 rfl) ?_
  refine lv_icmp_eq (tgt := 14) hx hb dX7_take_5 (by decide) (fun hc1 => ?_) (fun hc1 => ?_)
  · have hT := hT.1 hc1
    refine lv_aload_n hx hb dX7_take_14 rfl (lv_at hl 0 rfl) ?_
    refine fx_vv X h ym_X7_step yi_X7_step ys_X7_step (fx_s4 (List.mem_of_getElem? (i := 206) rfl) rfl) sh_132 rfl (c_X7_step l G hT) (As := []) (rest := []) rfl rfl ⟨Nat.le_of_ble_eq_true rfl, Nat.le_of_ble_eq_true rfl⟩ ⟨Nat.le_refl _, Nat.le_refl _⟩ hl.1 (Nat.le_of_ble_eq_true rfl) dX7_take_15 (fun M3 H locs hT h => ?_)
    refine lv_iconst (v := 1) hx hb dX7_take_18 (by decide) ?_
    exact fx_zret X hr hk h (Or.inr rfl) hT dX7_take_19
  · have hT := hT.2 hc1
    refine lv_aload_n hx hb dX7_take_8 rfl (lv_at hl 0 rfl) ?_
    refine lv_iconst (v := 1) hx hb dX7_take_9 (by decide) ?_
    refine fx_vi X h ym_X7_refuse yi_X7_refuse ys_X7_refuse (fx_s4 (List.mem_of_getElem? (i := 205) rfl) rfl) sh_132 rfl (c_X7_refuse l G hT) (As := [.int (1 : Int32)]) (rest := []) rfl rfl ⟨Nat.le_of_ble_eq_true rfl, Nat.le_of_ble_eq_true rfl⟩ ⟨Nat.le_refl _, Nat.le_refl _⟩ hl.1 (Nat.le_of_ble_eq_true rfl) dX7_take_10 (fun r6 M5 H locs hT h => ?_)
    exact fx_zret X hr hk h hT.1 hT.2 dX7_take_13
/-! MockParcels$Reader.isNumber(II)Z -/
theorem dX7_isNumber_0 : decode cX7_isNumber 0 = .ok (.aload_n 0, 1) := by decide +kernel
theorem dX7_isNumber_1 : decode cX7_isNumber 1 = .ok (.getfield 31, 3) := by decide +kernel
theorem dX7_isNumber_4 : decode cX7_isNumber 4 = .ok (.sipush 1000, 3) := by decide +kernel
theorem dX7_isNumber_7 : decode cX7_isNumber 7 = .ok (.if_icmp .ge 9, 3) := by decide +kernel
theorem dX7_isNumber_10 : decode cX7_isNumber 10 = .ok (.aload_n 0, 1) := by decide +kernel
theorem dX7_isNumber_11 : decode cX7_isNumber 11 = .ok (.iconst 1, 1) := by decide +kernel
theorem dX7_isNumber_12 : decode cX7_isNumber 12 = .ok (.invokevirtual 56, 3) := by decide +kernel
theorem dX7_isNumber_15 : decode cX7_isNumber 15 = .ok (.ireturn, 1) := by decide +kernel
theorem dX7_isNumber_16 : decode cX7_isNumber 16 = .ok (.aload_n 0, 1) := by decide +kernel
theorem dX7_isNumber_17 : decode cX7_isNumber 17 = .ok (.getfield 31, 3) := by decide +kernel
theorem dX7_isNumber_20 : decode cX7_isNumber 20 = .ok (.sipush 1000, 3) := by decide +kernel
theorem dX7_isNumber_23 : decode cX7_isNumber 23 = .ok (.isub, 1) := by decide +kernel
theorem dX7_isNumber_24 : decode cX7_isNumber 24 = .ok (.iload_n 1, 1) := by decide +kernel
theorem dX7_isNumber_25 : decode cX7_isNumber 25 = .ok (.iload_n 2, 1) := by decide +kernel
theorem dX7_isNumber_26 : decode cX7_isNumber 26 = .ok (.invokestatic 62, 3) := by decide +kernel
theorem dX7_isNumber_29 : decode cX7_isNumber 29 = .ok (.ifCond .ne 11, 3) := by decide +kernel
theorem dX7_isNumber_32 : decode cX7_isNumber 32 = .ok (.aload_n 0, 1) := by decide +kernel
theorem dX7_isNumber_33 : decode cX7_isNumber 33 = .ok (.iconst 2, 1) := by decide +kernel
theorem dX7_isNumber_34 : decode cX7_isNumber 34 = .ok (.invokevirtual 56, 3) := by decide +kernel
theorem dX7_isNumber_37 : decode cX7_isNumber 37 = .ok (.ifCond .eq 7, 3) := by decide +kernel
theorem dX7_isNumber_40 : decode cX7_isNumber 40 = .ok (.iconst 1, 1) := by decide +kernel
theorem dX7_isNumber_41 : decode cX7_isNumber 41 = .ok (.goto 4, 3) := by decide +kernel
theorem dX7_isNumber_44 : decode cX7_isNumber 44 = .ok (.iconst 0, 1) := by decide +kernel
theorem dX7_isNumber_45 : decode cX7_isNumber 45 = .ok (.ireturn, 1) := by decide +kernel
def T_X7_isNumber_40 (M : Mm) (K : Int32 → Mm → Prop) : Prop := (K (1 : Int32) M)
set_option maxHeartbeats 4000000 in
set_option maxRecDepth 100000 in
theorem w_X7_isNumber_40 {p : Program} {l : Launch} {e : Env} {s : State} {m : MethodId} {args : Array Value} {below : List Frame} {meth : Method} {c : Code} {G : fx_G} {K : Int32 → Mm → Prop} (X : fx_C G p s m c args cX7_isNumber 3 RX7) (hr : meth.sig.returnType = (some .boolean)) (hk : meth.locks = false) : ∀ (M : Mm) (H : Heap) (locs : List Loc) (ls : Array Slot), T_X7_isNumber_40  M K → fx_H G SH M s H locs → lv_has ls 3 [] → W p l e (fx_rm 1) s m args below meth c H locs 0 0 (MQ below (va_Qi K (fx_R G SH) (fx_A G)) args s 0 0 (fx_A G)) (F0 m 40 ls []) := by
  obtain ⟨⟨hx, hb, hml, hown, hts⟩, hK⟩ := id X
  intro  M H locs ls hT h hl
  unfold T_X7_isNumber_40 at hT
  refine lv_iconst (v := 1) hx hb dX7_isNumber_40 (by decide) ?_
  refine lv_goto (tgt := 45) hx hb dX7_isNumber_41 (by decide) ?_
  exact fx_zret X hr hk h (Or.inr rfl) hT dX7_isNumber_45
def T_X7_isNumber (x1 : Int32) (x2 : Int32) (M : Mm) (K : Int32 → Mm → Prop) : Prop := (((1000 : Int32) ≤ (M 132 6) → (T_X11_isWithin ((M 132 6) - (1000 : Int32)) x1 x2 M (fun r4 M3 => ((r4 = 0 → (T_X7_refuse (2 : Int32) M3 (fun r8 M7 => ((r8 = 0 → (K (0 : Int32) M7)) ∧ (¬ r8 = 0 → (T_X7_isNumber_40 M7 K)))))) ∧ (¬ r4 = 0 → (T_X7_isNumber_40 M3 K)))))) ∧ (¬ (1000 : Int32) ≤ (M 132 6) → (T_X7_refuse (1 : Int32) M (fun r12 M11 => ((r12 = 0 ∨ r12 = 1) ∧ K r12 M11)))))
set_option maxHeartbeats 4000000 in
set_option maxRecDepth 100000 in
theorem c_X7_isNumber (l : Launch) (G : fx_G) {x1 : Int32} {x2 : Int32} {M : Mm} {K : Int32 → Mm → Prop} (hT : T_X7_isNumber x1 x2 M K) : Met l yX7_isNumber (fx_ws yX7_isNumber cX7_isNumber 3 (some .boolean)) (fx_rm 1) (va_Pc [.ref (G.2.2.2 + 132), .int x1, .int x2] (fx_P G SH M)) (va_Qi K (fx_R G SH) (fx_A G)) 0 0 (fx_A G) := by
  refine fx_met (own := RX7) (by decide +kernel) rfl (Nat.le_of_ble_eq_true rfl) (fun p e s m below meth c X hr hk h ls hl => ?_)
  obtain ⟨⟨hx, hb, hml, hown, hts⟩, hK⟩ := id X
  have hl : lv_has ls 3 [(0, .ref (G.2.2.2 + 132)), (1, .int x1), (2, .int x2)] := hl
  unfold T_X7_isNumber at hT
  refine lv_aload_n hx hb dX7_isNumber_0 rfl (lv_at hl 0 rfl) ?_
  refine fx_getI X h (k := 132) (j := 6) sh_132 rfl fl_RX7_31 dX7_isNumber_1 ?_
  refine lv_sipush (v := 1000) hx hb dX7_isNumber_4 (by decide) ?_
  refine lv_icmp_ge (tgt := 16) hx hb dX7_isNumber_7 (by decide) (fun hc1 => ?_) (fun hc1 => ?_)
  · have hT := hT.1 hc1
    refine lv_aload_n hx hb dX7_isNumber_16 rfl (lv_at hl 0 rfl) ?_
    refine fx_getI X h (k := 132) (j := 6) sh_132 rfl fl_RX7_31 dX7_isNumber_17 ?_
    refine lv_sipush (v := 1000) hx hb dX7_isNumber_20 (by decide) ?_
    refine lv_isub hx hb dX7_isNumber_23 ?_
    refine lv_iload_n hx hb dX7_isNumber_24 rfl (lv_at hl 1 rfl) ?_
    refine lv_iload_n hx hb dX7_isNumber_25 rfl (lv_at hl 2 rfl) ?_
    refine fx_ni X h ym_X11_isWithin yt_X11_isWithin (nq_RX7_62) (c_X11_isWithin l G hT) (As := [.int ((M 132 6) - (1000 : Int32)), .int x1, .int x2]) (rest := []) rfl rfl ⟨Nat.le_of_ble_eq_true rfl, Nat.le_of_ble_eq_true rfl⟩ ⟨Nat.le_refl _, Nat.le_refl _⟩ hl.1 (Nat.le_of_ble_eq_true rfl) dX7_isNumber_26 (fun r4 M3 H locs hT h => ?_)
    refine lv_if_ne (tgt := 40) hx hb dX7_isNumber_29 (by decide) (fun hc5 => ?_) (fun hc5 => ?_)
    · have hT := hT.2 hc5
      exact w_X7_isNumber_40 X hr hk M3 _ _ ls hT h (lv_sub hl [] rfl)
    · have hT := hT.1 hc5
      refine lv_aload_n hx hb dX7_isNumber_32 rfl (lv_at hl 0 rfl) ?_
      refine lv_iconst (v := 2) hx hb dX7_isNumber_33 (by decide) ?_
      refine fx_vi X h ym_X7_refuse yi_X7_refuse ys_X7_refuse (fx_s4 (List.mem_of_getElem? (i := 205) rfl) rfl) sh_132 rfl (c_X7_refuse l G hT) (As := [.int (2 : Int32)]) (rest := []) rfl rfl ⟨Nat.le_of_ble_eq_true rfl, Nat.le_of_ble_eq_true rfl⟩ ⟨Nat.le_refl _, Nat.le_refl _⟩ hl.1 (Nat.le_of_ble_eq_true rfl) dX7_isNumber_34 (fun r8 M7 H locs hT h => ?_)
      refine lv_if_eq (tgt := 44) hx hb dX7_isNumber_37 (by decide) (fun hc9 => ?_) (fun hc9 => ?_)
      · have hT := hT.1 hc9
        refine lv_iconst (v := 0) hx hb dX7_isNumber_44 (by decide) ?_
        exact fx_zret X hr hk h (Or.inl rfl) hT dX7_isNumber_45
      · have hT := hT.2 hc9
        exact w_X7_isNumber_40 X hr hk M7 _ _ ls hT h (lv_sub hl [] rfl)
  · have hT := hT.2 hc1
    refine lv_aload_n hx hb dX7_isNumber_10 rfl (lv_at hl 0 rfl) ?_
    refine lv_iconst (v := 1) hx hb dX7_isNumber_11 (by decide) ?_
    refine fx_vi X h ym_X7_refuse yi_X7_refuse ys_X7_refuse (fx_s4 (List.mem_of_getElem? (i := 205) rfl) rfl) sh_132 rfl (c_X7_refuse l G hT) (As := [.int (1 : Int32)]) (rest := []) rfl rfl ⟨Nat.le_of_ble_eq_true rfl, Nat.le_of_ble_eq_true rfl⟩ ⟨Nat.le_refl _, Nat.le_refl _⟩ hl.1 (Nat.le_of_ble_eq_true rfl) dX7_isNumber_12 (fun r12 M11 H locs hT h => ?_)
    exact fx_zret X hr hk h hT.1 hT.2 dX7_isNumber_15
/-! MockParcels$Reader.addToken(II)V -/
theorem dX7_addToken_0 : decode cX7_addToken 0 = .ok (.aload_n 0, 1) := by decide +kernel
theorem dX7_addToken_1 : decode cX7_addToken 1 = .ok (.getfield 25, 3) := by decide +kernel
theorem dX7_addToken_4 : decode cX7_addToken 4 = .ok (.sipush 400, 3) := by decide +kernel
theorem dX7_addToken_7 : decode cX7_addToken 7 = .ok (.if_icmp .gt 33, 3) := by decide +kernel
theorem dX7_addToken_10 : decode cX7_addToken 10 = .ok (.aload_n 0, 1) := by decide +kernel
theorem dX7_addToken_11 : decode cX7_addToken 11 = .ok (.getfield 19, 3) := by decide +kernel
theorem dX7_addToken_14 : decode cX7_addToken 14 = .ok (.aload_n 0, 1) := by decide +kernel
theorem dX7_addToken_15 : decode cX7_addToken 15 = .ok (.getfield 25, 3) := by decide +kernel
theorem dX7_addToken_18 : decode cX7_addToken 18 = .ok (.iload_n 1, 1) := by decide +kernel
theorem dX7_addToken_19 : decode cX7_addToken 19 = .ok (.iastore, 1) := by decide +kernel
theorem dX7_addToken_20 : decode cX7_addToken 20 = .ok (.aload_n 0, 1) := by decide +kernel
theorem dX7_addToken_21 : decode cX7_addToken 21 = .ok (.getfield 22, 3) := by decide +kernel
theorem dX7_addToken_24 : decode cX7_addToken 24 = .ok (.aload_n 0, 1) := by decide +kernel
theorem dX7_addToken_25 : decode cX7_addToken 25 = .ok (.getfield 25, 3) := by decide +kernel
theorem dX7_addToken_28 : decode cX7_addToken 28 = .ok (.iload_n 2, 1) := by decide +kernel
theorem dX7_addToken_29 : decode cX7_addToken 29 = .ok (.iastore, 1) := by decide +kernel
theorem dX7_addToken_30 : decode cX7_addToken 30 = .ok (.aload_n 0, 1) := by decide +kernel
theorem dX7_addToken_31 : decode cX7_addToken 31 = .ok (.dup, 1) := by decide +kernel
theorem dX7_addToken_32 : decode cX7_addToken 32 = .ok (.getfield 25, 3) := by decide +kernel
theorem dX7_addToken_35 : decode cX7_addToken 35 = .ok (.iconst 1, 1) := by decide +kernel
theorem dX7_addToken_36 : decode cX7_addToken 36 = .ok (.iadd, 1) := by decide +kernel
theorem dX7_addToken_37 : decode cX7_addToken 37 = .ok (.putfield 25, 3) := by decide +kernel
theorem dX7_addToken_40 : decode cX7_addToken 40 = .ok (.return_, 1) := by decide +kernel
def T_X7_addToken (x1 : Int32) (x2 : Int32) (M : Mm) (K : Mm → Prop) : Prop := (((400 : Int32) < (M 132 4) → (K M)) ∧ (¬ (400 : Int32) < (M 132 4) → (vp_in (M 132 4) 401 ∧ (∀ M3 : Mm, M3 = m_up M 134 ((M 132 4)).toNatClampNeg x1 → (vp_in (M3 132 4) 401 ∧ (∀ M5 : Mm, M5 = m_up M3 135 ((M3 132 4)).toNatClampNeg x2 → (∀ M6 : Mm, M6 = m_up M5 132 4 ((M5 132 4) + (1 : Int32)) → (K M6))))))))
set_option maxHeartbeats 4000000 in
set_option maxRecDepth 100000 in
theorem c_X7_addToken (l : Launch) (G : fx_G) {x1 : Int32} {x2 : Int32} {M : Mm} {K : Mm → Prop} (hT : T_X7_addToken x1 x2 M K) : Met l yX7_addToken (fx_ws yX7_addToken cX7_addToken 3 none) (fx_rm 0) (va_Pc [.ref (G.2.2.2 + 132), .int x1, .int x2] (fx_P G SH M)) (va_Qv K (fx_R G SH) (fx_A G)) 0 0 (fx_A G) := by
  refine fx_met (own := RX7) (by decide +kernel) rfl (Nat.le_of_ble_eq_true rfl) (fun p e s m below meth c X hr hk h ls hl => ?_)
  obtain ⟨⟨hx, hb, hml, hown, hts⟩, hK⟩ := id X
  have hl : lv_has ls 3 [(0, .ref (G.2.2.2 + 132)), (1, .int x1), (2, .int x2)] := hl
  unfold T_X7_addToken at hT
  refine lv_aload_n hx hb dX7_addToken_0 rfl (lv_at hl 0 rfl) ?_
  refine fx_getI X h (k := 132) (j := 4) sh_132 rfl fl_RX7_25 dX7_addToken_1 ?_
  refine lv_sipush (v := 400) hx hb dX7_addToken_4 (by decide) ?_
  refine lv_icmp_gt (tgt := 40) hx hb dX7_addToken_7 (by decide) (fun hc1 => ?_) (fun hc1 => ?_)
  · have hT := hT.1 hc1
    exact fx_vret X hr hk h hT dX7_addToken_40
  · have hT := hT.2 hc1
    refine lv_aload_n hx hb dX7_addToken_10 rfl (lv_at hl 0 rfl) ?_
    refine fx_getR X h (k := 132) (j := 2) (r := 134) sh_132 rfl fl_RX7_19 dX7_addToken_11 ?_
    refine lv_aload_n hx hb dX7_addToken_14 rfl (lv_at hl 0 rfl) ?_
    refine fx_getI X h (k := 132) (j := 4) sh_132 rfl fl_RX7_25 dX7_addToken_15 ?_
    refine lv_iload_n hx hb dX7_addToken_18 rfl (lv_at hl 1 rfl) ?_
    obtain ⟨hi2, hT⟩ := hT
    refine fx_iast X h (k := 134) sh_134 hi2 dX7_addToken_19 (fun H locs h => ?_)
    obtain ⟨M3, eM3⟩ : ∃ z : Mm, z = m_up M 134 ((M 132 4)).toNatClampNeg x1 := ⟨_, rfl⟩
    have hT := hT M3 eM3
    rw [← eM3] at h
    refine lv_aload_n hx hb dX7_addToken_20 rfl (lv_at hl 0 rfl) ?_
    refine fx_getR X h (k := 132) (j := 3) (r := 135) sh_132 rfl fl_RX7_22 dX7_addToken_21 ?_
    refine lv_aload_n hx hb dX7_addToken_24 rfl (lv_at hl 0 rfl) ?_
    refine fx_getI X h (k := 132) (j := 4) sh_132 rfl fl_RX7_25 dX7_addToken_25 ?_
    refine lv_iload_n hx hb dX7_addToken_28 rfl (lv_at hl 2 rfl) ?_
    obtain ⟨hi4, hT⟩ := hT
    refine fx_iast X h (k := 135) sh_135 hi4 dX7_addToken_29 (fun H locs h => ?_)
    obtain ⟨M5, eM5⟩ : ∃ z : Mm, z = m_up M3 135 ((M3 132 4)).toNatClampNeg x2 := ⟨_, rfl⟩
    have hT := hT M5 eM5
    rw [← eM5] at h
    refine lv_aload_n hx hb dX7_addToken_30 rfl (lv_at hl 0 rfl) ?_
    refine lv_dup hx hb dX7_addToken_31 rfl ?_
    refine fx_getI X h (k := 132) (j := 4) sh_132 rfl fl_RX7_25 dX7_addToken_32 ?_
    refine lv_iconst (v := 1) hx hb dX7_addToken_35 (by decide) ?_
    refine lv_iadd hx hb dX7_addToken_36 ?_
    refine fx_putI X h (k := 132) (j := 4) sh_132 rfl fl_RX7_25 dX7_addToken_37 (fun H locs h => ?_)
    obtain ⟨M6, eM6⟩ : ∃ z : Mm, z = m_up M5 132 4 ((M5 132 4) + (1 : Int32)) := ⟨_, rfl⟩
    have hT := hT M6 eM6
    rw [← eM6] at h
    exact fx_vret X hr hk h hT dX7_addToken_40
/-! MockParcels$Reader.isLetter(I)Z -/
theorem dX7_isLetter_0 : decode cX7_isLetter 0 = .ok (.iload_n 0, 1) := by decide +kernel
theorem dX7_isLetter_1 : decode cX7_isLetter 1 = .ok (.bipush 97, 2) := by decide +kernel
theorem dX7_isLetter_3 : decode cX7_isLetter 3 = .ok (.if_icmp .lt 9, 3) := by decide +kernel
theorem dX7_isLetter_6 : decode cX7_isLetter 6 = .ok (.iload_n 0, 1) := by decide +kernel
theorem dX7_isLetter_7 : decode cX7_isLetter 7 = .ok (.bipush 122, 2) := by decide +kernel
theorem dX7_isLetter_9 : decode cX7_isLetter 9 = .ok (.if_icmp .le 15, 3) := by decide +kernel
theorem dX7_isLetter_12 : decode cX7_isLetter 12 = .ok (.iload_n 0, 1) := by decide +kernel
theorem dX7_isLetter_13 : decode cX7_isLetter 13 = .ok (.bipush 65, 2) := by decide +kernel
theorem dX7_isLetter_15 : decode cX7_isLetter 15 = .ok (.if_icmp .lt 13, 3) := by decide +kernel
theorem dX7_isLetter_18 : decode cX7_isLetter 18 = .ok (.iload_n 0, 1) := by decide +kernel
theorem dX7_isLetter_19 : decode cX7_isLetter 19 = .ok (.bipush 90, 2) := by decide +kernel
theorem dX7_isLetter_21 : decode cX7_isLetter 21 = .ok (.if_icmp .gt 7, 3) := by decide +kernel
theorem dX7_isLetter_24 : decode cX7_isLetter 24 = .ok (.iconst 1, 1) := by decide +kernel
theorem dX7_isLetter_25 : decode cX7_isLetter 25 = .ok (.goto 4, 3) := by decide +kernel
theorem dX7_isLetter_28 : decode cX7_isLetter 28 = .ok (.iconst 0, 1) := by decide +kernel
theorem dX7_isLetter_29 : decode cX7_isLetter 29 = .ok (.ireturn, 1) := by decide +kernel
def T_X7_isLetter_24 (M : Mm) (K : Int32 → Mm → Prop) : Prop := (K (1 : Int32) M)
set_option maxHeartbeats 4000000 in
set_option maxRecDepth 100000 in
theorem w_X7_isLetter_24 {p : Program} {l : Launch} {e : Env} {s : State} {m : MethodId} {args : Array Value} {below : List Frame} {meth : Method} {c : Code} {G : fx_G} {K : Int32 → Mm → Prop} (X : fx_C G p s m c args cX7_isLetter 1 RX7) (hr : meth.sig.returnType = (some .boolean)) (hk : meth.locks = false) : ∀ (M : Mm) (H : Heap) (locs : List Loc) (ls : Array Slot), T_X7_isLetter_24  M K → fx_H G SH M s H locs → lv_has ls 1 [] → W p l e (fx_rm 0) s m args below meth c H locs 0 0 (MQ below (va_Qi K (fx_R G SH) (fx_A G)) args s 0 0 (fx_A G)) (F0 m 24 ls []) := by
  obtain ⟨⟨hx, hb, hml, hown, hts⟩, hK⟩ := id X
  intro  M H locs ls hT h hl
  unfold T_X7_isLetter_24 at hT
  refine lv_iconst (v := 1) hx hb dX7_isLetter_24 (by decide) ?_
  refine lv_goto (tgt := 29) hx hb dX7_isLetter_25 (by decide) ?_
  exact fx_zret X hr hk h (Or.inr rfl) hT dX7_isLetter_29
def T_X7_isLetter_12 (x0 : Int32) (M : Mm) (K : Int32 → Mm → Prop) : Prop := ((x0 < (65 : Int32) → (K (0 : Int32) M)) ∧ (¬ x0 < (65 : Int32) → (((90 : Int32) < x0 → (K (0 : Int32) M)) ∧ (¬ (90 : Int32) < x0 → (T_X7_isLetter_24 M K)))))
set_option maxHeartbeats 4000000 in
set_option maxRecDepth 100000 in
theorem w_X7_isLetter_12 {p : Program} {l : Launch} {e : Env} {s : State} {m : MethodId} {args : Array Value} {below : List Frame} {meth : Method} {c : Code} {G : fx_G} {K : Int32 → Mm → Prop} (X : fx_C G p s m c args cX7_isLetter 1 RX7) (hr : meth.sig.returnType = (some .boolean)) (hk : meth.locks = false) : ∀ (x0 : Int32) (M : Mm) (H : Heap) (locs : List Loc) (ls : Array Slot), T_X7_isLetter_12 x0 M K → fx_H G SH M s H locs → lv_has ls 1 [(0, .int x0)] → W p l e (fx_rm 0) s m args below meth c H locs 0 0 (MQ below (va_Qi K (fx_R G SH) (fx_A G)) args s 0 0 (fx_A G)) (F0 m 12 ls []) := by
  obtain ⟨⟨hx, hb, hml, hown, hts⟩, hK⟩ := id X
  intro x0 M H locs ls hT h hl
  unfold T_X7_isLetter_12 at hT
  refine lv_iload_n hx hb dX7_isLetter_12 rfl (lv_at hl 0 rfl) ?_
  refine lv_bipush (v := 65) hx hb dX7_isLetter_13 (by decide) ?_
  refine lv_icmp_lt (tgt := 28) hx hb dX7_isLetter_15 (by decide) (fun hc1 => ?_) (fun hc1 => ?_)
  · have hT := hT.1 hc1
    refine lv_iconst (v := 0) hx hb dX7_isLetter_28 (by decide) ?_
    exact fx_zret X hr hk h (Or.inl rfl) hT dX7_isLetter_29
  · have hT := hT.2 hc1
    refine lv_iload_n hx hb dX7_isLetter_18 rfl (lv_at hl 0 rfl) ?_
    refine lv_bipush (v := 90) hx hb dX7_isLetter_19 (by decide) ?_
    refine lv_icmp_gt (tgt := 28) hx hb dX7_isLetter_21 (by decide) (fun hc2 => ?_) (fun hc2 => ?_)
    · have hT := hT.1 hc2
      refine lv_iconst (v := 0) hx hb dX7_isLetter_28 (by decide) ?_
      exact fx_zret X hr hk h (Or.inl rfl) hT dX7_isLetter_29
    · have hT := hT.2 hc2
      exact w_X7_isLetter_24 X hr hk M _ _ ls hT h (lv_sub hl [] rfl)
def T_X7_isLetter (x0 : Int32) (M : Mm) (K : Int32 → Mm → Prop) : Prop := ((x0 < (97 : Int32) → (T_X7_isLetter_12 x0 M K)) ∧ (¬ x0 < (97 : Int32) → ((x0 ≤ (122 : Int32) → (T_X7_isLetter_24 M K)) ∧ (¬ x0 ≤ (122 : Int32) → (T_X7_isLetter_12 x0 M K)))))
set_option maxHeartbeats 4000000 in
set_option maxRecDepth 100000 in
theorem c_X7_isLetter (l : Launch) (G : fx_G) {x0 : Int32} {M : Mm} {K : Int32 → Mm → Prop} (hT : T_X7_isLetter x0 M K) : Met l yX7_isLetter (fx_ws yX7_isLetter cX7_isLetter 1 (some .boolean)) (fx_rm 0) (va_Pc [.int x0] (fx_P G SH M)) (va_Qi K (fx_R G SH) (fx_A G)) 0 0 (fx_A G) := by
  refine fx_met (own := RX7) (by decide +kernel) rfl (Nat.le_of_ble_eq_true rfl) (fun p e s m below meth c X hr hk h ls hl => ?_)
  obtain ⟨⟨hx, hb, hml, hown, hts⟩, hK⟩ := id X
  have hl : lv_has ls 1 [(0, .int x0)] := hl
  unfold T_X7_isLetter at hT
  refine lv_iload_n hx hb dX7_isLetter_0 rfl (lv_at hl 0 rfl) ?_
  refine lv_bipush (v := 97) hx hb dX7_isLetter_1 (by decide) ?_
  refine lv_icmp_lt (tgt := 12) hx hb dX7_isLetter_3 (by decide) (fun hc3 => ?_) (fun hc3 => ?_)
  · have hT := hT.1 hc3
    exact w_X7_isLetter_12 X hr hk x0 M _ _ ls hT h (lv_sub hl [0] rfl)
  · have hT := hT.2 hc3
    refine lv_iload_n hx hb dX7_isLetter_6 rfl (lv_at hl 0 rfl) ?_
    refine lv_bipush (v := 122) hx hb dX7_isLetter_7 (by decide) ?_
    refine lv_icmp_le (tgt := 24) hx hb dX7_isLetter_9 (by decide) (fun hc4 => ?_) (fun hc4 => ?_)
    · have hT := hT.1 hc4
      exact w_X7_isLetter_24 X hr hk M _ _ ls hT h (lv_sub hl [] rfl)
    · have hT := hT.2 hc4
      exact w_X7_isLetter_12 X hr hk x0 M _ _ ls hT h (lv_sub hl [0] rfl)
/-! MockParcels$Reader.isDigit(I)Z -/
theorem dX7_isDigit_0 : decode cX7_isDigit 0 = .ok (.iload_n 0, 1) := by decide +kernel
theorem dX7_isDigit_1 : decode cX7_isDigit 1 = .ok (.bipush 48, 2) := by decide +kernel
theorem dX7_isDigit_3 : decode cX7_isDigit 3 = .ok (.if_icmp .lt 13, 3) := by decide +kernel
theorem dX7_isDigit_6 : decode cX7_isDigit 6 = .ok (.iload_n 0, 1) := by decide +kernel
theorem dX7_isDigit_7 : decode cX7_isDigit 7 = .ok (.bipush 57, 2) := by decide +kernel
theorem dX7_isDigit_9 : decode cX7_isDigit 9 = .ok (.if_icmp .gt 7, 3) := by decide +kernel
theorem dX7_isDigit_12 : decode cX7_isDigit 12 = .ok (.iconst 1, 1) := by decide +kernel
theorem dX7_isDigit_13 : decode cX7_isDigit 13 = .ok (.goto 4, 3) := by decide +kernel
theorem dX7_isDigit_16 : decode cX7_isDigit 16 = .ok (.iconst 0, 1) := by decide +kernel
theorem dX7_isDigit_17 : decode cX7_isDigit 17 = .ok (.ireturn, 1) := by decide +kernel
def T_X7_isDigit (x0 : Int32) (M : Mm) (K : Int32 → Mm → Prop) : Prop := ((x0 < (48 : Int32) → (K (0 : Int32) M)) ∧ (¬ x0 < (48 : Int32) → (((57 : Int32) < x0 → (K (0 : Int32) M)) ∧ (¬ (57 : Int32) < x0 → (K (1 : Int32) M)))))
set_option maxHeartbeats 4000000 in
set_option maxRecDepth 100000 in
theorem c_X7_isDigit (l : Launch) (G : fx_G) {x0 : Int32} {M : Mm} {K : Int32 → Mm → Prop} (hT : T_X7_isDigit x0 M K) : Met l yX7_isDigit (fx_ws yX7_isDigit cX7_isDigit 1 (some .boolean)) (fx_rm 0) (va_Pc [.int x0] (fx_P G SH M)) (va_Qi K (fx_R G SH) (fx_A G)) 0 0 (fx_A G) := by
  refine fx_met (own := RX7) (by decide +kernel) rfl (Nat.le_of_ble_eq_true rfl) (fun p e s m below meth c X hr hk h ls hl => ?_)
  obtain ⟨⟨hx, hb, hml, hown, hts⟩, hK⟩ := id X
  have hl : lv_has ls 1 [(0, .int x0)] := hl
  unfold T_X7_isDigit at hT
  refine lv_iload_n hx hb dX7_isDigit_0 rfl (lv_at hl 0 rfl) ?_
  refine lv_bipush (v := 48) hx hb dX7_isDigit_1 (by decide) ?_
  refine lv_icmp_lt (tgt := 16) hx hb dX7_isDigit_3 (by decide) (fun hc1 => ?_) (fun hc1 => ?_)
  · have hT := hT.1 hc1
    refine lv_iconst (v := 0) hx hb dX7_isDigit_16 (by decide) ?_
    exact fx_zret X hr hk h (Or.inl rfl) hT dX7_isDigit_17
  · have hT := hT.2 hc1
    refine lv_iload_n hx hb dX7_isDigit_6 rfl (lv_at hl 0 rfl) ?_
    refine lv_bipush (v := 57) hx hb dX7_isDigit_7 (by decide) ?_
    refine lv_icmp_gt (tgt := 16) hx hb dX7_isDigit_9 (by decide) (fun hc2 => ?_) (fun hc2 => ?_)
    · have hT := hT.1 hc2
      refine lv_iconst (v := 0) hx hb dX7_isDigit_16 (by decide) ?_
      exact fx_zret X hr hk h (Or.inl rfl) hT dX7_isDigit_17
    · have hT := hT.2 hc2
      refine lv_iconst (v := 1) hx hb dX7_isDigit_12 (by decide) ?_
      refine lv_goto (tgt := 17) hx hb dX7_isDigit_13 (by decide) ?_
      exact fx_zret X hr hk h (Or.inr rfl) hT dX7_isDigit_17
/-! MockParcels$Reader.behindToken(I)I -/
theorem dX7_behindToken_0 : decode cX7_behindToken 0 = .ok (.aload_n 0, 1) := by decide +kernel
theorem dX7_behindToken_1 : decode cX7_behindToken 1 = .ok (.getfield 9, 3) := by decide +kernel
theorem dX7_behindToken_4 : decode cX7_behindToken 4 = .ok (.iload_n 1, 1) := by decide +kernel
theorem dX7_behindToken_5 : decode cX7_behindToken 5 = .ok (.iaload, 1) := by decide +kernel
theorem dX7_behindToken_6 : decode cX7_behindToken 6 = .ok (.invokestatic 66, 3) := by decide +kernel
theorem dX7_behindToken_9 : decode cX7_behindToken 9 = .ok (.istore_n 2, 1) := by decide +kernel
theorem dX7_behindToken_10 : decode cX7_behindToken 10 = .ok (.aload_n 0, 1) := by decide +kernel
theorem dX7_behindToken_11 : decode cX7_behindToken 11 = .ok (.getfield 9, 3) := by decide +kernel
theorem dX7_behindToken_14 : decode cX7_behindToken 14 = .ok (.iload_n 1, 1) := by decide +kernel
theorem dX7_behindToken_15 : decode cX7_behindToken 15 = .ok (.iaload, 1) := by decide +kernel
theorem dX7_behindToken_16 : decode cX7_behindToken 16 = .ok (.invokestatic 69, 3) := by decide +kernel
theorem dX7_behindToken_19 : decode cX7_behindToken 19 = .ok (.istore_n 3, 1) := by decide +kernel
theorem dX7_behindToken_20 : decode cX7_behindToken 20 = .ok (.iload_n 1, 1) := by decide +kernel
theorem dX7_behindToken_21 : decode cX7_behindToken 21 = .ok (.iconst 1, 1) := by decide +kernel
theorem dX7_behindToken_22 : decode cX7_behindToken 22 = .ok (.iadd, 1) := by decide +kernel
theorem dX7_behindToken_23 : decode cX7_behindToken 23 = .ok (.istore 4, 2) := by decide +kernel
theorem dX7_behindToken_25 : decode cX7_behindToken 25 = .ok (.iload 4, 2) := by decide +kernel
theorem dX7_behindToken_27 : decode cX7_behindToken 27 = .ok (.aload_n 0, 1) := by decide +kernel
theorem dX7_behindToken_28 : decode cX7_behindToken 28 = .ok (.getfield 15, 3) := by decide +kernel
theorem dX7_behindToken_31 : decode cX7_behindToken 31 = .ok (.if_icmp .ge 51, 3) := by decide +kernel
theorem dX7_behindToken_34 : decode cX7_behindToken 34 = .ok (.iload 4, 2) := by decide +kernel
theorem dX7_behindToken_36 : decode cX7_behindToken 36 = .ok (.sipush 400, 3) := by decide +kernel
theorem dX7_behindToken_39 : decode cX7_behindToken 39 = .ok (.if_icmp .ge 43, 3) := by decide +kernel
theorem dX7_behindToken_42 : decode cX7_behindToken 42 = .ok (.iload_n 2, 1) := by decide +kernel
theorem dX7_behindToken_43 : decode cX7_behindToken 43 = .ok (.ifCond .eq 16, 3) := by decide +kernel
theorem dX7_behindToken_46 : decode cX7_behindToken 46 = .ok (.aload_n 0, 1) := by decide +kernel
theorem dX7_behindToken_47 : decode cX7_behindToken 47 = .ok (.getfield 9, 3) := by decide +kernel
theorem dX7_behindToken_50 : decode cX7_behindToken 50 = .ok (.iload 4, 2) := by decide +kernel
theorem dX7_behindToken_52 : decode cX7_behindToken 52 = .ok (.iaload, 1) := by decide +kernel
theorem dX7_behindToken_53 : decode cX7_behindToken 53 = .ok (.invokestatic 66, 3) := by decide +kernel
theorem dX7_behindToken_56 : decode cX7_behindToken 56 = .ok (.ifCond .ne 20, 3) := by decide +kernel
theorem dX7_behindToken_59 : decode cX7_behindToken 59 = .ok (.iload_n 3, 1) := by decide +kernel
theorem dX7_behindToken_60 : decode cX7_behindToken 60 = .ok (.ifCond .eq 22, 3) := by decide +kernel
theorem dX7_behindToken_63 : decode cX7_behindToken 63 = .ok (.aload_n 0, 1) := by decide +kernel
theorem dX7_behindToken_64 : decode cX7_behindToken 64 = .ok (.getfield 9, 3) := by decide +kernel
theorem dX7_behindToken_67 : decode cX7_behindToken 67 = .ok (.iload 4, 2) := by decide +kernel
theorem dX7_behindToken_69 : decode cX7_behindToken 69 = .ok (.iaload, 1) := by decide +kernel
theorem dX7_behindToken_70 : decode cX7_behindToken 70 = .ok (.invokestatic 69, 3) := by decide +kernel
theorem dX7_behindToken_73 : decode cX7_behindToken 73 = .ok (.ifCond .eq 9, 3) := by decide +kernel
theorem dX7_behindToken_76 : decode cX7_behindToken 76 = .ok (.iinc 4 1, 3) := by decide +kernel
theorem dX7_behindToken_79 : decode cX7_behindToken 79 = .ok (.goto (-54), 3) := by decide +kernel
theorem dX7_behindToken_82 : decode cX7_behindToken 82 = .ok (.iload 4, 2) := by decide +kernel
theorem dX7_behindToken_84 : decode cX7_behindToken 84 = .ok (.ireturn, 1) := by decide +kernel
def T_X7_behindToken_76 (B25 : Int32 → Int32 → Int32 → Mm → Prop) (x2 : Int32) (x3 : Int32) (x4 : Int32) (M : Mm) (K : Int32 → Mm → Prop) : Prop := (∀ y1 : Int32, y1 = x4 + (1 : Int32) → (B25 x2 x3 y1 M))
set_option maxHeartbeats 4000000 in
set_option maxRecDepth 100000 in
theorem w_X7_behindToken_76 {p : Program} {l : Launch} {e : Env} {s : State} {m : MethodId} {args : Array Value} {below : List Frame} {meth : Method} {c : Code} {G : fx_G} {K : Int32 → Mm → Prop} {B25 : Int32 → Int32 → Int32 → Mm → Prop} (X : fx_C G p s m c args cX7_behindToken 5 RX7) (hr : meth.sig.returnType = (some .int)) (hk : meth.locks = false) (hB25 : ∀ (x2 : Int32) (x3 : Int32) (x4 : Int32) (M : Mm) (H : Heap) (locs : List Loc) (ls : Array Slot), B25 x2 x3 x4 M → fx_H G SH M s H locs → lv_has ls 5 [(0, .ref (G.2.2.2 + 132)), (2, .int x2), (3, .int x3), (4, .int x4)] → W p l e (fx_rm 1) s m args below meth c H locs 0 0 (MQ below (va_Qi K (fx_R G SH) (fx_A G)) args s 0 0 (fx_A G)) (F0 m 25 ls [])) : ∀ (x2 : Int32) (x3 : Int32) (x4 : Int32) (M : Mm) (H : Heap) (locs : List Loc) (ls : Array Slot), T_X7_behindToken_76 B25 x2 x3 x4 M K → fx_H G SH M s H locs → lv_has ls 5 [(0, .ref (G.2.2.2 + 132)), (2, .int x2), (3, .int x3), (4, .int x4)] → W p l e (fx_rm 1) s m args below meth c H locs 0 0 (MQ below (va_Qi K (fx_R G SH) (fx_A G)) args s 0 0 (fx_A G)) (F0 m 76 ls []) := by
  obtain ⟨⟨hx, hb, hml, hown, hts⟩, hK⟩ := id X
  intro x2 x3 x4 M H locs ls hT h hl
  unfold T_X7_behindToken_76 at hT
  obtain ⟨y1, ey1⟩ : ∃ z : Int32, z = x4 + (1 : Int32) := ⟨_, rfl⟩
  have hT := hT y1 ey1
  refine lv_iinc (v := y1) (lv' := [(4, .int y1), (0, .ref (G.2.2.2 + 132)), (2, .int x2), (3, .int x3)]) hx hb dX7_behindToken_76 hl (k := 3) rfl (by rw [ey1]; rfl) (by decide) rfl (fun ls hl => ?_)
  refine lv_goto (tgt := 25) hx hb dX7_behindToken_79 (by decide) ?_
  exact hB25 x2 x3 y1 M _ _ ls hT h (lv_sub hl [1, 2, 3, 0] rfl)
def T_X7_behindToken_59 (B25 : Int32 → Int32 → Int32 → Mm → Prop) (x2 : Int32) (x3 : Int32) (x4 : Int32) (M : Mm) (K : Int32 → Mm → Prop) : Prop := ((x3 = 0 → (K x4 M)) ∧ (¬ x3 = 0 → (vp_in x4 400 ∧ (T_X7_isDigit (M 133 (x4).toNatClampNeg) M (fun r6 M5 => ((r6 = 0 → (K x4 M5)) ∧ (¬ r6 = 0 → (T_X7_behindToken_76 B25 x2 x3 x4 M5 K))))))))
set_option maxHeartbeats 4000000 in
set_option maxRecDepth 100000 in
theorem w_X7_behindToken_59 {p : Program} {l : Launch} {e : Env} {s : State} {m : MethodId} {args : Array Value} {below : List Frame} {meth : Method} {c : Code} {G : fx_G} {K : Int32 → Mm → Prop} {B25 : Int32 → Int32 → Int32 → Mm → Prop} (X : fx_C G p s m c args cX7_behindToken 5 RX7) (hr : meth.sig.returnType = (some .int)) (hk : meth.locks = false) (hB25 : ∀ (x2 : Int32) (x3 : Int32) (x4 : Int32) (M : Mm) (H : Heap) (locs : List Loc) (ls : Array Slot), B25 x2 x3 x4 M → fx_H G SH M s H locs → lv_has ls 5 [(0, .ref (G.2.2.2 + 132)), (2, .int x2), (3, .int x3), (4, .int x4)] → W p l e (fx_rm 1) s m args below meth c H locs 0 0 (MQ below (va_Qi K (fx_R G SH) (fx_A G)) args s 0 0 (fx_A G)) (F0 m 25 ls [])) : ∀ (x2 : Int32) (x3 : Int32) (x4 : Int32) (M : Mm) (H : Heap) (locs : List Loc) (ls : Array Slot), T_X7_behindToken_59 B25 x2 x3 x4 M K → fx_H G SH M s H locs → lv_has ls 5 [(0, .ref (G.2.2.2 + 132)), (2, .int x2), (3, .int x3), (4, .int x4)] → W p l e (fx_rm 1) s m args below meth c H locs 0 0 (MQ below (va_Qi K (fx_R G SH) (fx_A G)) args s 0 0 (fx_A G)) (F0 m 59 ls []) := by
  obtain ⟨⟨hx, hb, hml, hown, hts⟩, hK⟩ := id X
  intro x2 x3 x4 M H locs ls hT h hl
  unfold T_X7_behindToken_59 at hT
  refine lv_iload_n hx hb dX7_behindToken_59 rfl (lv_at hl 2 rfl) ?_
  refine lv_if_eq (tgt := 82) hx hb dX7_behindToken_60 (by decide) (fun hc2 => ?_) (fun hc2 => ?_)
  · have hT := hT.1 hc2
    refine lv_iload hx hb dX7_behindToken_82 (lv_at hl 3 rfl) ?_
    exact fx_iret X hr hk h hT dX7_behindToken_84
  · have hT := hT.2 hc2
    refine lv_aload_n hx hb dX7_behindToken_63 rfl (lv_at hl 0 rfl) ?_
    refine fx_getR X h (k := 132) (j := 0) (r := 133) sh_132 rfl fl_RX7_9 dX7_behindToken_64 ?_
    refine lv_iload hx hb dX7_behindToken_67 (lv_at hl 3 rfl) ?_
    obtain ⟨hi3, hT⟩ := hT
    refine fx_iald X h (k := 133) sh_133 hi3 dX7_behindToken_69 ?_
    refine fx_si X h ym_X7_isDigit yt_X7_isDigit (fx_s4 (List.mem_of_getElem? (i := 28) rfl) rfl) (c_X7_isDigit l G hT) (As := [.int (M 133 (x4).toNatClampNeg)]) (rest := []) rfl rfl ⟨Nat.le_of_ble_eq_true rfl, Nat.le_of_ble_eq_true rfl⟩ ⟨Nat.le_refl _, Nat.le_refl _⟩ hl.1 (Nat.le_of_ble_eq_true rfl) dX7_behindToken_70 (fun r6 M5 H locs hT h => ?_)
    refine lv_if_eq (tgt := 82) hx hb dX7_behindToken_73 (by decide) (fun hc7 => ?_) (fun hc7 => ?_)
    · have hT := hT.1 hc7
      refine lv_iload hx hb dX7_behindToken_82 (lv_at hl 3 rfl) ?_
      exact fx_iret X hr hk h hT dX7_behindToken_84
    · have hT := hT.2 hc7
      exact w_X7_behindToken_76 X hr hk (B25 := B25) hB25 x2 x3 x4 M5 _ _ ls hT h (lv_sub hl [0, 1, 2, 3] rfl)
def T_X7_behindToken_25 : Nat → Int32 → Int32 → Int32 → Mm → (Int32 → Mm → Prop) → Prop
  | 0, _, _, _, _, _ => False
  | n + 1, x2, x3, x4, M, K => (((M 132 1) ≤ x4 → (K x4 M)) ∧ (¬ (M 132 1) ≤ x4 → (((400 : Int32) ≤ x4 → (K x4 M)) ∧ (¬ (400 : Int32) ≤ x4 → ((x2 = 0 → (T_X7_behindToken_59 (fun x2 x3 x4 M => T_X7_behindToken_25 n x2 x3 x4 M K) x2 x3 x4 M K)) ∧ (¬ x2 = 0 → (vp_in x4 400 ∧ (T_X7_isLetter (M 133 (x4).toNatClampNeg) M (fun r14 M13 => ((r14 = 0 → (T_X7_behindToken_59 (fun x2 x3 x4 M => T_X7_behindToken_25 n x2 x3 x4 M K) x2 x3 x4 M13 K)) ∧ (¬ r14 = 0 → (T_X7_behindToken_76 (fun x2 x3 x4 M => T_X7_behindToken_25 n x2 x3 x4 M K) x2 x3 x4 M13 K))))))))))))
set_option maxHeartbeats 4000000 in
set_option maxRecDepth 100000 in
theorem w_X7_behindToken_25 {p : Program} {l : Launch} {e : Env} {s : State} {m : MethodId} {args : Array Value} {below : List Frame} {meth : Method} {c : Code} {G : fx_G} {K : Int32 → Mm → Prop} (X : fx_C G p s m c args cX7_behindToken 5 RX7) (hr : meth.sig.returnType = (some .int)) (hk : meth.locks = false) : ∀ (n : Nat) (x2 : Int32) (x3 : Int32) (x4 : Int32) (M : Mm) (H : Heap) (locs : List Loc) (ls : Array Slot), T_X7_behindToken_25 n x2 x3 x4 M K → fx_H G SH M s H locs → lv_has ls 5 [(0, .ref (G.2.2.2 + 132)), (2, .int x2), (3, .int x3), (4, .int x4)] → W p l e (fx_rm 1) s m args below meth c H locs 0 0 (MQ below (va_Qi K (fx_R G SH) (fx_A G)) args s 0 0 (fx_A G)) (F0 m 25 ls []) := by
  obtain ⟨⟨hx, hb, hml, hown, hts⟩, hK⟩ := id X
  intro n
  induction n with
  | zero =>
    intro x2 x3 x4 M H locs ls hT
    exact hT.elim
  | succ n ih =>
    intro x2 x3 x4 M H locs ls hT h hl
    rw [T_X7_behindToken_25] at hT
    refine lv_iload hx hb dX7_behindToken_25 (lv_at hl 3 rfl) ?_
    refine lv_aload_n hx hb dX7_behindToken_27 rfl (lv_at hl 0 rfl) ?_
    refine fx_getI X h (k := 132) (j := 1) sh_132 rfl fl_RX7_15 dX7_behindToken_28 ?_
    refine lv_icmp_ge (tgt := 82) hx hb dX7_behindToken_31 (by decide) (fun hc8 => ?_) (fun hc8 => ?_)
    · have hT := hT.1 hc8
      refine lv_iload hx hb dX7_behindToken_82 (lv_at hl 3 rfl) ?_
      exact fx_iret X hr hk h hT dX7_behindToken_84
    · have hT := hT.2 hc8
      refine lv_iload hx hb dX7_behindToken_34 (lv_at hl 3 rfl) ?_
      refine lv_sipush (v := 400) hx hb dX7_behindToken_36 (by decide) ?_
      refine lv_icmp_ge (tgt := 82) hx hb dX7_behindToken_39 (by decide) (fun hc9 => ?_) (fun hc9 => ?_)
      · have hT := hT.1 hc9
        refine lv_iload hx hb dX7_behindToken_82 (lv_at hl 3 rfl) ?_
        exact fx_iret X hr hk h hT dX7_behindToken_84
      · have hT := hT.2 hc9
        refine lv_iload_n hx hb dX7_behindToken_42 rfl (lv_at hl 1 rfl) ?_
        refine lv_if_eq (tgt := 59) hx hb dX7_behindToken_43 (by decide) (fun hc10 => ?_) (fun hc10 => ?_)
        · have hT := hT.1 hc10
          exact w_X7_behindToken_59 X hr hk (B25 := (fun x2 x3 x4 M => T_X7_behindToken_25 n x2 x3 x4 M K)) ih x2 x3 x4 M _ _ ls hT h (lv_sub hl [0, 1, 2, 3] rfl)
        · have hT := hT.2 hc10
          refine lv_aload_n hx hb dX7_behindToken_46 rfl (lv_at hl 0 rfl) ?_
          refine fx_getR X h (k := 132) (j := 0) (r := 133) sh_132 rfl fl_RX7_9 dX7_behindToken_47 ?_
          refine lv_iload hx hb dX7_behindToken_50 (lv_at hl 3 rfl) ?_
          obtain ⟨hi11, hT⟩ := hT
          refine fx_iald X h (k := 133) sh_133 hi11 dX7_behindToken_52 ?_
          refine fx_si X h ym_X7_isLetter yt_X7_isLetter (fx_s4 (List.mem_of_getElem? (i := 25) rfl) rfl) (c_X7_isLetter l G hT) (As := [.int (M 133 (x4).toNatClampNeg)]) (rest := []) rfl rfl ⟨Nat.le_of_ble_eq_true rfl, Nat.le_of_ble_eq_true rfl⟩ ⟨Nat.le_refl _, Nat.le_refl _⟩ hl.1 (Nat.le_of_ble_eq_true rfl) dX7_behindToken_53 (fun r14 M13 H locs hT h => ?_)
          refine lv_if_ne (tgt := 76) hx hb dX7_behindToken_56 (by decide) (fun hc15 => ?_) (fun hc15 => ?_)
          · have hT := hT.2 hc15
            exact w_X7_behindToken_76 X hr hk (B25 := (fun x2 x3 x4 M => T_X7_behindToken_25 n x2 x3 x4 M K)) ih x2 x3 x4 M13 _ _ ls hT h (lv_sub hl [0, 1, 2, 3] rfl)
          · have hT := hT.1 hc15
            exact w_X7_behindToken_59 X hr hk (B25 := (fun x2 x3 x4 M => T_X7_behindToken_25 n x2 x3 x4 M K)) ih x2 x3 x4 M13 _ _ ls hT h (lv_sub hl [0, 1, 2, 3] rfl)
def T_X7_behindToken (x1 : Int32) (M : Mm) (K : Int32 → Mm → Prop) : Prop := (vp_in x1 400 ∧ (T_X7_isLetter (M 133 (x1).toNatClampNeg) M (fun r19 M18 => (vp_in x1 400 ∧ (T_X7_isDigit (M18 133 (x1).toNatClampNeg) M18 (fun r23 M22 => (∀ y24 : Int32, y24 = (x1 + (1 : Int32)) → (T_X7_behindToken_25 5000 r19 r23 y24 M22 K))))))))
set_option maxHeartbeats 4000000 in
set_option maxRecDepth 100000 in
theorem c_X7_behindToken (l : Launch) (G : fx_G) {x1 : Int32} {M : Mm} {K : Int32 → Mm → Prop} (hT : T_X7_behindToken x1 M K) : Met l yX7_behindToken (fx_ws yX7_behindToken cX7_behindToken 5 (some .int)) (fx_rm 1) (va_Pc [.ref (G.2.2.2 + 132), .int x1] (fx_P G SH M)) (va_Qi K (fx_R G SH) (fx_A G)) 0 0 (fx_A G) := by
  refine fx_met (own := RX7) (by decide +kernel) rfl (Nat.le_of_ble_eq_true rfl) (fun p e s m below meth c X hr hk h ls hl => ?_)
  obtain ⟨⟨hx, hb, hml, hown, hts⟩, hK⟩ := id X
  have hl : lv_has ls 5 [(0, .ref (G.2.2.2 + 132)), (1, .int x1)] := hl
  unfold T_X7_behindToken at hT
  refine lv_aload_n hx hb dX7_behindToken_0 rfl (lv_at hl 0 rfl) ?_
  refine fx_getR X h (k := 132) (j := 0) (r := 133) sh_132 rfl fl_RX7_9 dX7_behindToken_1 ?_
  refine lv_iload_n hx hb dX7_behindToken_4 rfl (lv_at hl 1 rfl) ?_
  obtain ⟨hi16, hT⟩ := hT
  refine fx_iald X h (k := 133) sh_133 hi16 dX7_behindToken_5 ?_
  refine fx_si X h ym_X7_isLetter yt_X7_isLetter (fx_s4 (List.mem_of_getElem? (i := 25) rfl) rfl) (c_X7_isLetter l G hT) (As := [.int (M 133 (x1).toNatClampNeg)]) (rest := []) rfl rfl ⟨Nat.le_of_ble_eq_true rfl, Nat.le_of_ble_eq_true rfl⟩ ⟨Nat.le_refl _, Nat.le_refl _⟩ hl.1 (Nat.le_of_ble_eq_true rfl) dX7_behindToken_6 (fun r19 M18 H locs hT h => ?_)
  refine lv_istore_n (lv' := [(2, .int r19), (0, .ref (G.2.2.2 + 132)), (1, .int x1)]) hx hb dX7_behindToken_9 rfl hl (by decide) rfl (fun ls hl => ?_)
  refine lv_aload_n hx hb dX7_behindToken_10 rfl (lv_at hl 1 rfl) ?_
  refine fx_getR X h (k := 132) (j := 0) (r := 133) sh_132 rfl fl_RX7_9 dX7_behindToken_11 ?_
  refine lv_iload_n hx hb dX7_behindToken_14 rfl (lv_at hl 2 rfl) ?_
  obtain ⟨hi20, hT⟩ := hT
  refine fx_iald X h (k := 133) sh_133 hi20 dX7_behindToken_15 ?_
  refine fx_si X h ym_X7_isDigit yt_X7_isDigit (fx_s4 (List.mem_of_getElem? (i := 28) rfl) rfl) (c_X7_isDigit l G hT) (As := [.int (M18 133 (x1).toNatClampNeg)]) (rest := []) rfl rfl ⟨Nat.le_of_ble_eq_true rfl, Nat.le_of_ble_eq_true rfl⟩ ⟨Nat.le_refl _, Nat.le_refl _⟩ hl.1 (Nat.le_of_ble_eq_true rfl) dX7_behindToken_16 (fun r23 M22 H locs hT h => ?_)
  refine lv_istore_n (lv' := [(3, .int r23), (2, .int r19), (0, .ref (G.2.2.2 + 132)), (1, .int x1)]) hx hb dX7_behindToken_19 rfl hl (by decide) rfl (fun ls hl => ?_)
  refine lv_iload_n hx hb dX7_behindToken_20 rfl (lv_at hl 3 rfl) ?_
  refine lv_iconst (v := 1) hx hb dX7_behindToken_21 (by decide) ?_
  refine lv_iadd hx hb dX7_behindToken_22 ?_
  refine lv_topi (fun y24 ey24 => ?_)
  have hT := hT y24 ey24
  refine lv_istore (lv' := [(4, .int y24), (3, .int r23), (2, .int r19), (0, .ref (G.2.2.2 + 132)), (1, .int x1)]) hx hb dX7_behindToken_23 hl (by decide) rfl (fun ls hl => ?_)
  exact w_X7_behindToken_25 X hr hk 5000 r19 r23 y24 M22 _ _ ls hT h (lv_sub hl [3, 2, 1, 0] rfl)
/-! MockParcels$Reader.number(II)I -/
theorem dX7_number_0 : decode cX7_number 0 = .ok (.iload_n 2, 1) := by decide +kernel
theorem dX7_number_1 : decode cX7_number 1 = .ok (.iload_n 1, 1) := by decide +kernel
theorem dX7_number_2 : decode cX7_number 2 = .ok (.isub, 1) := by decide +kernel
theorem dX7_number_3 : decode cX7_number 3 = .ok (.iconst 4, 1) := by decide +kernel
theorem dX7_number_4 : decode cX7_number 4 = .ok (.if_icmp .le 5, 3) := by decide +kernel
theorem dX7_number_7 : decode cX7_number 7 = .ok (.iconst 1, 1) := by decide +kernel
theorem dX7_number_8 : decode cX7_number 8 = .ok (.ireturn, 1) := by decide +kernel
theorem dX7_number_9 : decode cX7_number 9 = .ok (.iconst 0, 1) := by decide +kernel
theorem dX7_number_10 : decode cX7_number 10 = .ok (.istore_n 3, 1) := by decide +kernel
theorem dX7_number_11 : decode cX7_number 11 = .ok (.iload_n 1, 1) := by decide +kernel
theorem dX7_number_12 : decode cX7_number 12 = .ok (.istore 4, 2) := by decide +kernel
theorem dX7_number_14 : decode cX7_number 14 = .ok (.iload 4, 2) := by decide +kernel
theorem dX7_number_16 : decode cX7_number 16 = .ok (.iload_n 2, 1) := by decide +kernel
theorem dX7_number_17 : decode cX7_number 17 = .ok (.if_icmp .ge 33, 3) := by decide +kernel
theorem dX7_number_20 : decode cX7_number 20 = .ok (.iload 4, 2) := by decide +kernel
theorem dX7_number_22 : decode cX7_number 22 = .ok (.sipush 400, 3) := by decide +kernel
theorem dX7_number_25 : decode cX7_number 25 = .ok (.if_icmp .ge 25, 3) := by decide +kernel
theorem dX7_number_28 : decode cX7_number 28 = .ok (.bipush 10, 2) := by decide +kernel
theorem dX7_number_30 : decode cX7_number 30 = .ok (.iload_n 3, 1) := by decide +kernel
theorem dX7_number_31 : decode cX7_number 31 = .ok (.imul, 1) := by decide +kernel
theorem dX7_number_32 : decode cX7_number 32 = .ok (.aload_n 0, 1) := by decide +kernel
theorem dX7_number_33 : decode cX7_number 33 = .ok (.getfield 9, 3) := by decide +kernel
theorem dX7_number_36 : decode cX7_number 36 = .ok (.iload 4, 2) := by decide +kernel
theorem dX7_number_38 : decode cX7_number 38 = .ok (.iaload, 1) := by decide +kernel
theorem dX7_number_39 : decode cX7_number 39 = .ok (.iadd, 1) := by decide +kernel
theorem dX7_number_40 : decode cX7_number 40 = .ok (.bipush 48, 2) := by decide +kernel
theorem dX7_number_42 : decode cX7_number 42 = .ok (.isub, 1) := by decide +kernel
theorem dX7_number_43 : decode cX7_number 43 = .ok (.istore_n 3, 1) := by decide +kernel
theorem dX7_number_44 : decode cX7_number 44 = .ok (.iinc 4 1, 3) := by decide +kernel
theorem dX7_number_47 : decode cX7_number 47 = .ok (.goto (-33), 3) := by decide +kernel
theorem dX7_number_50 : decode cX7_number 50 = .ok (.sipush 1000, 3) := by decide +kernel
theorem dX7_number_53 : decode cX7_number 53 = .ok (.iload_n 3, 1) := by decide +kernel
theorem dX7_number_54 : decode cX7_number 54 = .ok (.iadd, 1) := by decide +kernel
theorem dX7_number_55 : decode cX7_number 55 = .ok (.ireturn, 1) := by decide +kernel
def T_X7_number_50 (x3 : Int32) (M : Mm) (K : Int32 → Mm → Prop) : Prop := (K ((1000 : Int32) + x3) M)
set_option maxHeartbeats 4000000 in
set_option maxRecDepth 100000 in
theorem w_X7_number_50 {p : Program} {l : Launch} {e : Env} {s : State} {m : MethodId} {args : Array Value} {below : List Frame} {meth : Method} {c : Code} {G : fx_G} {K : Int32 → Mm → Prop} (X : fx_C G p s m c args cX7_number 5 RX7) (hr : meth.sig.returnType = (some .int)) (hk : meth.locks = false) : ∀ (x3 : Int32) (M : Mm) (H : Heap) (locs : List Loc) (ls : Array Slot), T_X7_number_50 x3 M K → fx_H G SH M s H locs → lv_has ls 5 [(3, .int x3)] → W p l e (fx_rm 0) s m args below meth c H locs 0 0 (MQ below (va_Qi K (fx_R G SH) (fx_A G)) args s 0 0 (fx_A G)) (F0 m 50 ls []) := by
  obtain ⟨⟨hx, hb, hml, hown, hts⟩, hK⟩ := id X
  intro x3 M H locs ls hT h hl
  unfold T_X7_number_50 at hT
  refine lv_sipush (v := 1000) hx hb dX7_number_50 (by decide) ?_
  refine lv_iload_n hx hb dX7_number_53 rfl (lv_at hl 0 rfl) ?_
  refine lv_iadd hx hb dX7_number_54 ?_
  exact fx_iret X hr hk h hT dX7_number_55
def T_X7_number_14 : Nat → Int32 → Int32 → Int32 → Mm → (Int32 → Mm → Prop) → Prop
  | 0, _, _, _, _, _ => False
  | n + 1, x2, x3, x4, M, K => ((x2 ≤ x4 → (T_X7_number_50 x3 M K)) ∧ (¬ x2 ≤ x4 → (((400 : Int32) ≤ x4 → (T_X7_number_50 x3 M K)) ∧ (¬ (400 : Int32) ≤ x4 → (vp_in x4 400 ∧ (∀ y4 : Int32, y4 = ((((10 : Int32) * x3) + (M 133 (x4).toNatClampNeg)) - (48 : Int32)) → (∀ y5 : Int32, y5 = x4 + (1 : Int32) → (T_X7_number_14 n x2 y4 y5 M K))))))))
set_option maxHeartbeats 4000000 in
set_option maxRecDepth 100000 in
theorem w_X7_number_14 {p : Program} {l : Launch} {e : Env} {s : State} {m : MethodId} {args : Array Value} {below : List Frame} {meth : Method} {c : Code} {G : fx_G} {K : Int32 → Mm → Prop} (X : fx_C G p s m c args cX7_number 5 RX7) (hr : meth.sig.returnType = (some .int)) (hk : meth.locks = false) : ∀ (n : Nat) (x2 : Int32) (x3 : Int32) (x4 : Int32) (M : Mm) (H : Heap) (locs : List Loc) (ls : Array Slot), T_X7_number_14 n x2 x3 x4 M K → fx_H G SH M s H locs → lv_has ls 5 [(0, .ref (G.2.2.2 + 132)), (2, .int x2), (3, .int x3), (4, .int x4)] → W p l e (fx_rm 0) s m args below meth c H locs 0 0 (MQ below (va_Qi K (fx_R G SH) (fx_A G)) args s 0 0 (fx_A G)) (F0 m 14 ls []) := by
  obtain ⟨⟨hx, hb, hml, hown, hts⟩, hK⟩ := id X
  intro n
  induction n with
  | zero =>
    intro x2 x3 x4 M H locs ls hT
    exact hT.elim
  | succ n ih =>
    intro x2 x3 x4 M H locs ls hT h hl
    rw [T_X7_number_14] at hT
    refine lv_iload hx hb dX7_number_14 (lv_at hl 3 rfl) ?_
    refine lv_iload_n hx hb dX7_number_16 rfl (lv_at hl 1 rfl) ?_
    refine lv_icmp_ge (tgt := 50) hx hb dX7_number_17 (by decide) (fun hc1 => ?_) (fun hc1 => ?_)
    · have hT := hT.1 hc1
      exact w_X7_number_50 X hr hk x3 M _ _ ls hT h (lv_sub hl [2] rfl)
    · have hT := hT.2 hc1
      refine lv_iload hx hb dX7_number_20 (lv_at hl 3 rfl) ?_
      refine lv_sipush (v := 400) hx hb dX7_number_22 (by decide) ?_
      refine lv_icmp_ge (tgt := 50) hx hb dX7_number_25 (by decide) (fun hc2 => ?_) (fun hc2 => ?_)
      · have hT := hT.1 hc2
        exact w_X7_number_50 X hr hk x3 M _ _ ls hT h (lv_sub hl [2] rfl)
      · have hT := hT.2 hc2
        refine lv_bipush (v := 10) hx hb dX7_number_28 (by decide) ?_
        refine lv_iload_n hx hb dX7_number_30 rfl (lv_at hl 2 rfl) ?_
        refine lv_imul hx hb dX7_number_31 ?_
        refine lv_aload_n hx hb dX7_number_32 rfl (lv_at hl 0 rfl) ?_
        refine fx_getR X h (k := 132) (j := 0) (r := 133) sh_132 rfl fl_RX7_9 dX7_number_33 ?_
        refine lv_iload hx hb dX7_number_36 (lv_at hl 3 rfl) ?_
        obtain ⟨hi3, hT⟩ := hT
        refine fx_iald X h (k := 133) sh_133 hi3 dX7_number_38 ?_
        refine lv_iadd hx hb dX7_number_39 ?_
        refine lv_bipush (v := 48) hx hb dX7_number_40 (by decide) ?_
        refine lv_isub hx hb dX7_number_42 ?_
        refine lv_topi (fun y4 ey4 => ?_)
        have hT := hT y4 ey4
        refine lv_istore_n (lv' := [(3, .int y4), (0, .ref (G.2.2.2 + 132)), (2, .int x2), (4, .int x4)]) hx hb dX7_number_43 rfl hl (by decide) rfl (fun ls hl => ?_)
        obtain ⟨y5, ey5⟩ : ∃ z : Int32, z = x4 + (1 : Int32) := ⟨_, rfl⟩
        have hT := hT y5 ey5
        refine lv_iinc (v := y5) (lv' := [(4, .int y5), (3, .int y4), (0, .ref (G.2.2.2 + 132)), (2, .int x2)]) hx hb dX7_number_44 hl (k := 3) rfl (by rw [ey5]; rfl) (by decide) rfl (fun ls hl => ?_)
        refine lv_goto (tgt := 14) hx hb dX7_number_47 (by decide) ?_
        exact ih x2 y4 y5 M _ _ ls hT h (lv_sub hl [2, 3, 1, 0] rfl)
def T_X7_number (x1 : Int32) (x2 : Int32) (M : Mm) (K : Int32 → Mm → Prop) : Prop := (((x2 - x1) ≤ (4 : Int32) → (T_X7_number_14 5000 x2 (0 : Int32) x1 M K)) ∧ (¬ (x2 - x1) ≤ (4 : Int32) → (K (1 : Int32) M)))
set_option maxHeartbeats 4000000 in
set_option maxRecDepth 100000 in
theorem c_X7_number (l : Launch) (G : fx_G) {x1 : Int32} {x2 : Int32} {M : Mm} {K : Int32 → Mm → Prop} (hT : T_X7_number x1 x2 M K) : Met l yX7_number (fx_ws yX7_number cX7_number 5 (some .int)) (fx_rm 0) (va_Pc [.ref (G.2.2.2 + 132), .int x1, .int x2] (fx_P G SH M)) (va_Qi K (fx_R G SH) (fx_A G)) 0 0 (fx_A G) := by
  refine fx_met (own := RX7) (by decide +kernel) rfl (Nat.le_of_ble_eq_true rfl) (fun p e s m below meth c X hr hk h ls hl => ?_)
  obtain ⟨⟨hx, hb, hml, hown, hts⟩, hK⟩ := id X
  have hl : lv_has ls 5 [(0, .ref (G.2.2.2 + 132)), (1, .int x1), (2, .int x2)] := hl
  unfold T_X7_number at hT
  refine lv_iload_n hx hb dX7_number_0 rfl (lv_at hl 2 rfl) ?_
  refine lv_iload_n hx hb dX7_number_1 rfl (lv_at hl 1 rfl) ?_
  refine lv_isub hx hb dX7_number_2 ?_
  refine lv_iconst (v := 4) hx hb dX7_number_3 (by decide) ?_
  refine lv_icmp_le (tgt := 9) hx hb dX7_number_4 (by decide) (fun hc6 => ?_) (fun hc6 => ?_)
  · have hT := hT.1 hc6
    refine lv_iconst (v := 0) hx hb dX7_number_9 (by decide) ?_
    refine lv_istore_n (lv' := [(3, .int (0 : Int32)), (0, .ref (G.2.2.2 + 132)), (1, .int x1), (2, .int x2)]) hx hb dX7_number_10 rfl hl (by decide) rfl (fun ls hl => ?_)
    refine lv_iload_n hx hb dX7_number_11 rfl (lv_at hl 2 rfl) ?_
    refine lv_istore (lv' := [(4, .int x1), (3, .int (0 : Int32)), (0, .ref (G.2.2.2 + 132)), (1, .int x1), (2, .int x2)]) hx hb dX7_number_12 hl (by decide) rfl (fun ls hl => ?_)
    exact w_X7_number_14 X hr hk 5000 x2 (0 : Int32) x1 M _ _ ls hT h (lv_sub hl [2, 4, 1, 0] rfl)
  · have hT := hT.2 hc6
    refine lv_iconst (v := 1) hx hb dX7_number_7 (by decide) ?_
    exact fx_iret X hr hk h hT dX7_number_8
/-! MockParcels$Reader.isBlank(I)Z -/
theorem dX7_isBlank_0 : decode cX7_isBlank 0 = .ok (.iload_n 0, 1) := by decide +kernel
theorem dX7_isBlank_1 : decode cX7_isBlank 1 = .ok (.bipush 32, 2) := by decide +kernel
theorem dX7_isBlank_3 : decode cX7_isBlank 3 = .ok (.if_icmp .eq 9, 3) := by decide +kernel
theorem dX7_isBlank_6 : decode cX7_isBlank 6 = .ok (.iload_n 0, 1) := by decide +kernel
theorem dX7_isBlank_7 : decode cX7_isBlank 7 = .ok (.bipush 10, 2) := by decide +kernel
theorem dX7_isBlank_9 : decode cX7_isBlank 9 = .ok (.if_icmp .ne 7, 3) := by decide +kernel
theorem dX7_isBlank_12 : decode cX7_isBlank 12 = .ok (.iconst 1, 1) := by decide +kernel
theorem dX7_isBlank_13 : decode cX7_isBlank 13 = .ok (.goto 4, 3) := by decide +kernel
theorem dX7_isBlank_16 : decode cX7_isBlank 16 = .ok (.iconst 0, 1) := by decide +kernel
theorem dX7_isBlank_17 : decode cX7_isBlank 17 = .ok (.ireturn, 1) := by decide +kernel
def T_X7_isBlank_12 (M : Mm) (K : Int32 → Mm → Prop) : Prop := (K (1 : Int32) M)
set_option maxHeartbeats 4000000 in
set_option maxRecDepth 100000 in
theorem w_X7_isBlank_12 {p : Program} {l : Launch} {e : Env} {s : State} {m : MethodId} {args : Array Value} {below : List Frame} {meth : Method} {c : Code} {G : fx_G} {K : Int32 → Mm → Prop} (X : fx_C G p s m c args cX7_isBlank 1 RX7) (hr : meth.sig.returnType = (some .boolean)) (hk : meth.locks = false) : ∀ (M : Mm) (H : Heap) (locs : List Loc) (ls : Array Slot), T_X7_isBlank_12  M K → fx_H G SH M s H locs → lv_has ls 1 [] → W p l e (fx_rm 0) s m args below meth c H locs 0 0 (MQ below (va_Qi K (fx_R G SH) (fx_A G)) args s 0 0 (fx_A G)) (F0 m 12 ls []) := by
  obtain ⟨⟨hx, hb, hml, hown, hts⟩, hK⟩ := id X
  intro  M H locs ls hT h hl
  unfold T_X7_isBlank_12 at hT
  refine lv_iconst (v := 1) hx hb dX7_isBlank_12 (by decide) ?_
  refine lv_goto (tgt := 17) hx hb dX7_isBlank_13 (by decide) ?_
  exact fx_zret X hr hk h (Or.inr rfl) hT dX7_isBlank_17
def T_X7_isBlank (x0 : Int32) (M : Mm) (K : Int32 → Mm → Prop) : Prop := ((x0 = (32 : Int32) → (T_X7_isBlank_12 M K)) ∧ (¬ x0 = (32 : Int32) → ((x0 = (10 : Int32) → (T_X7_isBlank_12 M K)) ∧ (¬ x0 = (10 : Int32) → (K (0 : Int32) M)))))
set_option maxHeartbeats 4000000 in
set_option maxRecDepth 100000 in
theorem c_X7_isBlank (l : Launch) (G : fx_G) {x0 : Int32} {M : Mm} {K : Int32 → Mm → Prop} (hT : T_X7_isBlank x0 M K) : Met l yX7_isBlank (fx_ws yX7_isBlank cX7_isBlank 1 (some .boolean)) (fx_rm 0) (va_Pc [.int x0] (fx_P G SH M)) (va_Qi K (fx_R G SH) (fx_A G)) 0 0 (fx_A G) := by
  refine fx_met (own := RX7) (by decide +kernel) rfl (Nat.le_of_ble_eq_true rfl) (fun p e s m below meth c X hr hk h ls hl => ?_)
  obtain ⟨⟨hx, hb, hml, hown, hts⟩, hK⟩ := id X
  have hl : lv_has ls 1 [(0, .int x0)] := hl
  unfold T_X7_isBlank at hT
  refine lv_iload_n hx hb dX7_isBlank_0 rfl (lv_at hl 0 rfl) ?_
  refine lv_bipush (v := 32) hx hb dX7_isBlank_1 (by decide) ?_
  refine lv_icmp_eq (tgt := 12) hx hb dX7_isBlank_3 (by decide) (fun hc1 => ?_) (fun hc1 => ?_)
  · have hT := hT.1 hc1
    exact w_X7_isBlank_12 X hr hk M _ _ ls hT h (lv_sub hl [] rfl)
  · have hT := hT.2 hc1
    refine lv_iload_n hx hb dX7_isBlank_6 rfl (lv_at hl 0 rfl) ?_
    refine lv_bipush (v := 10) hx hb dX7_isBlank_7 (by decide) ?_
    refine lv_icmp_ne (tgt := 16) hx hb dX7_isBlank_9 (by decide) (fun hc2 => ?_) (fun hc2 => ?_)
    · have hT := hT.2 hc2
      refine lv_iconst (v := 0) hx hb dX7_isBlank_16 (by decide) ?_
      exact fx_zret X hr hk h (Or.inl rfl) hT dX7_isBlank_17
    · have hT := hT.1 hc2
      exact w_X7_isBlank_12 X hr hk M _ _ ls hT h (lv_sub hl [] rfl)
