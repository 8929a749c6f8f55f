/-! MockParcels$Law.clear()V -/
theorem dX2_clear_0 : decode cX2_clear 0 = .ok (.aload_n 0, 1) := by decide +kernel
theorem dX2_clear_1 : decode cX2_clear 1 = .ok (.iconst 0, 1) := by decide +kernel
theorem dX2_clear_2 : decode cX2_clear 2 = .ok (.putfield 30, 3) := by decide +kernel
theorem dX2_clear_5 : decode cX2_clear 5 = .ok (.aload_n 0, 1) := by decide +kernel
theorem dX2_clear_6 : decode cX2_clear 6 = .ok (.iconst 0, 1) := by decide +kernel
theorem dX2_clear_7 : decode cX2_clear 7 = .ok (.putfield 34, 3) := by decide +kernel
theorem dX2_clear_10 : decode cX2_clear 10 = .ok (.return_, 1) := by decide +kernel
def T_X2_clear (o : Nat) (M : Mm) (K : Mm → Prop) : Prop := (∀ M1 : Mm, M1 = m_up M o 6 (0 : Int32) → (∀ M2 : Mm, M2 = m_up M1 o 7 (0 : Int32) → (K M2)))
set_option maxHeartbeats 4000000 in
set_option maxRecDepth 100000 in
theorem c_X2_clear (l : Launch) (G : fx_G) {o : Nat} (ho : o ∈ id_Law) {M : Mm} {K : Mm → Prop} (hT : T_X2_clear o M K) : Met l yX2_clear (fx_ws yX2_clear cX2_clear 1 none) (fx_rm (0)) (va_Pc [.ref (G.2.2.2 + o)] (fx_P G SH M)) (va_Qv K (fx_R G SH) (fx_A G)) 0 0 (fx_A G) := by
  refine fx_met (own := RX2) (by decide +kernel) rfl (Nat.le_of_ble_eq_true rfl) (fun p e s m below meth c X hr hk h ls hl => ?_)
  obtain ⟨⟨hx, hb, hml, hown, hts⟩, hK, hQ⟩ := id X
  have hl : lv_has ls 1 [(0, .ref (G.2.2.2 + o))] := hl
  unfold T_X2_clear at hT
  refine lv_aload_n hx hb dX2_clear_0 rfl (lv_at hl 0 rfl) ?_
  refine lv_iconst (v := 0) hx hb dX2_clear_1 (by decide) ?_
  refine fx_putI X h (k := o) (j := 6) (sc_Law o ho) rfl fl_RX2_30 dX2_clear_2 (fun H locs h => ?_)
  obtain ⟨M1, eM1⟩ : ∃ z : Mm, z = m_up M o 6 (0 : Int32) := ⟨_, rfl⟩
  have hT := hT M1 eM1
  rw [← eM1] at h
  refine lv_aload_n hx hb dX2_clear_5 rfl (lv_at hl 0 rfl) ?_
  refine lv_iconst (v := 0) hx hb dX2_clear_6 (by decide) ?_
  refine fx_putI X h (k := o) (j := 7) (sc_Law o ho) rfl fl_RX2_34 dX2_clear_7 (fun H locs h => ?_)
  obtain ⟨M2, eM2⟩ : ∃ z : Mm, z = m_up M1 o 7 (0 : Int32) := ⟨_, rfl⟩
  have hT := hT M2 eM2
  rw [← eM2] at h
  exact fx_vret X hr hk h hT dX2_clear_10
/-! MockParcels$Law.add(I)Z -/
theorem dX2_add_0 : decode cX2_add 0 = .ok (.aload_n 0, 1) := by decide +kernel
theorem dX2_add_1 : decode cX2_add 1 = .ok (.getfield 30, 3) := by decide +kernel
theorem dX2_add_4 : decode cX2_add 4 = .ok (.sipush 400, 3) := by decide +kernel
theorem dX2_add_7 : decode cX2_add 7 = .ok (.if_icmp .ge 23, 3) := by decide +kernel
theorem dX2_add_10 : decode cX2_add 10 = .ok (.aload_n 0, 1) := by decide +kernel
theorem dX2_add_11 : decode cX2_add 11 = .ok (.getfield 9, 3) := by decide +kernel
theorem dX2_add_14 : decode cX2_add 14 = .ok (.aload_n 0, 1) := by decide +kernel
theorem dX2_add_15 : decode cX2_add 15 = .ok (.getfield 30, 3) := by decide +kernel
theorem dX2_add_18 : decode cX2_add 18 = .ok (.iload_n 1, 1) := by decide +kernel
theorem dX2_add_19 : decode cX2_add 19 = .ok (.iastore, 1) := by decide +kernel
theorem dX2_add_20 : decode cX2_add 20 = .ok (.aload_n 0, 1) := by decide +kernel
theorem dX2_add_21 : decode cX2_add 21 = .ok (.dup, 1) := by decide +kernel
theorem dX2_add_22 : decode cX2_add 22 = .ok (.getfield 30, 3) := by decide +kernel
theorem dX2_add_25 : decode cX2_add 25 = .ok (.iconst 1, 1) := by decide +kernel
theorem dX2_add_26 : decode cX2_add 26 = .ok (.iadd, 1) := by decide +kernel
theorem dX2_add_27 : decode cX2_add 27 = .ok (.putfield 30, 3) := by decide +kernel
theorem dX2_add_30 : decode cX2_add 30 = .ok (.iconst 1, 1) := by decide +kernel
theorem dX2_add_31 : decode cX2_add 31 = .ok (.ireturn, 1) := by decide +kernel
def T_X2_add (o : Nat) (x1 : Int32) (M : Mm) (K : Int32 → Mm → Prop) : Prop := (((400 : Int32) ≤ (M o 6) → (K (1 : Int32) M)) ∧ (¬ (400 : Int32) ≤ (M o 6) → (vp_in (M o 6) 400 ∧ (∀ M2 : Mm, M2 = m_up M (rf o 0) ((M o 6)).toNatClampNeg x1 → (∀ M4 : Mm, M4 = m_up M2 o 6 ((M2 o 6) + (1 : Int32)) → (K (1 : Int32) M4))))))
set_option maxHeartbeats 4000000 in
set_option maxRecDepth 100000 in
theorem c_X2_add (l : Launch) (G : fx_G) {o : Nat} (ho : o ∈ id_Law) {x1 : Int32} {M : Mm} {K : Int32 → Mm → Prop} (hT : T_X2_add o x1 M K) : Met l yX2_add (fx_ws yX2_add cX2_add 2 (some .boolean)) (fx_rm (0)) (va_Pc [.ref (G.2.2.2 + o), .int x1] (fx_P G SH M)) (va_Qi K (fx_R G SH) (fx_A G)) 0 0 (fx_A G) := by
  refine fx_met (own := RX2) (by decide +kernel) rfl (Nat.le_of_ble_eq_true rfl) (fun p e s m below meth c X hr hk h ls hl => ?_)
  obtain ⟨⟨hx, hb, hml, hown, hts⟩, hK, hQ⟩ := id X
  have hl : lv_has ls 2 [(0, .ref (G.2.2.2 + o)), (1, .int x1)] := hl
  unfold T_X2_add at hT
  refine lv_aload_n hx hb dX2_add_0 rfl (lv_at hl 0 rfl) ?_
  refine fx_getI X h (k := o) (j := 6) (sc_Law o ho) rfl fl_RX2_30 dX2_add_1 ?_
  refine lv_sipush (v := 400) hx hb dX2_add_4 (by decide) ?_
  refine lv_icmp_ge (tgt := 30) hx hb dX2_add_7 (by decide) (fun hc1 => ?_) (fun hc1 => ?_)
  · have hT := hT.1 hc1
    refine lv_iconst (v := 1) hx hb dX2_add_30 (by decide) ?_
    exact fx_zret X hr hk h (Or.inr rfl) hT dX2_add_31
  · have hT := hT.2 hc1
    refine lv_aload_n hx hb dX2_add_10 rfl (lv_at hl 0 rfl) ?_
    refine fx_getR X h (k := o) (j := 0) (r := (rf o 0)) (sc_Law o ho) rfl fl_RX2_9 dX2_add_11 ?_
    refine lv_aload_n hx hb dX2_add_14 rfl (lv_at hl 0 rfl) ?_
    refine fx_getI X h (k := o) (j := 6) (sc_Law o ho) rfl fl_RX2_30 dX2_add_15 ?_
    refine lv_iload_n hx hb dX2_add_18 rfl (lv_at hl 1 rfl) ?_
    obtain ⟨hi3, hT⟩ := hT
    refine fx_iast X h (k := (rf o 0)) (sa_Law_0 o ho) hi3 dX2_add_19 (fun H locs h => ?_)
    obtain ⟨M2, eM2⟩ : ∃ z : Mm, z = m_up M (rf o 0) ((M o 6)).toNatClampNeg x1 := ⟨_, rfl⟩
    have hT := hT M2 eM2
    rw [← eM2] at h
    refine lv_aload_n hx hb dX2_add_20 rfl (lv_at hl 0 rfl) ?_
    refine lv_dup hx hb dX2_add_21 rfl ?_
    refine fx_getI X h (k := o) (j := 6) (sc_Law o ho) rfl fl_RX2_30 dX2_add_22 ?_
    refine lv_iconst (v := 1) hx hb dX2_add_25 (by decide) ?_
    refine lv_iadd hx hb dX2_add_26 ?_
    refine fx_putI X h (k := o) (j := 6) (sc_Law o ho) rfl fl_RX2_30 dX2_add_27 (fun H locs h => ?_)
    obtain ⟨M4, eM4⟩ : ∃ z : Mm, z = m_up M2 o 6 ((M2 o 6) + (1 : Int32)) := ⟨_, rfl⟩
    have hT := hT M4 eM4
    rw [← eM4] at h
    refine lv_iconst (v := 1) hx hb dX2_add_30 (by decide) ?_
    exact fx_zret X hr hk h (Or.inr rfl) hT dX2_add_31
/-! MockParcels$Law.addLine(II)V -/
theorem dX2_addLine_0 : decode cX2_addLine 0 = .ok (.aload_n 0, 1) := by decide +kernel
theorem dX2_addLine_1 : decode cX2_addLine 1 = .ok (.getfield 34, 3) := by decide +kernel
theorem dX2_addLine_4 : decode cX2_addLine 4 = .ok (.bipush 16, 2) := by decide +kernel
theorem dX2_addLine_6 : decode cX2_addLine 6 = .ok (.if_icmp .ge 46, 3) := by decide +kernel
theorem dX2_addLine_9 : decode cX2_addLine 9 = .ok (.aload_n 0, 1) := by decide +kernel
theorem dX2_addLine_10 : decode cX2_addLine 10 = .ok (.getfield 15, 3) := by decide +kernel
theorem dX2_addLine_13 : decode cX2_addLine 13 = .ok (.aload_n 0, 1) := by decide +kernel
theorem dX2_addLine_14 : decode cX2_addLine 14 = .ok (.getfield 34, 3) := by decide +kernel
theorem dX2_addLine_17 : decode cX2_addLine 17 = .ok (.iload_n 1, 1) := by decide +kernel
theorem dX2_addLine_18 : decode cX2_addLine 18 = .ok (.iastore, 1) := by decide +kernel
theorem dX2_addLine_19 : decode cX2_addLine 19 = .ok (.aload_n 0, 1) := by decide +kernel
theorem dX2_addLine_20 : decode cX2_addLine 20 = .ok (.getfield 18, 3) := by decide +kernel
theorem dX2_addLine_23 : decode cX2_addLine 23 = .ok (.aload_n 0, 1) := by decide +kernel
theorem dX2_addLine_24 : decode cX2_addLine 24 = .ok (.getfield 34, 3) := by decide +kernel
theorem dX2_addLine_27 : decode cX2_addLine 27 = .ok (.iload_n 2, 1) := by decide +kernel
theorem dX2_addLine_28 : decode cX2_addLine 28 = .ok (.iastore, 1) := by decide +kernel
theorem dX2_addLine_29 : decode cX2_addLine 29 = .ok (.aload_n 0, 1) := by decide +kernel
theorem dX2_addLine_30 : decode cX2_addLine 30 = .ok (.getfield 21, 3) := by decide +kernel
theorem dX2_addLine_33 : decode cX2_addLine 33 = .ok (.aload_n 0, 1) := by decide +kernel
theorem dX2_addLine_34 : decode cX2_addLine 34 = .ok (.getfield 34, 3) := by decide +kernel
theorem dX2_addLine_37 : decode cX2_addLine 37 = .ok (.aload_n 0, 1) := by decide +kernel
theorem dX2_addLine_38 : decode cX2_addLine 38 = .ok (.getfield 30, 3) := by decide +kernel
theorem dX2_addLine_41 : decode cX2_addLine 41 = .ok (.iastore, 1) := by decide +kernel
theorem dX2_addLine_42 : decode cX2_addLine 42 = .ok (.aload_n 0, 1) := by decide +kernel
theorem dX2_addLine_43 : decode cX2_addLine 43 = .ok (.dup, 1) := by decide +kernel
theorem dX2_addLine_44 : decode cX2_addLine 44 = .ok (.getfield 34, 3) := by decide +kernel
theorem dX2_addLine_47 : decode cX2_addLine 47 = .ok (.iconst 1, 1) := by decide +kernel
theorem dX2_addLine_48 : decode cX2_addLine 48 = .ok (.iadd, 1) := by decide +kernel
theorem dX2_addLine_49 : decode cX2_addLine 49 = .ok (.putfield 34, 3) := by decide +kernel
theorem dX2_addLine_52 : decode cX2_addLine 52 = .ok (.return_, 1) := by decide +kernel
def T_X2_addLine (o : Nat) (x1 : Int32) (x2 : Int32) (M : Mm) (K : Mm → Prop) : Prop := (((16 : Int32) ≤ (M o 7) → (K M)) ∧ (¬ (16 : Int32) ≤ (M o 7) → (vp_in (M o 7) 16 ∧ (∀ M2 : Mm, M2 = m_up M (rf o 1) ((M o 7)).toNatClampNeg x1 → (vp_in (M2 o 7) 16 ∧ (∀ M4 : Mm, M4 = m_up M2 (rf o 2) ((M2 o 7)).toNatClampNeg x2 → (vp_in (M4 o 7) 16 ∧ (∀ M6 : Mm, M6 = m_up M4 (rf o 3) ((M4 o 7)).toNatClampNeg (M4 o 6) → (∀ M8 : Mm, M8 = m_up M6 o 7 ((M6 o 7) + (1 : Int32)) → (K M8))))))))))
set_option maxHeartbeats 4000000 in
set_option maxRecDepth 100000 in
theorem c_X2_addLine (l : Launch) (G : fx_G) {o : Nat} (ho : o ∈ id_Law) {x1 : Int32} {x2 : Int32} {M : Mm} {K : Mm → Prop} (hT : T_X2_addLine o x1 x2 M K) : Met l yX2_addLine (fx_ws yX2_addLine cX2_addLine 3 none) (fx_rm (0)) (va_Pc [.ref (G.2.2.2 + o), .int x1, .int x2] (fx_P G SH M)) (va_Qv K (fx_R G SH) (fx_A G)) 0 0 (fx_A G) := by
  refine fx_met (own := RX2) (by decide +kernel) rfl (Nat.le_of_ble_eq_true rfl) (fun p e s m below meth c X hr hk h ls hl => ?_)
  obtain ⟨⟨hx, hb, hml, hown, hts⟩, hK, hQ⟩ := id X
  have hl : lv_has ls 3 [(0, .ref (G.2.2.2 + o)), (1, .int x1), (2, .int x2)] := hl
  unfold T_X2_addLine at hT
  refine lv_aload_n hx hb dX2_addLine_0 rfl (lv_at hl 0 rfl) ?_
  refine fx_getI X h (k := o) (j := 7) (sc_Law o ho) rfl fl_RX2_34 dX2_addLine_1 ?_
  refine lv_bipush (v := 16) hx hb dX2_addLine_4 (by decide) ?_
  refine lv_icmp_ge (tgt := 52) hx hb dX2_addLine_6 (by decide) (fun hc1 => ?_) (fun hc1 => ?_)
  · have hT := hT.1 hc1
    exact fx_vret X hr hk h hT dX2_addLine_52
  · have hT := hT.2 hc1
    refine lv_aload_n hx hb dX2_addLine_9 rfl (lv_at hl 0 rfl) ?_
    refine fx_getR X h (k := o) (j := 1) (r := (rf o 1)) (sc_Law o ho) rfl fl_RX2_15 dX2_addLine_10 ?_
    refine lv_aload_n hx hb dX2_addLine_13 rfl (lv_at hl 0 rfl) ?_
    refine fx_getI X h (k := o) (j := 7) (sc_Law o ho) rfl fl_RX2_34 dX2_addLine_14 ?_
    refine lv_iload_n hx hb dX2_addLine_17 rfl (lv_at hl 1 rfl) ?_
    obtain ⟨hi3, hT⟩ := hT
    refine fx_iast X h (k := (rf o 1)) (sa_Law_1 o ho) hi3 dX2_addLine_18 (fun H locs h => ?_)
    obtain ⟨M2, eM2⟩ : ∃ z : Mm, z = m_up M (rf o 1) ((M o 7)).toNatClampNeg x1 := ⟨_, rfl⟩
    have hT := hT M2 eM2
    rw [← eM2] at h
    refine lv_aload_n hx hb dX2_addLine_19 rfl (lv_at hl 0 rfl) ?_
    refine fx_getR X h (k := o) (j := 2) (r := (rf o 2)) (sc_Law o ho) rfl fl_RX2_18 dX2_addLine_20 ?_
    refine lv_aload_n hx hb dX2_addLine_23 rfl (lv_at hl 0 rfl) ?_
    refine fx_getI X h (k := o) (j := 7) (sc_Law o ho) rfl fl_RX2_34 dX2_addLine_24 ?_
    refine lv_iload_n hx hb dX2_addLine_27 rfl (lv_at hl 2 rfl) ?_
    obtain ⟨hi5, hT⟩ := hT
    refine fx_iast X h (k := (rf o 2)) (sa_Law_2 o ho) hi5 dX2_addLine_28 (fun H locs h => ?_)
    obtain ⟨M4, eM4⟩ : ∃ z : Mm, z = m_up M2 (rf o 2) ((M2 o 7)).toNatClampNeg x2 := ⟨_, rfl⟩
    have hT := hT M4 eM4
    rw [← eM4] at h
    refine lv_aload_n hx hb dX2_addLine_29 rfl (lv_at hl 0 rfl) ?_
    refine fx_getR X h (k := o) (j := 3) (r := (rf o 3)) (sc_Law o ho) rfl fl_RX2_21 dX2_addLine_30 ?_
    refine lv_aload_n hx hb dX2_addLine_33 rfl (lv_at hl 0 rfl) ?_
    refine fx_getI X h (k := o) (j := 7) (sc_Law o ho) rfl fl_RX2_34 dX2_addLine_34 ?_
    refine lv_aload_n hx hb dX2_addLine_37 rfl (lv_at hl 0 rfl) ?_
    refine fx_getI X h (k := o) (j := 6) (sc_Law o ho) rfl fl_RX2_30 dX2_addLine_38 ?_
    obtain ⟨hi7, hT⟩ := hT
    refine fx_iast X h (k := (rf o 3)) (sa_Law_3 o ho) hi7 dX2_addLine_41 (fun H locs h => ?_)
    obtain ⟨M6, eM6⟩ : ∃ z : Mm, z = m_up M4 (rf o 3) ((M4 o 7)).toNatClampNeg (M4 o 6) := ⟨_, rfl⟩
    have hT := hT M6 eM6
    rw [← eM6] at h
    refine lv_aload_n hx hb dX2_addLine_42 rfl (lv_at hl 0 rfl) ?_
    refine lv_dup hx hb dX2_addLine_43 rfl ?_
    refine fx_getI X h (k := o) (j := 7) (sc_Law o ho) rfl fl_RX2_34 dX2_addLine_44 ?_
    refine lv_iconst (v := 1) hx hb dX2_addLine_47 (by decide) ?_
    refine lv_iadd hx hb dX2_addLine_48 ?_
    refine fx_putI X h (k := o) (j := 7) (sc_Law o ho) rfl fl_RX2_34 dX2_addLine_49 (fun H locs h => ?_)
    obtain ⟨M8, eM8⟩ : ∃ z : Mm, z = m_up M6 o 7 ((M6 o 7) + (1 : Int32)) := ⟨_, rfl⟩
    have hT := hT M8 eM8
    rw [← eM8] at h
    exact fx_vret X hr hk h hT dX2_addLine_52
/-! MockParcels$Law.copyFrom(LMockParcels$Law;)V -/
theorem dX2_copyFrom_0 : decode cX2_copyFrom 0 = .ok (.aload_n 0, 1) := by decide +kernel
theorem dX2_copyFrom_1 : decode cX2_copyFrom 1 = .ok (.aload_n 1, 1) := by decide +kernel
theorem dX2_copyFrom_2 : decode cX2_copyFrom 2 = .ok (.getfield 30, 3) := by decide +kernel
theorem dX2_copyFrom_5 : decode cX2_copyFrom 5 = .ok (.putfield 30, 3) := by decide +kernel
theorem dX2_copyFrom_8 : decode cX2_copyFrom 8 = .ok (.aload_n 0, 1) := by decide +kernel
theorem dX2_copyFrom_9 : decode cX2_copyFrom 9 = .ok (.aload_n 1, 1) := by decide +kernel
theorem dX2_copyFrom_10 : decode cX2_copyFrom 10 = .ok (.getfield 34, 3) := by decide +kernel
theorem dX2_copyFrom_13 : decode cX2_copyFrom 13 = .ok (.putfield 34, 3) := by decide +kernel
theorem dX2_copyFrom_16 : decode cX2_copyFrom 16 = .ok (.iconst 0, 1) := by decide +kernel
theorem dX2_copyFrom_17 : decode cX2_copyFrom 17 = .ok (.istore_n 2, 1) := by decide +kernel
theorem dX2_copyFrom_18 : decode cX2_copyFrom 18 = .ok (.iload_n 2, 1) := by decide +kernel
theorem dX2_copyFrom_19 : decode cX2_copyFrom 19 = .ok (.aload_n 0, 1) := by decide +kernel
theorem dX2_copyFrom_20 : decode cX2_copyFrom 20 = .ok (.getfield 30, 3) := by decide +kernel
theorem dX2_copyFrom_23 : decode cX2_copyFrom 23 = .ok (.if_icmp .ge 28, 3) := by decide +kernel
theorem dX2_copyFrom_26 : decode cX2_copyFrom 26 = .ok (.iload_n 2, 1) := by decide +kernel
theorem dX2_copyFrom_27 : decode cX2_copyFrom 27 = .ok (.sipush 400, 3) := by decide +kernel
theorem dX2_copyFrom_30 : decode cX2_copyFrom 30 = .ok (.if_icmp .ge 21, 3) := by decide +kernel
theorem dX2_copyFrom_33 : decode cX2_copyFrom 33 = .ok (.aload_n 0, 1) := by decide +kernel
theorem dX2_copyFrom_34 : decode cX2_copyFrom 34 = .ok (.getfield 9, 3) := by decide +kernel
theorem dX2_copyFrom_37 : decode cX2_copyFrom 37 = .ok (.iload_n 2, 1) := by decide +kernel
theorem dX2_copyFrom_38 : decode cX2_copyFrom 38 = .ok (.aload_n 1, 1) := by decide +kernel
theorem dX2_copyFrom_39 : decode cX2_copyFrom 39 = .ok (.getfield 9, 3) := by decide +kernel
theorem dX2_copyFrom_42 : decode cX2_copyFrom 42 = .ok (.iload_n 2, 1) := by decide +kernel
theorem dX2_copyFrom_43 : decode cX2_copyFrom 43 = .ok (.iaload, 1) := by decide +kernel
theorem dX2_copyFrom_44 : decode cX2_copyFrom 44 = .ok (.iastore, 1) := by decide +kernel
theorem dX2_copyFrom_45 : decode cX2_copyFrom 45 = .ok (.iinc 2 1, 3) := by decide +kernel
theorem dX2_copyFrom_48 : decode cX2_copyFrom 48 = .ok (.goto (-30), 3) := by decide +kernel
theorem dX2_copyFrom_51 : decode cX2_copyFrom 51 = .ok (.aload_n 1, 1) := by decide +kernel
theorem dX2_copyFrom_52 : decode cX2_copyFrom 52 = .ok (.getfield 15, 3) := by decide +kernel
theorem dX2_copyFrom_55 : decode cX2_copyFrom 55 = .ok (.aload_n 0, 1) := by decide +kernel
theorem dX2_copyFrom_56 : decode cX2_copyFrom 56 = .ok (.getfield 15, 3) := by decide +kernel
theorem dX2_copyFrom_59 : decode cX2_copyFrom 59 = .ok (.invokestatic 37, 3) := by decide +kernel
theorem dX2_copyFrom_62 : decode cX2_copyFrom 62 = .ok (.aload_n 1, 1) := by decide +kernel
theorem dX2_copyFrom_63 : decode cX2_copyFrom 63 = .ok (.getfield 18, 3) := by decide +kernel
theorem dX2_copyFrom_66 : decode cX2_copyFrom 66 = .ok (.aload_n 0, 1) := by decide +kernel
theorem dX2_copyFrom_67 : decode cX2_copyFrom 67 = .ok (.getfield 18, 3) := by decide +kernel
theorem dX2_copyFrom_70 : decode cX2_copyFrom 70 = .ok (.invokestatic 37, 3) := by decide +kernel
theorem dX2_copyFrom_73 : decode cX2_copyFrom 73 = .ok (.aload_n 1, 1) := by decide +kernel
theorem dX2_copyFrom_74 : decode cX2_copyFrom 74 = .ok (.getfield 21, 3) := by decide +kernel
theorem dX2_copyFrom_77 : decode cX2_copyFrom 77 = .ok (.aload_n 0, 1) := by decide +kernel
theorem dX2_copyFrom_78 : decode cX2_copyFrom 78 = .ok (.getfield 21, 3) := by decide +kernel
theorem dX2_copyFrom_81 : decode cX2_copyFrom 81 = .ok (.invokestatic 37, 3) := by decide +kernel
theorem dX2_copyFrom_84 : decode cX2_copyFrom 84 = .ok (.return_, 1) := by decide +kernel
def T_X2_copyFrom_51 (o : Nat) (o1 : Nat) (M : Mm) (K : Mm → Prop) : Prop := (T_X11_copyRow (rf o1 1) (rf o 1) M (fun M2 => (T_X11_copyRow (rf o1 2) (rf o 2) M2 (fun M4 => (T_X11_copyRow (rf o1 3) (rf o 3) M4 (fun M6 => (K M6)))))))
set_option maxHeartbeats 4000000 in
set_option maxRecDepth 100000 in
theorem w_X2_copyFrom_51 {p : Program} {l : Launch} {e : Env} {s : State} {m : MethodId} {args : Array Value} {below : List Frame} {meth : Method} {c : Code} {G : fx_G} {K : Mm → Prop} {o : Nat} {o1 : Nat} (ho : o ∈ id_Law) (ho1 : o1 ∈ id_Law) (X : fx_C G p s m c args cX2_copyFrom 3 RX2) (hr : meth.sig.returnType = none) (hk : meth.locks = false) : ∀ (M : Mm) (H : Heap) (locs : List Loc) (ls : Array Slot), T_X2_copyFrom_51 o o1  M K → fx_H G SH M s H locs → lv_has ls 3 [(0, .ref (G.2.2.2 + o)), (1, .ref (G.2.2.2 + o1))] → W p l e (fx_rm (1)) s m args below meth c H locs 0 0 (MQ below (va_Qv K (fx_R G SH) (fx_A G)) args s 0 0 (fx_A G)) (F0 m 51 ls []) := by
  obtain ⟨⟨hx, hb, hml, hown, hts⟩, hK, hQ⟩ := id X
  intro  M H locs ls hT h hl
  unfold T_X2_copyFrom_51 at hT
  refine lv_aload_n hx hb dX2_copyFrom_51 rfl (lv_at hl 1 rfl) ?_
  refine fx_getR X h (k := o1) (j := 1) (r := (rf o1 1)) (sc_Law o1 ho1) rfl fl_RX2_15 dX2_copyFrom_52 ?_
  refine lv_aload_n hx hb dX2_copyFrom_55 rfl (lv_at hl 0 rfl) ?_
  refine fx_getR X h (k := o) (j := 1) (r := (rf o 1)) (sc_Law o ho) rfl fl_RX2_15 dX2_copyFrom_56 ?_
  refine fx_nv X h ym_X11_copyRow yt_X11_copyRow (nq_RX2_37) (c_X11_copyRow l G (ln_of (sa_Law_1 o1 ho1)) (ln_of (sa_Law_1 o ho)) hT) (As := [.ref (G.2.2.2 + (rf o1 1)), .ref (G.2.2.2 + (rf o 1))]) (rest := []) rfl rfl ⟨Nat.le_of_ble_eq_true rfl, Nat.le_of_ble_eq_true rfl⟩ ⟨Nat.le_refl _, Nat.le_refl _⟩ hl.1 (Nat.le_of_ble_eq_true rfl) dX2_copyFrom_59 (fun M2 H locs hT h => ?_)
  refine lv_aload_n hx hb dX2_copyFrom_62 rfl (lv_at hl 1 rfl) ?_
  refine fx_getR X h (k := o1) (j := 2) (r := (rf o1 2)) (sc_Law o1 ho1) rfl fl_RX2_18 dX2_copyFrom_63 ?_
  refine lv_aload_n hx hb dX2_copyFrom_66 rfl (lv_at hl 0 rfl) ?_
  refine fx_getR X h (k := o) (j := 2) (r := (rf o 2)) (sc_Law o ho) rfl fl_RX2_18 dX2_copyFrom_67 ?_
  refine fx_nv X h ym_X11_copyRow yt_X11_copyRow (nq_RX2_37) (c_X11_copyRow l G (ln_of (sa_Law_2 o1 ho1)) (ln_of (sa_Law_2 o ho)) hT) (As := [.ref (G.2.2.2 + (rf o1 2)), .ref (G.2.2.2 + (rf o 2))]) (rest := []) rfl rfl ⟨Nat.le_of_ble_eq_true rfl, Nat.le_of_ble_eq_true rfl⟩ ⟨Nat.le_refl _, Nat.le_refl _⟩ hl.1 (Nat.le_of_ble_eq_true rfl) dX2_copyFrom_70 (fun M4 H locs hT h => ?_)
  refine lv_aload_n hx hb dX2_copyFrom_73 rfl (lv_at hl 1 rfl) ?_
  refine fx_getR X h (k := o1) (j := 3) (r := (rf o1 3)) (sc_Law o1 ho1) rfl fl_RX2_21 dX2_copyFrom_74 ?_
  refine lv_aload_n hx hb dX2_copyFrom_77 rfl (lv_at hl 0 rfl) ?_
  refine fx_getR X h (k := o) (j := 3) (r := (rf o 3)) (sc_Law o ho) rfl fl_RX2_21 dX2_copyFrom_78 ?_
  refine fx_nv X h ym_X11_copyRow yt_X11_copyRow (nq_RX2_37) (c_X11_copyRow l G (ln_of (sa_Law_3 o1 ho1)) (ln_of (sa_Law_3 o ho)) hT) (As := [.ref (G.2.2.2 + (rf o1 3)), .ref (G.2.2.2 + (rf o 3))]) (rest := []) rfl rfl ⟨Nat.le_of_ble_eq_true rfl, Nat.le_of_ble_eq_true rfl⟩ ⟨Nat.le_refl _, Nat.le_refl _⟩ hl.1 (Nat.le_of_ble_eq_true rfl) dX2_copyFrom_81 (fun M6 H locs hT h => ?_)
  exact fx_vret X hr hk h hT dX2_copyFrom_84
def T_X2_copyFrom_18 (o : Nat) (o1 : Nat) : Nat → Int32 → Mm → (Mm → Prop) → Prop
  | 0, _, _, _ => False
  | n + 1, x2, M, K => (((M o 6) ≤ x2 → (T_X2_copyFrom_51 o o1 M K)) ∧ (¬ (M o 6) ≤ x2 → (((400 : Int32) ≤ x2 → (T_X2_copyFrom_51 o o1 M K)) ∧ (¬ (400 : Int32) ≤ x2 → (vp_in x2 400 ∧ (vp_in x2 400 ∧ (∀ M10 : Mm, M10 = m_up M (rf o 0) (x2).toNatClampNeg (M (rf o1 0) (x2).toNatClampNeg) → (∀ y12 : Int32, y12 = x2 + (1 : Int32) → (T_X2_copyFrom_18 o o1 n y12 M10 K)))))))))
set_option maxHeartbeats 4000000 in
set_option maxRecDepth 100000 in
theorem w_X2_copyFrom_18 {p : Program} {l : Launch} {e : Env} {s : State} {m : MethodId} {args : Array Value} {below : List Frame} {meth : Method} {c : Code} {G : fx_G} {K : Mm → Prop} {o : Nat} {o1 : Nat} (ho : o ∈ id_Law) (ho1 : o1 ∈ id_Law) (X : fx_C G p s m c args cX2_copyFrom 3 RX2) (hr : meth.sig.returnType = none) (hk : meth.locks = false) : ∀ (n : Nat) (x2 : Int32) (M : Mm) (H : Heap) (locs : List Loc) (ls : Array Slot), T_X2_copyFrom_18 o o1 n x2 M K → fx_H G SH M s H locs → lv_has ls 3 [(0, .ref (G.2.2.2 + o)), (1, .ref (G.2.2.2 + o1)), (2, .int x2)] → W p l e (fx_rm (1)) s m args below meth c H locs 0 0 (MQ below (va_Qv K (fx_R G SH) (fx_A G)) args s 0 0 (fx_A G)) (F0 m 18 ls []) := by
  obtain ⟨⟨hx, hb, hml, hown, hts⟩, hK, hQ⟩ := id X
  intro n
  induction n with
  | zero =>
    intro x2 M H locs ls hT
    exact hT.elim
  | succ n ih =>
    intro x2 M H locs ls hT h hl
    rw [T_X2_copyFrom_18] at hT
    refine lv_iload_n hx hb dX2_copyFrom_18 rfl (lv_at hl 2 rfl) ?_
    refine lv_aload_n hx hb dX2_copyFrom_19 rfl (lv_at hl 0 rfl) ?_
    refine fx_getI X h (k := o) (j := 6) (sc_Law o ho) rfl fl_RX2_30 dX2_copyFrom_20 ?_
    refine lv_icmp_ge (tgt := 51) hx hb dX2_copyFrom_23 (by decide) (fun hc7 => ?_) (fun hc7 => ?_)
    · have hT := hT.1 hc7
      exact w_X2_copyFrom_51 ho ho1 X hr hk M _ _ ls hT h (lv_sub hl [0, 1] rfl)
    · have hT := hT.2 hc7
      refine lv_iload_n hx hb dX2_copyFrom_26 rfl (lv_at hl 2 rfl) ?_
      refine lv_sipush (v := 400) hx hb dX2_copyFrom_27 (by decide) ?_
      refine lv_icmp_ge (tgt := 51) hx hb dX2_copyFrom_30 (by decide) (fun hc8 => ?_) (fun hc8 => ?_)
      · have hT := hT.1 hc8
        exact w_X2_copyFrom_51 ho ho1 X hr hk M _ _ ls hT h (lv_sub hl [0, 1] rfl)
      · have hT := hT.2 hc8
        refine lv_aload_n hx hb dX2_copyFrom_33 rfl (lv_at hl 0 rfl) ?_
        refine fx_getR X h (k := o) (j := 0) (r := (rf o 0)) (sc_Law o ho) rfl fl_RX2_9 dX2_copyFrom_34 ?_
        refine lv_iload_n hx hb dX2_copyFrom_37 rfl (lv_at hl 2 rfl) ?_
        refine lv_aload_n hx hb dX2_copyFrom_38 rfl (lv_at hl 1 rfl) ?_
        refine fx_getR X h (k := o1) (j := 0) (r := (rf o1 0)) (sc_Law o1 ho1) rfl fl_RX2_9 dX2_copyFrom_39 ?_
        refine lv_iload_n hx hb dX2_copyFrom_42 rfl (lv_at hl 2 rfl) ?_
        obtain ⟨hi9, hT⟩ := hT
        refine fx_iald X h (k := (rf o1 0)) (sa_Law_0 o1 ho1) hi9 dX2_copyFrom_43 ?_
        obtain ⟨hi11, hT⟩ := hT
        refine fx_iast X h (k := (rf o 0)) (sa_Law_0 o ho) hi11 dX2_copyFrom_44 (fun H locs h => ?_)
        obtain ⟨M10, eM10⟩ : ∃ z : Mm, z = m_up M (rf o 0) (x2).toNatClampNeg (M (rf o1 0) (x2).toNatClampNeg) := ⟨_, rfl⟩
        have hT := hT M10 eM10
        rw [← eM10] at h
        obtain ⟨y12, ey12⟩ : ∃ z : Int32, z = x2 + (1 : Int32) := ⟨_, rfl⟩
        have hT := hT y12 ey12
        refine lv_iinc (v := y12) (lv' := [(2, .int y12), (0, .ref (G.2.2.2 + o)), (1, .ref (G.2.2.2 + o1))]) hx hb dX2_copyFrom_45 hl (k := 2) rfl (by rw [ey12]; rfl) (by decide) rfl (fun ls hl => ?_)
        refine lv_goto (tgt := 18) hx hb dX2_copyFrom_48 (by decide) ?_
        exact ih y12 M10 _ _ ls hT h (lv_sub hl [1, 2, 0] rfl)
def T_X2_copyFrom (o : Nat) (o1 : Nat) (M : Mm) (K : Mm → Prop) : Prop := (∀ M13 : Mm, M13 = m_up M o 6 (M o1 6) → (∀ M14 : Mm, M14 = m_up M13 o 7 (M13 o1 7) → (T_X2_copyFrom_18 o o1 5000 (0 : Int32) M14 K)))
set_option maxHeartbeats 4000000 in
set_option maxRecDepth 100000 in
theorem c_X2_copyFrom (l : Launch) (G : fx_G) {o : Nat} {o1 : Nat} (ho : o ∈ id_Law) (ho1 : o1 ∈ id_Law) {M : Mm} {K : Mm → Prop} (hT : T_X2_copyFrom o o1 M K) : Met l yX2_copyFrom (fx_ws yX2_copyFrom cX2_copyFrom 3 none) (fx_rm (1)) (va_Pc [.ref (G.2.2.2 + o), .ref (G.2.2.2 + o1)] (fx_P G SH M)) (va_Qv K (fx_R G SH) (fx_A G)) 0 0 (fx_A G) := by
  refine fx_met (own := RX2) (by decide +kernel) rfl (Nat.le_of_ble_eq_true rfl) (fun p e s m below meth c X hr hk h ls hl => ?_)
  obtain ⟨⟨hx, hb, hml, hown, hts⟩, hK, hQ⟩ := id X
  have hl : lv_has ls 3 [(0, .ref (G.2.2.2 + o)), (1, .ref (G.2.2.2 + o1))] := hl
  unfold T_X2_copyFrom at hT
  refine lv_aload_n hx hb dX2_copyFrom_0 rfl (lv_at hl 0 rfl) ?_
  refine lv_aload_n hx hb dX2_copyFrom_1 rfl (lv_at hl 1 rfl) ?_
  refine fx_getI X h (k := o1) (j := 6) (sc_Law o1 ho1) rfl fl_RX2_30 dX2_copyFrom_2 ?_
  refine fx_putI X h (k := o) (j := 6) (sc_Law o ho) rfl fl_RX2_30 dX2_copyFrom_5 (fun H locs h => ?_)
  obtain ⟨M13, eM13⟩ : ∃ z : Mm, z = m_up M o 6 (M o1 6) := ⟨_, rfl⟩
  have hT := hT M13 eM13
  rw [← eM13] at h
  refine lv_aload_n hx hb dX2_copyFrom_8 rfl (lv_at hl 0 rfl) ?_
  refine lv_aload_n hx hb dX2_copyFrom_9 rfl (lv_at hl 1 rfl) ?_
  refine fx_getI X h (k := o1) (j := 7) (sc_Law o1 ho1) rfl fl_RX2_34 dX2_copyFrom_10 ?_
  refine fx_putI X h (k := o) (j := 7) (sc_Law o ho) rfl fl_RX2_34 dX2_copyFrom_13 (fun H locs h => ?_)
  obtain ⟨M14, eM14⟩ : ∃ z : Mm, z = m_up M13 o 7 (M13 o1 7) := ⟨_, rfl⟩
  have hT := hT M14 eM14
  rw [← eM14] at h
  refine lv_iconst (v := 0) hx hb dX2_copyFrom_16 (by decide) ?_
  refine lv_istore_n (lv' := [(2, .int (0 : Int32)), (0, .ref (G.2.2.2 + o)), (1, .ref (G.2.2.2 + o1))]) hx hb dX2_copyFrom_17 rfl hl (by decide) rfl (fun ls hl => ?_)
  exact w_X2_copyFrom_18 ho ho1 X hr hk 5000 (0 : Int32) M14 _ _ ls hT h (lv_sub hl [1, 2, 0] rfl)
/-! MockParcels$Law.operand(I)I -/
theorem dX2_operand_0 : decode cX2_operand 0 = .ok (.iload_n 1, 1) := by decide +kernel
theorem dX2_operand_1 : decode cX2_operand 1 = .ok (.sipush 10000, 3) := by decide +kernel
theorem dX2_operand_4 : decode cX2_operand 4 = .ok (.if_icmp .ge 5, 3) := by decide +kernel
theorem dX2_operand_7 : decode cX2_operand 7 = .ok (.iload_n 1, 1) := by decide +kernel
theorem dX2_operand_8 : decode cX2_operand 8 = .ok (.ireturn, 1) := by decide +kernel
theorem dX2_operand_9 : decode cX2_operand 9 = .ok (.iload_n 1, 1) := by decide +kernel
theorem dX2_operand_10 : decode cX2_operand 10 = .ok (.sipush 10000, 3) := by decide +kernel
theorem dX2_operand_13 : decode cX2_operand 13 = .ok (.isub, 1) := by decide +kernel
theorem dX2_operand_14 : decode cX2_operand 14 = .ok (.istore_n 2, 1) := by decide +kernel
theorem dX2_operand_15 : decode cX2_operand 15 = .ok (.iload_n 2, 1) := by decide +kernel
theorem dX2_operand_16 : decode cX2_operand 16 = .ok (.bipush 12, 2) := by decide +kernel
theorem dX2_operand_18 : decode cX2_operand 18 = .ok (.if_icmp .ge 12, 3) := by decide +kernel
theorem dX2_operand_21 : decode cX2_operand 21 = .ok (.aload_n 0, 1) := by decide +kernel
theorem dX2_operand_22 : decode cX2_operand 22 = .ok (.getfield 24, 3) := by decide +kernel
theorem dX2_operand_25 : decode cX2_operand 25 = .ok (.iload_n 2, 1) := by decide +kernel
theorem dX2_operand_26 : decode cX2_operand 26 = .ok (.iaload, 1) := by decide +kernel
theorem dX2_operand_27 : decode cX2_operand 27 = .ok (.goto 4, 3) := by decide +kernel
theorem dX2_operand_30 : decode cX2_operand 30 = .ok (.iconst 0, 1) := by decide +kernel
theorem dX2_operand_31 : decode cX2_operand 31 = .ok (.ireturn, 1) := by decide +kernel
def T_X2_operand (o : Nat) (x1 : Int32) (M : Mm) (K : Int32 → Mm → Prop) : Prop := (((10000 : Int32) ≤ x1 → (∀ y2 : Int32, y2 = (x1 - (10000 : Int32)) → (((12 : Int32) ≤ y2 → (K (0 : Int32) M)) ∧ (¬ (12 : Int32) ≤ y2 → (vp_in y2 12 ∧ (K (M (rf o 4) (y2).toNatClampNeg) M)))))) ∧ (¬ (10000 : Int32) ≤ x1 → (K x1 M)))
set_option maxHeartbeats 4000000 in
set_option maxRecDepth 100000 in
theorem c_X2_operand (l : Launch) (G : fx_G) {o : Nat} (ho : o ∈ id_Law) {x1 : Int32} {M : Mm} {K : Int32 → Mm → Prop} (hT : T_X2_operand o x1 M K) : Met l yX2_operand (fx_ws yX2_operand cX2_operand 3 (some .int)) (fx_rm (0)) (va_Pc [.ref (G.2.2.2 + o), .int x1] (fx_P G SH M)) (va_Qi K (fx_R G SH) (fx_A G)) 0 0 (fx_A G) := by
  refine fx_met (own := RX2) (by decide +kernel) rfl (Nat.le_of_ble_eq_true rfl) (fun p e s m below meth c X hr hk h ls hl => ?_)
  obtain ⟨⟨hx, hb, hml, hown, hts⟩, hK, hQ⟩ := id X
  have hl : lv_has ls 3 [(0, .ref (G.2.2.2 + o)), (1, .int x1)] := hl
  unfold T_X2_operand at hT
  refine lv_iload_n hx hb dX2_operand_0 rfl (lv_at hl 1 rfl) ?_
  refine lv_sipush (v := 10000) hx hb dX2_operand_1 (by decide) ?_
  refine lv_icmp_ge (tgt := 9) hx hb dX2_operand_4 (by decide) (fun hc1 => ?_) (fun hc1 => ?_)
  · have hT := hT.1 hc1
    refine lv_iload_n hx hb dX2_operand_9 rfl (lv_at hl 1 rfl) ?_
    refine lv_sipush (v := 10000) hx hb dX2_operand_10 (by decide) ?_
    refine lv_isub hx hb dX2_operand_13 ?_
    refine lv_topi (fun y2 ey2 => ?_)
    have hT := hT y2 ey2
    refine lv_istore_n (lv' := [(2, .int y2), (0, .ref (G.2.2.2 + o)), (1, .int x1)]) hx hb dX2_operand_14 rfl hl (by decide) rfl (fun ls hl => ?_)
    refine lv_iload_n hx hb dX2_operand_15 rfl (lv_at hl 0 rfl) ?_
    refine lv_bipush (v := 12) hx hb dX2_operand_16 (by decide) ?_
    refine lv_icmp_ge (tgt := 30) hx hb dX2_operand_18 (by decide) (fun hc3 => ?_) (fun hc3 => ?_)
    · have hT := hT.1 hc3
      refine lv_iconst (v := 0) hx hb dX2_operand_30 (by decide) ?_
      exact fx_iret X hr hk h hT dX2_operand_31
    · have hT := hT.2 hc3
      refine lv_aload_n hx hb dX2_operand_21 rfl (lv_at hl 1 rfl) ?_
      refine fx_getR X h (k := o) (j := 4) (r := (rf o 4)) (sc_Law o ho) rfl fl_RX2_24 dX2_operand_22 ?_
      refine lv_iload_n hx hb dX2_operand_25 rfl (lv_at hl 0 rfl) ?_
      obtain ⟨hi4, hT⟩ := hT
      refine fx_iald X h (k := (rf o 4)) (sa_Law_4 o ho) hi4 dX2_operand_26 ?_
      refine lv_goto (tgt := 31) hx hb dX2_operand_27 (by decide) ?_
      exact fx_iret X hr hk h hT dX2_operand_31
  · have hT := hT.2 hc1
    refine lv_iload_n hx hb dX2_operand_7 rfl (lv_at hl 1 rfl) ?_
    exact fx_iret X hr hk h hT dX2_operand_8
/-! MockParcels$Law.join(III)I -/
theorem dX2_join_0 : decode cX2_join 0 = .ok (.iload_n 1, 1) := by decide +kernel
theorem dX2_join_1 : decode cX2_join 1 = .ok (.lookupswitch 148 #[(42, 91), (43, 83), (45, 87), (47, 95), (60, 107), (61, 118), (62, 129), (260, 144), (261, 140)], 83) := by decide +kernel
theorem dX2_join_84 : decode cX2_join 84 = .ok (.iload_n 2, 1) := by decide +kernel
theorem dX2_join_85 : decode cX2_join 85 = .ok (.iload_n 3, 1) := by decide +kernel
theorem dX2_join_86 : decode cX2_join 86 = .ok (.iadd, 1) := by decide +kernel
theorem dX2_join_87 : decode cX2_join 87 = .ok (.ireturn, 1) := by decide +kernel
theorem dX2_join_88 : decode cX2_join 88 = .ok (.iload_n 2, 1) := by decide +kernel
theorem dX2_join_89 : decode cX2_join 89 = .ok (.iload_n 3, 1) := by decide +kernel
theorem dX2_join_90 : decode cX2_join 90 = .ok (.isub, 1) := by decide +kernel
theorem dX2_join_91 : decode cX2_join 91 = .ok (.ireturn, 1) := by decide +kernel
theorem dX2_join_92 : decode cX2_join 92 = .ok (.iload_n 2, 1) := by decide +kernel
theorem dX2_join_93 : decode cX2_join 93 = .ok (.iload_n 3, 1) := by decide +kernel
theorem dX2_join_94 : decode cX2_join 94 = .ok (.imul, 1) := by decide +kernel
theorem dX2_join_95 : decode cX2_join 95 = .ok (.ireturn, 1) := by decide +kernel
theorem dX2_join_96 : decode cX2_join 96 = .ok (.iload_n 3, 1) := by decide +kernel
theorem dX2_join_97 : decode cX2_join 97 = .ok (.ifCond .ne 7, 3) := by decide +kernel
theorem dX2_join_100 : decode cX2_join 100 = .ok (.iconst 0, 1) := by decide +kernel
theorem dX2_join_101 : decode cX2_join 101 = .ok (.goto 6, 3) := by decide +kernel
theorem dX2_join_104 : decode cX2_join 104 = .ok (.iload_n 2, 1) := by decide +kernel
theorem dX2_join_105 : decode cX2_join 105 = .ok (.iload_n 3, 1) := by decide +kernel
theorem dX2_join_106 : decode cX2_join 106 = .ok (.idiv, 1) := by decide +kernel
theorem dX2_join_107 : decode cX2_join 107 = .ok (.ireturn, 1) := by decide +kernel
theorem dX2_join_108 : decode cX2_join 108 = .ok (.iload_n 2, 1) := by decide +kernel
theorem dX2_join_109 : decode cX2_join 109 = .ok (.iload_n 3, 1) := by decide +kernel
theorem dX2_join_110 : decode cX2_join 110 = .ok (.if_icmp .ge 7, 3) := by decide +kernel
theorem dX2_join_113 : decode cX2_join 113 = .ok (.iconst 1, 1) := by decide +kernel
theorem dX2_join_114 : decode cX2_join 114 = .ok (.goto 4, 3) := by decide +kernel
theorem dX2_join_117 : decode cX2_join 117 = .ok (.iconst 0, 1) := by decide +kernel
theorem dX2_join_118 : decode cX2_join 118 = .ok (.ireturn, 1) := by decide +kernel
theorem dX2_join_119 : decode cX2_join 119 = .ok (.iload_n 2, 1) := by decide +kernel
theorem dX2_join_120 : decode cX2_join 120 = .ok (.iload_n 3, 1) := by decide +kernel
theorem dX2_join_121 : decode cX2_join 121 = .ok (.if_icmp .ne 7, 3) := by decide +kernel
theorem dX2_join_124 : decode cX2_join 124 = .ok (.iconst 1, 1) := by decide +kernel
theorem dX2_join_125 : decode cX2_join 125 = .ok (.goto 4, 3) := by decide +kernel
theorem dX2_join_128 : decode cX2_join 128 = .ok (.iconst 0, 1) := by decide +kernel
theorem dX2_join_129 : decode cX2_join 129 = .ok (.ireturn, 1) := by decide +kernel
theorem dX2_join_130 : decode cX2_join 130 = .ok (.iload_n 2, 1) := by decide +kernel
theorem dX2_join_131 : decode cX2_join 131 = .ok (.iload_n 3, 1) := by decide +kernel
theorem dX2_join_132 : decode cX2_join 132 = .ok (.if_icmp .le 7, 3) := by decide +kernel
theorem dX2_join_135 : decode cX2_join 135 = .ok (.iconst 1, 1) := by decide +kernel
theorem dX2_join_136 : decode cX2_join 136 = .ok (.goto 4, 3) := by decide +kernel
theorem dX2_join_139 : decode cX2_join 139 = .ok (.iconst 0, 1) := by decide +kernel
theorem dX2_join_140 : decode cX2_join 140 = .ok (.ireturn, 1) := by decide +kernel
theorem dX2_join_141 : decode cX2_join 141 = .ok (.iload_n 2, 1) := by decide +kernel
theorem dX2_join_142 : decode cX2_join 142 = .ok (.iload_n 3, 1) := by decide +kernel
theorem dX2_join_143 : decode cX2_join 143 = .ok (.iand, 1) := by decide +kernel
theorem dX2_join_144 : decode cX2_join 144 = .ok (.ireturn, 1) := by decide +kernel
theorem dX2_join_145 : decode cX2_join 145 = .ok (.iload_n 2, 1) := by decide +kernel
theorem dX2_join_146 : decode cX2_join 146 = .ok (.iload_n 3, 1) := by decide +kernel
theorem dX2_join_147 : decode cX2_join 147 = .ok (.ior, 1) := by decide +kernel
theorem dX2_join_148 : decode cX2_join 148 = .ok (.ireturn, 1) := by decide +kernel
theorem dX2_join_149 : decode cX2_join 149 = .ok (.iconst 0, 1) := by decide +kernel
theorem dX2_join_150 : decode cX2_join 150 = .ok (.ireturn, 1) := by decide +kernel
def T_X2_join (o : Nat) (x1 : Int32) (x2 : Int32) (x3 : Int32) (M : Mm) (K : Int32 → Mm → Prop) : Prop := ((x1 = (42 : Int32) → (K (x2 * x3) M)) ∧ (¬ x1 = (42 : Int32) → ((x1 = (43 : Int32) → (K (x2 + x3) M)) ∧ (¬ x1 = (43 : Int32) → ((x1 = (45 : Int32) → (K (x2 - x3) M)) ∧ (¬ x1 = (45 : Int32) → ((x1 = (47 : Int32) → ((x3 = 0 → (K (0 : Int32) M)) ∧ (¬ x3 = 0 → (¬ x3 = 0 ∧ (K (x2 / x3) M))))) ∧ (¬ x1 = (47 : Int32) → ((x1 = (60 : Int32) → ((x3 ≤ x2 → (K (0 : Int32) M)) ∧ (¬ x3 ≤ x2 → (K (1 : Int32) M)))) ∧ (¬ x1 = (60 : Int32) → ((x1 = (61 : Int32) → ((x2 = x3 → (K (1 : Int32) M)) ∧ (¬ x2 = x3 → (K (0 : Int32) M)))) ∧ (¬ x1 = (61 : Int32) → ((x1 = (62 : Int32) → ((x2 ≤ x3 → (K (0 : Int32) M)) ∧ (¬ x2 ≤ x3 → (K (1 : Int32) M)))) ∧ (¬ x1 = (62 : Int32) → ((x1 = (260 : Int32) → (K (x2 ||| x3) M)) ∧ (¬ x1 = (260 : Int32) → ((x1 = (261 : Int32) → (K (x2 &&& x3) M)) ∧ (¬ x1 = (261 : Int32) → (K (0 : Int32) M)))))))))))))))))))
set_option maxHeartbeats 4000000 in
set_option maxRecDepth 100000 in
theorem c_X2_join (l : Launch) (G : fx_G) {o : Nat} (ho : o ∈ id_Law) {x1 : Int32} {x2 : Int32} {x3 : Int32} {M : Mm} {K : Int32 → Mm → Prop} (hT : T_X2_join o x1 x2 x3 M K) : Met l yX2_join (fx_ws yX2_join cX2_join 4 (some .int)) (fx_rm (0)) (va_Pc [.ref (G.2.2.2 + o), .int x1, .int x2, .int x3] (fx_P G SH M)) (va_Qi K (fx_R G SH) (fx_A G)) 0 0 (fx_A G) := by
  refine fx_met (own := RX2) (by decide +kernel) rfl (Nat.le_of_ble_eq_true rfl) (fun p e s m below meth c X hr hk h ls hl => ?_)
  obtain ⟨⟨hx, hb, hml, hown, hts⟩, hK, hQ⟩ := id X
  have hl : lv_has ls 4 [(0, .ref (G.2.2.2 + o)), (1, .int x1), (2, .int x2), (3, .int x3)] := hl
  unfold T_X2_join at hT
  refine lv_iload_n hx hb dX2_join_0 rfl (lv_at hl 1 rfl) ?_
  by_cases hc1 : x1 = (42 : Int32)
  · have hT := hT.1 hc1
    refine lv_lookup (off := 91) (tgt := 92) hx hb dX2_join_1 (by decide) (by rw [hc1]; decide) (by decide) ?_
    refine lv_iload_n hx hb dX2_join_92 rfl (lv_at hl 2 rfl) ?_
    refine lv_iload_n hx hb dX2_join_93 rfl (lv_at hl 3 rfl) ?_
    refine lv_imul hx hb dX2_join_94 ?_
    exact fx_iret X hr hk h hT dX2_join_95
  have hT := hT.2 hc1
  by_cases hc2 : x1 = (43 : Int32)
  · have hT := hT.1 hc2
    refine lv_lookup (off := 83) (tgt := 84) hx hb dX2_join_1 (by decide) (by rw [hc2]; decide) (by decide) ?_
    refine lv_iload_n hx hb dX2_join_84 rfl (lv_at hl 2 rfl) ?_
    refine lv_iload_n hx hb dX2_join_85 rfl (lv_at hl 3 rfl) ?_
    refine lv_iadd hx hb dX2_join_86 ?_
    exact fx_iret X hr hk h hT dX2_join_87
  have hT := hT.2 hc2
  by_cases hc3 : x1 = (45 : Int32)
  · have hT := hT.1 hc3
    refine lv_lookup (off := 87) (tgt := 88) hx hb dX2_join_1 (by decide) (by rw [hc3]; decide) (by decide) ?_
    refine lv_iload_n hx hb dX2_join_88 rfl (lv_at hl 2 rfl) ?_
    refine lv_iload_n hx hb dX2_join_89 rfl (lv_at hl 3 rfl) ?_
    refine lv_isub hx hb dX2_join_90 ?_
    exact fx_iret X hr hk h hT dX2_join_91
  have hT := hT.2 hc3
  by_cases hc4 : x1 = (47 : Int32)
  · have hT := hT.1 hc4
    refine lv_lookup (off := 95) (tgt := 96) hx hb dX2_join_1 (by decide) (by rw [hc4]; decide) (by decide) ?_
    refine lv_iload_n hx hb dX2_join_96 rfl (lv_at hl 3 rfl) ?_
    refine lv_if_ne (tgt := 104) hx hb dX2_join_97 (by decide) (fun hc5 => ?_) (fun hc5 => ?_)
    · have hT := hT.2 hc5
      refine lv_iload_n hx hb dX2_join_104 rfl (lv_at hl 2 rfl) ?_
      refine lv_iload_n hx hb dX2_join_105 rfl (lv_at hl 3 rfl) ?_
      obtain ⟨hz6, hT⟩ := hT
      refine lv_idiv hx hb dX2_join_106 hz6 ?_
      exact fx_iret X hr hk h hT dX2_join_107
    · have hT := hT.1 hc5
      refine lv_iconst (v := 0) hx hb dX2_join_100 (by decide) ?_
      refine lv_goto (tgt := 107) hx hb dX2_join_101 (by decide) ?_
      exact fx_iret X hr hk h hT dX2_join_107
  have hT := hT.2 hc4
  by_cases hc7 : x1 = (60 : Int32)
  · have hT := hT.1 hc7
    refine lv_lookup (off := 107) (tgt := 108) hx hb dX2_join_1 (by decide) (by rw [hc7]; decide) (by decide) ?_
    refine lv_iload_n hx hb dX2_join_108 rfl (lv_at hl 2 rfl) ?_
    refine lv_iload_n hx hb dX2_join_109 rfl (lv_at hl 3 rfl) ?_
    refine lv_icmp_ge (tgt := 117) hx hb dX2_join_110 (by decide) (fun hc8 => ?_) (fun hc8 => ?_)
    · have hT := hT.1 hc8
      refine lv_iconst (v := 0) hx hb dX2_join_117 (by decide) ?_
      exact fx_iret X hr hk h hT dX2_join_118
    · have hT := hT.2 hc8
      refine lv_iconst (v := 1) hx hb dX2_join_113 (by decide) ?_
      refine lv_goto (tgt := 118) hx hb dX2_join_114 (by decide) ?_
      exact fx_iret X hr hk h hT dX2_join_118
  have hT := hT.2 hc7
  by_cases hc9 : x1 = (61 : Int32)
  · have hT := hT.1 hc9
    refine lv_lookup (off := 118) (tgt := 119) hx hb dX2_join_1 (by decide) (by rw [hc9]; decide) (by decide) ?_
    refine lv_iload_n hx hb dX2_join_119 rfl (lv_at hl 2 rfl) ?_
    refine lv_iload_n hx hb dX2_join_120 rfl (lv_at hl 3 rfl) ?_
    refine lv_icmp_ne (tgt := 128) hx hb dX2_join_121 (by decide) (fun hc10 => ?_) (fun hc10 => ?_)
    · have hT := hT.2 hc10
      refine lv_iconst (v := 0) hx hb dX2_join_128 (by decide) ?_
      exact fx_iret X hr hk h hT dX2_join_129
    · have hT := hT.1 hc10
      refine lv_iconst (v := 1) hx hb dX2_join_124 (by decide) ?_
      refine lv_goto (tgt := 129) hx hb dX2_join_125 (by decide) ?_
      exact fx_iret X hr hk h hT dX2_join_129
  have hT := hT.2 hc9
  by_cases hc11 : x1 = (62 : Int32)
  · have hT := hT.1 hc11
    refine lv_lookup (off := 129) (tgt := 130) hx hb dX2_join_1 (by decide) (by rw [hc11]; decide) (by decide) ?_
    refine lv_iload_n hx hb dX2_join_130 rfl (lv_at hl 2 rfl) ?_
    refine lv_iload_n hx hb dX2_join_131 rfl (lv_at hl 3 rfl) ?_
    refine lv_icmp_le (tgt := 139) hx hb dX2_join_132 (by decide) (fun hc12 => ?_) (fun hc12 => ?_)
    · have hT := hT.1 hc12
      refine lv_iconst (v := 0) hx hb dX2_join_139 (by decide) ?_
      exact fx_iret X hr hk h hT dX2_join_140
    · have hT := hT.2 hc12
      refine lv_iconst (v := 1) hx hb dX2_join_135 (by decide) ?_
      refine lv_goto (tgt := 140) hx hb dX2_join_136 (by decide) ?_
      exact fx_iret X hr hk h hT dX2_join_140
  have hT := hT.2 hc11
  by_cases hc13 : x1 = (260 : Int32)
  · have hT := hT.1 hc13
    refine lv_lookup (off := 144) (tgt := 145) hx hb dX2_join_1 (by decide) (by rw [hc13]; decide) (by decide) ?_
    refine lv_iload_n hx hb dX2_join_145 rfl (lv_at hl 2 rfl) ?_
    refine lv_iload_n hx hb dX2_join_146 rfl (lv_at hl 3 rfl) ?_
    refine lv_ior hx hb dX2_join_147 ?_
    exact fx_iret X hr hk h hT dX2_join_148
  have hT := hT.2 hc13
  by_cases hc14 : x1 = (261 : Int32)
  · have hT := hT.1 hc14
    refine lv_lookup (off := 140) (tgt := 141) hx hb dX2_join_1 (by decide) (by rw [hc14]; decide) (by decide) ?_
    refine lv_iload_n hx hb dX2_join_141 rfl (lv_at hl 2 rfl) ?_
    refine lv_iload_n hx hb dX2_join_142 rfl (lv_at hl 3 rfl) ?_
    refine lv_iand hx hb dX2_join_143 ?_
    exact fx_iret X hr hk h hT dX2_join_144
  have hT := hT.2 hc14
  have khc1 : ¬ (x1).toInt = 42 := fun q => hc1 (Int32.toInt_inj.mp (q.trans (by decide)))
  have jhc1 : ¬ 42 = (x1).toInt := fun q => khc1 q.symm
  have khc2 : ¬ (x1).toInt = 43 := fun q => hc2 (Int32.toInt_inj.mp (q.trans (by decide)))
  have jhc2 : ¬ 43 = (x1).toInt := fun q => khc2 q.symm
  have khc3 : ¬ (x1).toInt = 45 := fun q => hc3 (Int32.toInt_inj.mp (q.trans (by decide)))
  have jhc3 : ¬ 45 = (x1).toInt := fun q => khc3 q.symm
  have khc4 : ¬ (x1).toInt = 47 := fun q => hc4 (Int32.toInt_inj.mp (q.trans (by decide)))
  have jhc4 : ¬ 47 = (x1).toInt := fun q => khc4 q.symm
  have khc7 : ¬ (x1).toInt = 60 := fun q => hc7 (Int32.toInt_inj.mp (q.trans (by decide)))
  have jhc7 : ¬ 60 = (x1).toInt := fun q => khc7 q.symm
  have khc9 : ¬ (x1).toInt = 61 := fun q => hc9 (Int32.toInt_inj.mp (q.trans (by decide)))
  have jhc9 : ¬ 61 = (x1).toInt := fun q => khc9 q.symm
  have khc11 : ¬ (x1).toInt = 62 := fun q => hc11 (Int32.toInt_inj.mp (q.trans (by decide)))
  have jhc11 : ¬ 62 = (x1).toInt := fun q => khc11 q.symm
  have khc13 : ¬ (x1).toInt = 260 := fun q => hc13 (Int32.toInt_inj.mp (q.trans (by decide)))
  have jhc13 : ¬ 260 = (x1).toInt := fun q => khc13 q.symm
  have khc14 : ¬ (x1).toInt = 261 := fun q => hc14 (Int32.toInt_inj.mp (q.trans (by decide)))
  have jhc14 : ¬ 261 = (x1).toInt := fun q => khc14 q.symm
  refine lv_lookup (off := 148) (tgt := 149) hx hb dX2_join_1 (by decide) (by simp [Op.lookupswitch.offset, khc1, jhc1, khc2, jhc2, khc3, jhc3, khc4, jhc4, khc7, jhc7, khc9, jhc9, khc11, jhc11, khc13, jhc13, khc14, jhc14]) (by decide) ?_
  refine lv_iconst (v := 0) hx hb dX2_join_149 (by decide) ?_
  exact fx_iret X hr hk h hT dX2_join_150
/-! MockParcels$Law.reckon(II)I -/
theorem dX2_reckon_0 : decode cX2_reckon 0 = .ok (.iconst 0, 1) := by decide +kernel
theorem dX2_reckon_1 : decode cX2_reckon 1 = .ok (.istore_n 3, 1) := by decide +kernel
theorem dX2_reckon_2 : decode cX2_reckon 2 = .ok (.iconst 0, 1) := by decide +kernel
theorem dX2_reckon_3 : decode cX2_reckon 3 = .ok (.iload_n 1, 1) := by decide +kernel
theorem dX2_reckon_4 : decode cX2_reckon 4 = .ok (.invokestatic 57, 3) := by decide +kernel
theorem dX2_reckon_7 : decode cX2_reckon 7 = .ok (.istore 4, 2) := by decide +kernel
theorem dX2_reckon_9 : decode cX2_reckon 9 = .ok (.iload 4, 2) := by decide +kernel
theorem dX2_reckon_11 : decode cX2_reckon 11 = .ok (.iload_n 2, 1) := by decide +kernel
theorem dX2_reckon_12 : decode cX2_reckon 12 = .ok (.if_icmp .ge 131, 3) := by decide +kernel
theorem dX2_reckon_15 : decode cX2_reckon 15 = .ok (.iload 4, 2) := by decide +kernel
theorem dX2_reckon_17 : decode cX2_reckon 17 = .ok (.sipush 400, 3) := by decide +kernel
theorem dX2_reckon_20 : decode cX2_reckon 20 = .ok (.if_icmp .ge 123, 3) := by decide +kernel
theorem dX2_reckon_23 : decode cX2_reckon 23 = .ok (.aload_n 0, 1) := by decide +kernel
theorem dX2_reckon_24 : decode cX2_reckon 24 = .ok (.getfield 9, 3) := by decide +kernel
theorem dX2_reckon_27 : decode cX2_reckon 27 = .ok (.iload 4, 2) := by decide +kernel
theorem dX2_reckon_29 : decode cX2_reckon 29 = .ok (.iaload, 1) := by decide +kernel
theorem dX2_reckon_30 : decode cX2_reckon 30 = .ok (.istore 5, 2) := by decide +kernel
theorem dX2_reckon_32 : decode cX2_reckon 32 = .ok (.iload 5, 2) := by decide +kernel
theorem dX2_reckon_34 : decode cX2_reckon 34 = .ok (.sipush 20000, 3) := by decide +kernel
theorem dX2_reckon_37 : decode cX2_reckon 37 = .ok (.if_icmp .ge 27, 3) := by decide +kernel
theorem dX2_reckon_40 : decode cX2_reckon 40 = .ok (.iload_n 3, 1) := by decide +kernel
theorem dX2_reckon_41 : decode cX2_reckon 41 = .ok (.bipush 32, 2) := by decide +kernel
theorem dX2_reckon_43 : decode cX2_reckon 43 = .ok (.if_icmp .ge 94, 3) := by decide +kernel
theorem dX2_reckon_46 : decode cX2_reckon 46 = .ok (.aload_n 0, 1) := by decide +kernel
theorem dX2_reckon_47 : decode cX2_reckon 47 = .ok (.getfield 27, 3) := by decide +kernel
theorem dX2_reckon_50 : decode cX2_reckon 50 = .ok (.iload_n 3, 1) := by decide +kernel
theorem dX2_reckon_51 : decode cX2_reckon 51 = .ok (.aload_n 0, 1) := by decide +kernel
theorem dX2_reckon_52 : decode cX2_reckon 52 = .ok (.iload 5, 2) := by decide +kernel
theorem dX2_reckon_54 : decode cX2_reckon 54 = .ok (.invokevirtual 60, 3) := by decide +kernel
theorem dX2_reckon_57 : decode cX2_reckon 57 = .ok (.iastore, 1) := by decide +kernel
theorem dX2_reckon_58 : decode cX2_reckon 58 = .ok (.iinc 3 1, 3) := by decide +kernel
theorem dX2_reckon_61 : decode cX2_reckon 61 = .ok (.goto 76, 3) := by decide +kernel
theorem dX2_reckon_64 : decode cX2_reckon 64 = .ok (.iload 5, 2) := by decide +kernel
theorem dX2_reckon_66 : decode cX2_reckon 66 = .ok (.sipush 20262, 3) := by decide +kernel
theorem dX2_reckon_69 : decode cX2_reckon 69 = .ok (.if_icmp .ne 28, 3) := by decide +kernel
theorem dX2_reckon_72 : decode cX2_reckon 72 = .ok (.iload_n 3, 1) := by decide +kernel
theorem dX2_reckon_73 : decode cX2_reckon 73 = .ok (.ifCond .le 64, 3) := by decide +kernel
theorem dX2_reckon_76 : decode cX2_reckon 76 = .ok (.aload_n 0, 1) := by decide +kernel
theorem dX2_reckon_77 : decode cX2_reckon 77 = .ok (.getfield 27, 3) := by decide +kernel
theorem dX2_reckon_80 : decode cX2_reckon 80 = .ok (.iload_n 3, 1) := by decide +kernel
theorem dX2_reckon_81 : decode cX2_reckon 81 = .ok (.iconst 1, 1) := by decide +kernel
theorem dX2_reckon_82 : decode cX2_reckon 82 = .ok (.isub, 1) := by decide +kernel
theorem dX2_reckon_83 : decode cX2_reckon 83 = .ok (.iconst 1, 1) := by decide +kernel
theorem dX2_reckon_84 : decode cX2_reckon 84 = .ok (.aload_n 0, 1) := by decide +kernel
theorem dX2_reckon_85 : decode cX2_reckon 85 = .ok (.getfield 27, 3) := by decide +kernel
theorem dX2_reckon_88 : decode cX2_reckon 88 = .ok (.iload_n 3, 1) := by decide +kernel
theorem dX2_reckon_89 : decode cX2_reckon 89 = .ok (.iconst 1, 1) := by decide +kernel
theorem dX2_reckon_90 : decode cX2_reckon 90 = .ok (.isub, 1) := by decide +kernel
theorem dX2_reckon_91 : decode cX2_reckon 91 = .ok (.iaload, 1) := by decide +kernel
theorem dX2_reckon_92 : decode cX2_reckon 92 = .ok (.isub, 1) := by decide +kernel
theorem dX2_reckon_93 : decode cX2_reckon 93 = .ok (.iastore, 1) := by decide +kernel
theorem dX2_reckon_94 : decode cX2_reckon 94 = .ok (.goto 43, 3) := by decide +kernel
theorem dX2_reckon_97 : decode cX2_reckon 97 = .ok (.iload_n 3, 1) := by decide +kernel
theorem dX2_reckon_98 : decode cX2_reckon 98 = .ok (.iconst 1, 1) := by decide +kernel
theorem dX2_reckon_99 : decode cX2_reckon 99 = .ok (.if_icmp .le 38, 3) := by decide +kernel
theorem dX2_reckon_102 : decode cX2_reckon 102 = .ok (.iinc 3 (-1), 3) := by decide +kernel
theorem dX2_reckon_105 : decode cX2_reckon 105 = .ok (.aload_n 0, 1) := by decide +kernel
theorem dX2_reckon_106 : decode cX2_reckon 106 = .ok (.getfield 27, 3) := by decide +kernel
theorem dX2_reckon_109 : decode cX2_reckon 109 = .ok (.iload_n 3, 1) := by decide +kernel
theorem dX2_reckon_110 : decode cX2_reckon 110 = .ok (.iconst 1, 1) := by decide +kernel
theorem dX2_reckon_111 : decode cX2_reckon 111 = .ok (.isub, 1) := by decide +kernel
theorem dX2_reckon_112 : decode cX2_reckon 112 = .ok (.aload_n 0, 1) := by decide +kernel
theorem dX2_reckon_113 : decode cX2_reckon 113 = .ok (.iload 5, 2) := by decide +kernel
theorem dX2_reckon_115 : decode cX2_reckon 115 = .ok (.sipush 20000, 3) := by decide +kernel
theorem dX2_reckon_118 : decode cX2_reckon 118 = .ok (.isub, 1) := by decide +kernel
theorem dX2_reckon_119 : decode cX2_reckon 119 = .ok (.aload_n 0, 1) := by decide +kernel
theorem dX2_reckon_120 : decode cX2_reckon 120 = .ok (.getfield 27, 3) := by decide +kernel
theorem dX2_reckon_123 : decode cX2_reckon 123 = .ok (.iload_n 3, 1) := by decide +kernel
theorem dX2_reckon_124 : decode cX2_reckon 124 = .ok (.iconst 1, 1) := by decide +kernel
theorem dX2_reckon_125 : decode cX2_reckon 125 = .ok (.isub, 1) := by decide +kernel
theorem dX2_reckon_126 : decode cX2_reckon 126 = .ok (.iaload, 1) := by decide +kernel
theorem dX2_reckon_127 : decode cX2_reckon 127 = .ok (.aload_n 0, 1) := by decide +kernel
theorem dX2_reckon_128 : decode cX2_reckon 128 = .ok (.getfield 27, 3) := by decide +kernel
theorem dX2_reckon_131 : decode cX2_reckon 131 = .ok (.iload_n 3, 1) := by decide +kernel
theorem dX2_reckon_132 : decode cX2_reckon 132 = .ok (.iaload, 1) := by decide +kernel
theorem dX2_reckon_133 : decode cX2_reckon 133 = .ok (.invokevirtual 63, 3) := by decide +kernel
theorem dX2_reckon_136 : decode cX2_reckon 136 = .ok (.iastore, 1) := by decide +kernel
theorem dX2_reckon_137 : decode cX2_reckon 137 = .ok (.iinc 4 1, 3) := by decide +kernel
theorem dX2_reckon_140 : decode cX2_reckon 140 = .ok (.goto (-131), 3) := by decide +kernel
theorem dX2_reckon_143 : decode cX2_reckon 143 = .ok (.iload_n 3, 1) := by decide +kernel
theorem dX2_reckon_144 : decode cX2_reckon 144 = .ok (.ifCond .le 14, 3) := by decide +kernel
theorem dX2_reckon_147 : decode cX2_reckon 147 = .ok (.aload_n 0, 1) := by decide +kernel
theorem dX2_reckon_148 : decode cX2_reckon 148 = .ok (.getfield 27, 3) := by decide +kernel
theorem dX2_reckon_151 : decode cX2_reckon 151 = .ok (.iload_n 3, 1) := by decide +kernel
theorem dX2_reckon_152 : decode cX2_reckon 152 = .ok (.iconst 1, 1) := by decide +kernel
theorem dX2_reckon_153 : decode cX2_reckon 153 = .ok (.isub, 1) := by decide +kernel
theorem dX2_reckon_154 : decode cX2_reckon 154 = .ok (.iaload, 1) := by decide +kernel
theorem dX2_reckon_155 : decode cX2_reckon 155 = .ok (.goto 4, 3) := by decide +kernel
theorem dX2_reckon_158 : decode cX2_reckon 158 = .ok (.iconst 0, 1) := by decide +kernel
theorem dX2_reckon_159 : decode cX2_reckon 159 = .ok (.ireturn, 1) := by decide +kernel
def T_X2_reckon_143 (o : Nat) (x3 : Int32) (M : Mm) (K : Int32 → Mm → Prop) : Prop := ((x3 ≤ 0 → (K (0 : Int32) M)) ∧ (¬ x3 ≤ 0 → (vp_in (x3 - (1 : Int32)) 32 ∧ (K (M (rf o 5) ((x3 - (1 : Int32))).toNatClampNeg) M))))
set_option maxHeartbeats 4000000 in
set_option maxRecDepth 100000 in
theorem w_X2_reckon_143 {p : Program} {l : Launch} {e : Env} {s : State} {m : MethodId} {args : Array Value} {below : List Frame} {meth : Method} {c : Code} {G : fx_G} {K : Int32 → Mm → Prop} {o : Nat} (ho : o ∈ id_Law) (X : fx_C G p s m c args cX2_reckon 6 RX2) (hr : meth.sig.returnType = (some .int)) (hk : meth.locks = false) : ∀ (x3 : Int32) (M : Mm) (H : Heap) (locs : List Loc) (ls : Array Slot), T_X2_reckon_143 o x3 M K → fx_H G SH M s H locs → lv_has ls 6 [(0, .ref (G.2.2.2 + o)), (3, .int x3)] → W p l e (fx_rm (1)) s m args below meth c H locs 0 0 (MQ below (va_Qi K (fx_R G SH) (fx_A G)) args s 0 0 (fx_A G)) (F0 m 143 ls []) := by
  obtain ⟨⟨hx, hb, hml, hown, hts⟩, hK, hQ⟩ := id X
  intro x3 M H locs ls hT h hl
  unfold T_X2_reckon_143 at hT
  refine lv_iload_n hx hb dX2_reckon_143 rfl (lv_at hl 1 rfl) ?_
  refine lv_if_le (tgt := 158) hx hb dX2_reckon_144 (by decide) (fun hc1 => ?_) (fun hc1 => ?_)
  · have hT := hT.1 hc1
    refine lv_iconst (v := 0) hx hb dX2_reckon_158 (by decide) ?_
    exact fx_iret X hr hk h hT dX2_reckon_159
  · have hT := hT.2 hc1
    refine lv_aload_n hx hb dX2_reckon_147 rfl (lv_at hl 0 rfl) ?_
    refine fx_getR X h (k := o) (j := 5) (r := (rf o 5)) (sc_Law o ho) rfl fl_RX2_27 dX2_reckon_148 ?_
    refine lv_iload_n hx hb dX2_reckon_151 rfl (lv_at hl 1 rfl) ?_
    refine lv_iconst (v := 1) hx hb dX2_reckon_152 (by decide) ?_
    refine lv_isub hx hb dX2_reckon_153 ?_
    obtain ⟨hi2, hT⟩ := hT
    refine fx_iald X h (k := (rf o 5)) (sa_Law_5 o ho) hi2 dX2_reckon_154 ?_
    refine lv_goto (tgt := 159) hx hb dX2_reckon_155 (by decide) ?_
    exact fx_iret X hr hk h hT dX2_reckon_159
def T_X2_reckon_137 (B9 : Int32 → Int32 → Int32 → Mm → Prop) (o : Nat) (x2 : Int32) (x3 : Int32) (x4 : Int32) (M : Mm) (K : Int32 → Mm → Prop) : Prop := (∀ y3 : Int32, y3 = x4 + (1 : Int32) → (B9 x2 x3 y3 M))
set_option maxHeartbeats 4000000 in
set_option maxRecDepth 100000 in
theorem w_X2_reckon_137 {p : Program} {l : Launch} {e : Env} {s : State} {m : MethodId} {args : Array Value} {below : List Frame} {meth : Method} {c : Code} {G : fx_G} {K : Int32 → Mm → Prop} {B9 : Int32 → Int32 → Int32 → Mm → Prop} {o : Nat} (ho : o ∈ id_Law) (X : fx_C G p s m c args cX2_reckon 6 RX2) (hr : meth.sig.returnType = (some .int)) (hk : meth.locks = false) (hB9 : ∀ (x2 : Int32) (x3 : Int32) (x4 : Int32) (M : Mm) (H : Heap) (locs : List Loc) (ls : Array Slot), B9 x2 x3 x4 M → fx_H G SH M s H locs → lv_has ls 6 [(0, .ref (G.2.2.2 + o)), (2, .int x2), (3, .int x3), (4, .int x4)] → W p l e (fx_rm (1)) s m args below meth c H locs 0 0 (MQ below (va_Qi K (fx_R G SH) (fx_A G)) args s 0 0 (fx_A G)) (F0 m 9 ls [])) : ∀ (x2 : Int32) (x3 : Int32) (x4 : Int32) (M : Mm) (H : Heap) (locs : List Loc) (ls : Array Slot), T_X2_reckon_137 B9 o x2 x3 x4 M K → fx_H G SH M s H locs → lv_has ls 6 [(0, .ref (G.2.2.2 + o)), (2, .int x2), (3, .int x3), (4, .int x4)] → W p l e (fx_rm (1)) s m args below meth c H locs 0 0 (MQ below (va_Qi K (fx_R G SH) (fx_A G)) args s 0 0 (fx_A G)) (F0 m 137 ls []) := by
  obtain ⟨⟨hx, hb, hml, hown, hts⟩, hK, hQ⟩ := id X
  intro x2 x3 x4 M H locs ls hT h hl
  unfold T_X2_reckon_137 at hT
  obtain ⟨y3, ey3⟩ : ∃ z : Int32, z = x4 + (1 : Int32) := ⟨_, rfl⟩
  have hT := hT y3 ey3
  refine lv_iinc (v := y3) (lv' := [(4, .int y3), (0, .ref (G.2.2.2 + o)), (2, .int x2), (3, .int x3)]) hx hb dX2_reckon_137 hl (k := 3) rfl (by rw [ey3]; rfl) (by decide) rfl (fun ls hl => ?_)
  refine lv_goto (tgt := 9) hx hb dX2_reckon_140 (by decide) ?_
  exact hB9 x2 x3 y3 M _ _ ls hT h (lv_sub hl [1, 2, 3, 0] rfl)
def T_X2_reckon_9 (o : Nat) : Nat → Int32 → Int32 → Int32 → Mm → (Int32 → Mm → Prop) → Prop
  | 0, _, _, _, _, _ => False
  | n + 1, x2, x3, x4, M, K => ((x2 ≤ x4 → (T_X2_reckon_143 o x3 M K)) ∧ (¬ x2 ≤ x4 → (((400 : Int32) ≤ x4 → (T_X2_reckon_143 o x3 M K)) ∧ (¬ (400 : Int32) ≤ x4 → (vp_in x4 400 ∧ (∀ y7 : Int32, y7 = (M (rf o 0) (x4).toNatClampNeg) → (((20000 : Int32) ≤ y7 → ((y7 = (20262 : Int32) → ((x3 ≤ 0 → (T_X2_reckon_137 (fun x2 x3 x4 M => T_X2_reckon_9 o n x2 x3 x4 M K) o x2 x3 x4 M K)) ∧ (¬ x3 ≤ 0 → (vp_in (x3 - (1 : Int32)) 32 ∧ (vp_in (x3 - (1 : Int32)) 32 ∧ (∀ M21 : Mm, M21 = m_up M (rf o 5) ((x3 - (1 : Int32))).toNatClampNeg ((1 : Int32) - (M (rf o 5) ((x3 - (1 : Int32))).toNatClampNeg)) → (T_X2_reckon_137 (fun x2 x3 x4 M => T_X2_reckon_9 o n x2 x3 x4 M K) o x2 x3 x4 M21 K))))))) ∧ (¬ y7 = (20262 : Int32) → ((x3 ≤ (1 : Int32) → (T_X2_reckon_137 (fun x2 x3 x4 M => T_X2_reckon_9 o n x2 x3 x4 M K) o x2 x3 x4 M K)) ∧ (¬ x3 ≤ (1 : Int32) → (∀ y11 : Int32, y11 = x3 + (-1 : Int32) → (vp_in (y11 - (1 : Int32)) 32 ∧ (vp_in y11 32 ∧ (T_X2_join o (y7 - (20000 : Int32)) (M (rf o 5) ((y11 - (1 : Int32))).toNatClampNeg) (M (rf o 5) (y11).toNatClampNeg) M (fun r16 M15 => (vp_in (y11 - (1 : Int32)) 32 ∧ (∀ M17 : Mm, M17 = m_up M15 (rf o 5) ((y11 - (1 : Int32))).toNatClampNeg r16 → (T_X2_reckon_137 (fun x2 x3 x4 M => T_X2_reckon_9 o n x2 x3 x4 M K) o x2 y11 x4 M17 K))))))))))))) ∧ (¬ (20000 : Int32) ≤ y7 → (((32 : Int32) ≤ x3 → (T_X2_reckon_137 (fun x2 x3 x4 M => T_X2_reckon_9 o n x2 x3 x4 M K) o x2 x3 x4 M K)) ∧ (¬ (32 : Int32) ≤ x3 → (T_X2_operand o y7 M (fun r26 M25 => (vp_in x3 32 ∧ (∀ M27 : Mm, M27 = m_up M25 (rf o 5) (x3).toNatClampNeg r26 → (∀ y29 : Int32, y29 = x3 + (1 : Int32) → (T_X2_reckon_137 (fun x2 x3 x4 M => T_X2_reckon_9 o n x2 x3 x4 M K) o x2 y29 x4 M27 K))))))))))))))))
set_option maxHeartbeats 4000000 in
set_option maxRecDepth 100000 in
theorem w_X2_reckon_9 {p : Program} {l : Launch} {e : Env} {s : State} {m : MethodId} {args : Array Value} {below : List Frame} {meth : Method} {c : Code} {G : fx_G} {K : Int32 → Mm → Prop} {o : Nat} (ho : o ∈ id_Law) (X : fx_C G p s m c args cX2_reckon 6 RX2) (hr : meth.sig.returnType = (some .int)) (hk : meth.locks = false) : ∀ (n : Nat) (x2 : Int32) (x3 : Int32) (x4 : Int32) (M : Mm) (H : Heap) (locs : List Loc) (ls : Array Slot), T_X2_reckon_9 o n x2 x3 x4 M K → fx_H G SH M s H locs → lv_has ls 6 [(0, .ref (G.2.2.2 + o)), (2, .int x2), (3, .int x3), (4, .int x4)] → W p l e (fx_rm (1)) s m args below meth c H locs 0 0 (MQ below (va_Qi K (fx_R G SH) (fx_A G)) args s 0 0 (fx_A G)) (F0 m 9 ls []) := by
  obtain ⟨⟨hx, hb, hml, hown, hts⟩, hK, hQ⟩ := id X
  intro n
  induction n with
  | zero =>
    intro x2 x3 x4 M H locs ls hT
    exact hT.elim
  | succ n ih =>
    intro x2 x3 x4 M H locs ls hT h hl
    rw [T_X2_reckon_9] at hT
    refine lv_iload hx hb dX2_reckon_9 (lv_at hl 3 rfl) ?_
    refine lv_iload_n hx hb dX2_reckon_11 rfl (lv_at hl 1 rfl) ?_
    refine lv_icmp_ge (tgt := 143) hx hb dX2_reckon_12 (by decide) (fun hc4 => ?_) (fun hc4 => ?_)
    · have hT := hT.1 hc4
      exact w_X2_reckon_143 ho X hr hk x3 M _ _ ls hT h (lv_sub hl [0, 2] rfl)
    · have hT := hT.2 hc4
      refine lv_iload hx hb dX2_reckon_15 (lv_at hl 3 rfl) ?_
      refine lv_sipush (v := 400) hx hb dX2_reckon_17 (by decide) ?_
      refine lv_icmp_ge (tgt := 143) hx hb dX2_reckon_20 (by decide) (fun hc5 => ?_) (fun hc5 => ?_)
      · have hT := hT.1 hc5
        exact w_X2_reckon_143 ho X hr hk x3 M _ _ ls hT h (lv_sub hl [0, 2] rfl)
      · have hT := hT.2 hc5
        refine lv_aload_n hx hb dX2_reckon_23 rfl (lv_at hl 0 rfl) ?_
        refine fx_getR X h (k := o) (j := 0) (r := (rf o 0)) (sc_Law o ho) rfl fl_RX2_9 dX2_reckon_24 ?_
        refine lv_iload hx hb dX2_reckon_27 (lv_at hl 3 rfl) ?_
        obtain ⟨hi6, hT⟩ := hT
        refine fx_iald X h (k := (rf o 0)) (sa_Law_0 o ho) hi6 dX2_reckon_29 ?_
        refine lv_topi (fun y7 ey7 => ?_)
        have hT := hT y7 ey7
        refine lv_istore (lv' := [(5, .int y7), (0, .ref (G.2.2.2 + o)), (2, .int x2), (3, .int x3), (4, .int x4)]) hx hb dX2_reckon_30 hl (by decide) rfl (fun ls hl => ?_)
        refine lv_iload hx hb dX2_reckon_32 (lv_at hl 0 rfl) ?_
        refine lv_sipush (v := 20000) hx hb dX2_reckon_34 (by decide) ?_
        refine lv_icmp_ge (tgt := 64) hx hb dX2_reckon_37 (by decide) (fun hc8 => ?_) (fun hc8 => ?_)
        · have hT := hT.1 hc8
          refine lv_iload hx hb dX2_reckon_64 (lv_at hl 0 rfl) ?_
          refine lv_sipush (v := 20262) hx hb dX2_reckon_66 (by decide) ?_
          refine lv_icmp_ne (tgt := 97) hx hb dX2_reckon_69 (by decide) (fun hc9 => ?_) (fun hc9 => ?_)
          · have hT := hT.2 hc9
            refine lv_iload_n hx hb dX2_reckon_97 rfl (lv_at hl 3 rfl) ?_
            refine lv_iconst (v := 1) hx hb dX2_reckon_98 (by decide) ?_
            refine lv_icmp_le (tgt := 137) hx hb dX2_reckon_99 (by decide) (fun hc10 => ?_) (fun hc10 => ?_)
            · have hT := hT.1 hc10
              exact w_X2_reckon_137 ho X hr hk (B9 := (fun x2 x3 x4 M => T_X2_reckon_9 o n x2 x3 x4 M K)) ih x2 x3 x4 M _ _ ls hT h (lv_sub hl [1, 2, 3, 4] rfl)
            · have hT := hT.2 hc10
              obtain ⟨y11, ey11⟩ : ∃ z : Int32, z = x3 + (-1 : Int32) := ⟨_, rfl⟩
              have hT := hT y11 ey11
              refine lv_iinc (v := y11) (lv' := [(3, .int y11), (5, .int y7), (0, .ref (G.2.2.2 + o)), (2, .int x2), (4, .int x4)]) hx hb dX2_reckon_102 hl (k := 3) rfl (by rw [ey11]; rfl) (by decide) rfl (fun ls hl => ?_)
              refine lv_aload_n hx hb dX2_reckon_105 rfl (lv_at hl 2 rfl) ?_
              refine fx_getR X h (k := o) (j := 5) (r := (rf o 5)) (sc_Law o ho) rfl fl_RX2_27 dX2_reckon_106 ?_
              refine lv_iload_n hx hb dX2_reckon_109 rfl (lv_at hl 0 rfl) ?_
              refine lv_iconst (v := 1) hx hb dX2_reckon_110 (by decide) ?_
              refine lv_isub hx hb dX2_reckon_111 ?_
              refine lv_aload_n hx hb dX2_reckon_112 rfl (lv_at hl 2 rfl) ?_
              refine lv_iload hx hb dX2_reckon_113 (lv_at hl 1 rfl) ?_
              refine lv_sipush (v := 20000) hx hb dX2_reckon_115 (by decide) ?_
              refine lv_isub hx hb dX2_reckon_118 ?_
              refine lv_aload_n hx hb dX2_reckon_119 rfl (lv_at hl 2 rfl) ?_
              refine fx_getR X h (k := o) (j := 5) (r := (rf o 5)) (sc_Law o ho) rfl fl_RX2_27 dX2_reckon_120 ?_
              refine lv_iload_n hx hb dX2_reckon_123 rfl (lv_at hl 0 rfl) ?_
              refine lv_iconst (v := 1) hx hb dX2_reckon_124 (by decide) ?_
              refine lv_isub hx hb dX2_reckon_125 ?_
              obtain ⟨hi12, hT⟩ := hT
              refine fx_iald X h (k := (rf o 5)) (sa_Law_5 o ho) hi12 dX2_reckon_126 ?_
              refine lv_aload_n hx hb dX2_reckon_127 rfl (lv_at hl 2 rfl) ?_
              refine fx_getR X h (k := o) (j := 5) (r := (rf o 5)) (sc_Law o ho) rfl fl_RX2_27 dX2_reckon_128 ?_
              refine lv_iload_n hx hb dX2_reckon_131 rfl (lv_at hl 0 rfl) ?_
              obtain ⟨hi13, hT⟩ := hT
              refine fx_iald X h (k := (rf o 5)) (sa_Law_5 o ho) hi13 dX2_reckon_132 ?_
              refine fx_vi X h ym_X2_join yi_X2_join ys_X2_join (fx_s3 (List.mem_of_getElem? (i := 156) rfl) rfl) (sc_Law o ho) rfl (c_X2_join l G ho hT) (As := [.int (y7 - (20000 : Int32)), .int (M (rf o 5) ((y11 - (1 : Int32))).toNatClampNeg), .int (M (rf o 5) (y11).toNatClampNeg)]) (rest := [.int (y11 - (1 : Int32)), .ref (G.2.2.2 + (rf o 5))]) rfl rfl ⟨Nat.le_of_ble_eq_true rfl, Nat.le_of_ble_eq_true rfl⟩ ⟨Nat.le_refl _, Nat.le_refl _⟩ hl.1 (Nat.le_of_ble_eq_true rfl) dX2_reckon_133 (fun r16 M15 H locs hT h => ?_)
              obtain ⟨hi18, hT⟩ := hT
              refine fx_iast X h (k := (rf o 5)) (sa_Law_5 o ho) hi18 dX2_reckon_136 (fun H locs h => ?_)
              obtain ⟨M17, eM17⟩ : ∃ z : Mm, z = m_up M15 (rf o 5) ((y11 - (1 : Int32))).toNatClampNeg r16 := ⟨_, rfl⟩
              have hT := hT M17 eM17
              rw [← eM17] at h
              exact w_X2_reckon_137 ho X hr hk (B9 := (fun x2 x3 x4 M => T_X2_reckon_9 o n x2 x3 x4 M K)) ih x2 y11 x4 M17 _ _ ls hT h (lv_sub hl [2, 3, 0, 4] rfl)
          · have hT := hT.1 hc9
            refine lv_iload_n hx hb dX2_reckon_72 rfl (lv_at hl 3 rfl) ?_
            refine lv_if_le (tgt := 137) hx hb dX2_reckon_73 (by decide) (fun hc19 => ?_) (fun hc19 => ?_)
            · have hT := hT.1 hc19
              exact w_X2_reckon_137 ho X hr hk (B9 := (fun x2 x3 x4 M => T_X2_reckon_9 o n x2 x3 x4 M K)) ih x2 x3 x4 M _ _ ls hT h (lv_sub hl [1, 2, 3, 4] rfl)
            · have hT := hT.2 hc19
              refine lv_aload_n hx hb dX2_reckon_76 rfl (lv_at hl 1 rfl) ?_
              refine fx_getR X h (k := o) (j := 5) (r := (rf o 5)) (sc_Law o ho) rfl fl_RX2_27 dX2_reckon_77 ?_
              refine lv_iload_n hx hb dX2_reckon_80 rfl (lv_at hl 3 rfl) ?_
              refine lv_iconst (v := 1) hx hb dX2_reckon_81 (by decide) ?_
              refine lv_isub hx hb dX2_reckon_82 ?_
              refine lv_iconst (v := 1) hx hb dX2_reckon_83 (by decide) ?_
              refine lv_aload_n hx hb dX2_reckon_84 rfl (lv_at hl 1 rfl) ?_
              refine fx_getR X h (k := o) (j := 5) (r := (rf o 5)) (sc_Law o ho) rfl fl_RX2_27 dX2_reckon_85 ?_
              refine lv_iload_n hx hb dX2_reckon_88 rfl (lv_at hl 3 rfl) ?_
              refine lv_iconst (v := 1) hx hb dX2_reckon_89 (by decide) ?_
              refine lv_isub hx hb dX2_reckon_90 ?_
              obtain ⟨hi20, hT⟩ := hT
              refine fx_iald X h (k := (rf o 5)) (sa_Law_5 o ho) hi20 dX2_reckon_91 ?_
              refine lv_isub hx hb dX2_reckon_92 ?_
              obtain ⟨hi22, hT⟩ := hT
              refine fx_iast X h (k := (rf o 5)) (sa_Law_5 o ho) hi22 dX2_reckon_93 (fun H locs h => ?_)
              obtain ⟨M21, eM21⟩ : ∃ z : Mm, z = m_up M (rf o 5) ((x3 - (1 : Int32))).toNatClampNeg ((1 : Int32) - (M (rf o 5) ((x3 - (1 : Int32))).toNatClampNeg)) := ⟨_, rfl⟩
              have hT := hT M21 eM21
              rw [← eM21] at h
              refine lv_goto (tgt := 137) hx hb dX2_reckon_94 (by decide) ?_
              exact w_X2_reckon_137 ho X hr hk (B9 := (fun x2 x3 x4 M => T_X2_reckon_9 o n x2 x3 x4 M K)) ih x2 x3 x4 M21 _ _ ls hT h (lv_sub hl [1, 2, 3, 4] rfl)
        · have hT := hT.2 hc8
          refine lv_iload_n hx hb dX2_reckon_40 rfl (lv_at hl 3 rfl) ?_
          refine lv_bipush (v := 32) hx hb dX2_reckon_41 (by decide) ?_
          refine lv_icmp_ge (tgt := 137) hx hb dX2_reckon_43 (by decide) (fun hc23 => ?_) (fun hc23 => ?_)
          · have hT := hT.1 hc23
            exact w_X2_reckon_137 ho X hr hk (B9 := (fun x2 x3 x4 M => T_X2_reckon_9 o n x2 x3 x4 M K)) ih x2 x3 x4 M _ _ ls hT h (lv_sub hl [1, 2, 3, 4] rfl)
          · have hT := hT.2 hc23
            refine lv_aload_n hx hb dX2_reckon_46 rfl (lv_at hl 1 rfl) ?_
            refine fx_getR X h (k := o) (j := 5) (r := (rf o 5)) (sc_Law o ho) rfl fl_RX2_27 dX2_reckon_47 ?_
            refine lv_iload_n hx hb dX2_reckon_50 rfl (lv_at hl 3 rfl) ?_
            refine lv_aload_n hx hb dX2_reckon_51 rfl (lv_at hl 1 rfl) ?_
            refine lv_iload hx hb dX2_reckon_52 (lv_at hl 0 rfl) ?_
            refine fx_vi X h ym_X2_operand yi_X2_operand ys_X2_operand (fx_s3 (List.mem_of_getElem? (i := 152) rfl) rfl) (sc_Law o ho) rfl (c_X2_operand l G ho hT) (As := [.int y7]) (rest := [.int x3, .ref (G.2.2.2 + (rf o 5))]) rfl rfl ⟨Nat.le_of_ble_eq_true rfl, Nat.le_of_ble_eq_true rfl⟩ ⟨Nat.le_refl _, Nat.le_refl _⟩ hl.1 (Nat.le_of_ble_eq_true rfl) dX2_reckon_54 (fun r26 M25 H locs hT h => ?_)
            obtain ⟨hi28, hT⟩ := hT
            refine fx_iast X h (k := (rf o 5)) (sa_Law_5 o ho) hi28 dX2_reckon_57 (fun H locs h => ?_)
            obtain ⟨M27, eM27⟩ : ∃ z : Mm, z = m_up M25 (rf o 5) (x3).toNatClampNeg r26 := ⟨_, rfl⟩
            have hT := hT M27 eM27
            rw [← eM27] at h
            obtain ⟨y29, ey29⟩ : ∃ z : Int32, z = x3 + (1 : Int32) := ⟨_, rfl⟩
            have hT := hT y29 ey29
            refine lv_iinc (v := y29) (lv' := [(3, .int y29), (5, .int y7), (0, .ref (G.2.2.2 + o)), (2, .int x2), (4, .int x4)]) hx hb dX2_reckon_58 hl (k := 3) rfl (by rw [ey29]; rfl) (by decide) rfl (fun ls hl => ?_)
            refine lv_goto (tgt := 137) hx hb dX2_reckon_61 (by decide) ?_
            exact w_X2_reckon_137 ho X hr hk (B9 := (fun x2 x3 x4 M => T_X2_reckon_9 o n x2 x3 x4 M K)) ih x2 y29 x4 M27 _ _ ls hT h (lv_sub hl [2, 3, 0, 4] rfl)
def T_X2_reckon (o : Nat) (x1 : Int32) (x2 : Int32) (M : Mm) (K : Int32 → Mm → Prop) : Prop := (∀ y30 : Int32, y30 = (if (0 : Int32) < x1 then x1 else (0 : Int32)) → (T_X2_reckon_9 o 5000 x2 (0 : Int32) y30 M K))
set_option maxHeartbeats 4000000 in
set_option maxRecDepth 100000 in
theorem c_X2_reckon (l : Launch) (G : fx_G) {o : Nat} (ho : o ∈ id_Law) {x1 : Int32} {x2 : Int32} {M : Mm} {K : Int32 → Mm → Prop} (hT : T_X2_reckon o x1 x2 M K) : Met l yX2_reckon (fx_ws yX2_reckon cX2_reckon 6 (some .int)) (fx_rm (1)) (va_Pc [.ref (G.2.2.2 + o), .int x1, .int x2] (fx_P G SH M)) (va_Qi K (fx_R G SH) (fx_A G)) 0 0 (fx_A G) := by
  refine fx_met (own := RX2) (by decide +kernel) rfl (Nat.le_of_ble_eq_true rfl) (fun p e s m below meth c X hr hk h ls hl => ?_)
  obtain ⟨⟨hx, hb, hml, hown, hts⟩, hK, hQ⟩ := id X
  have hl : lv_has ls 6 [(0, .ref (G.2.2.2 + o)), (1, .int x1), (2, .int x2)] := hl
  unfold T_X2_reckon at hT
  refine lv_iconst (v := 0) hx hb dX2_reckon_0 (by decide) ?_
  refine lv_istore_n (lv' := [(3, .int (0 : Int32)), (0, .ref (G.2.2.2 + o)), (1, .int x1), (2, .int x2)]) hx hb dX2_reckon_1 rfl hl (by decide) rfl (fun ls hl => ?_)
  refine lv_iconst (v := 0) hx hb dX2_reckon_2 (by decide) ?_
  refine lv_iload_n hx hb dX2_reckon_3 rfl (lv_at hl 2 rfl) ?_
  refine va_mmax hx hb (hml.trans hl.1.symm) hown (hts _ (fx_s3 (List.mem_of_getElem? (i := 149) rfl) rfl)) (hts _ mt_max_s) (hts _ mt_i) (hts _ mt_max_c) (Nat.le_of_ble_eq_true rfl) (Nat.le_of_ble_eq_true rfl) (Nat.le_refl _) (Nat.le_refl _) dX2_reckon_4 ?_
  refine lv_topi (fun y30 ey30 => ?_)
  have hT := hT y30 ey30
  refine lv_istore (lv' := [(4, .int y30), (3, .int (0 : Int32)), (0, .ref (G.2.2.2 + o)), (1, .int x1), (2, .int x2)]) hx hb dX2_reckon_7 hl (by decide) rfl (fun ls hl => ?_)
  exact w_X2_reckon_9 ho X hr hk 5000 x2 (0 : Int32) y30 M _ _ ls hT h (lv_sub hl [2, 4, 1, 0] rfl)
/-! MockParcels$Law.held(II)I -/
theorem dX2_held_0 : decode cX2_held 0 = .ok (.iload_n 1, 1) := by decide +kernel
theorem dX2_held_1 : decode cX2_held 1 = .ok (.sipush 257, 3) := by decide +kernel
theorem dX2_held_4 : decode cX2_held 4 = .ok (.if_icmp .ne 16, 3) := by decide +kernel
theorem dX2_held_7 : decode cX2_held 7 = .ok (.iconst 1, 1) := by decide +kernel
theorem dX2_held_8 : decode cX2_held 8 = .ok (.bipush 99, 2) := by decide +kernel
theorem dX2_held_10 : decode cX2_held 10 = .ok (.iload_n 2, 1) := by decide +kernel
theorem dX2_held_11 : decode cX2_held 11 = .ok (.invokestatic 52, 3) := by decide +kernel
theorem dX2_held_14 : decode cX2_held 14 = .ok (.invokestatic 57, 3) := by decide +kernel
theorem dX2_held_17 : decode cX2_held 17 = .ok (.goto 14, 3) := by decide +kernel
theorem dX2_held_20 : decode cX2_held 20 = .ok (.iconst 0, 1) := by decide +kernel
theorem dX2_held_21 : decode cX2_held 21 = .ok (.sipush 1000, 3) := by decide +kernel
theorem dX2_held_24 : decode cX2_held 24 = .ok (.iload_n 2, 1) := by decide +kernel
theorem dX2_held_25 : decode cX2_held 25 = .ok (.invokestatic 52, 3) := by decide +kernel
theorem dX2_held_28 : decode cX2_held 28 = .ok (.invokestatic 57, 3) := by decide +kernel
theorem dX2_held_31 : decode cX2_held 31 = .ok (.ireturn, 1) := by decide +kernel
def T_X2_held (o : Nat) (x1 : Int32) (x2 : Int32) (M : Mm) (K : Int32 → Mm → Prop) : Prop := ((x1 = (257 : Int32) → (K (if (1 : Int32) < (if x2 < (99 : Int32) then x2 else (99 : Int32)) then (if x2 < (99 : Int32) then x2 else (99 : Int32)) else (1 : Int32)) M)) ∧ (¬ x1 = (257 : Int32) → (K (if (0 : Int32) < (if x2 < (1000 : Int32) then x2 else (1000 : Int32)) then (if x2 < (1000 : Int32) then x2 else (1000 : Int32)) else (0 : Int32)) M)))
set_option maxHeartbeats 4000000 in
set_option maxRecDepth 100000 in
theorem c_X2_held (l : Launch) (G : fx_G) {o : Nat} (ho : o ∈ id_Law) {x1 : Int32} {x2 : Int32} {M : Mm} {K : Int32 → Mm → Prop} (hT : T_X2_held o x1 x2 M K) : Met l yX2_held (fx_ws yX2_held cX2_held 3 (some .int)) (fx_rm (1)) (va_Pc [.ref (G.2.2.2 + o), .int x1, .int x2] (fx_P G SH M)) (va_Qi K (fx_R G SH) (fx_A G)) 0 0 (fx_A G) := by
  refine fx_met (own := RX2) (by decide +kernel) rfl (Nat.le_of_ble_eq_true rfl) (fun p e s m below meth c X hr hk h ls hl => ?_)
  obtain ⟨⟨hx, hb, hml, hown, hts⟩, hK, hQ⟩ := id X
  have hl : lv_has ls 3 [(0, .ref (G.2.2.2 + o)), (1, .int x1), (2, .int x2)] := hl
  unfold T_X2_held at hT
  refine lv_iload_n hx hb dX2_held_0 rfl (lv_at hl 1 rfl) ?_
  refine lv_sipush (v := 257) hx hb dX2_held_1 (by decide) ?_
  refine lv_icmp_ne (tgt := 20) hx hb dX2_held_4 (by decide) (fun hc1 => ?_) (fun hc1 => ?_)
  · have hT := hT.2 hc1
    refine lv_iconst (v := 0) hx hb dX2_held_20 (by decide) ?_
    refine lv_sipush (v := 1000) hx hb dX2_held_21 (by decide) ?_
    refine lv_iload_n hx hb dX2_held_24 rfl (lv_at hl 2 rfl) ?_
    refine va_mmin hx hb (hml.trans hl.1.symm) hown (hts _ (fx_s3 (List.mem_of_getElem? (i := 164) rfl) rfl)) (hts _ mt_min_s) (hts _ mt_i) (hts _ mt_min_c) (Nat.le_of_ble_eq_true rfl) (Nat.le_of_ble_eq_true rfl) (Nat.le_refl _) (Nat.le_refl _) dX2_held_25 ?_
    refine va_mmax hx hb (hml.trans hl.1.symm) hown (hts _ (fx_s3 (List.mem_of_getElem? (i := 149) rfl) rfl)) (hts _ mt_max_s) (hts _ mt_i) (hts _ mt_max_c) (Nat.le_of_ble_eq_true rfl) (Nat.le_of_ble_eq_true rfl) (Nat.le_refl _) (Nat.le_refl _) dX2_held_28 ?_
    exact fx_iret X hr hk h hT dX2_held_31
  · have hT := hT.1 hc1
    refine lv_iconst (v := 1) hx hb dX2_held_7 (by decide) ?_
    refine lv_bipush (v := 99) hx hb dX2_held_8 (by decide) ?_
    refine lv_iload_n hx hb dX2_held_10 rfl (lv_at hl 2 rfl) ?_
    refine va_mmin hx hb (hml.trans hl.1.symm) hown (hts _ (fx_s3 (List.mem_of_getElem? (i := 164) rfl) rfl)) (hts _ mt_min_s) (hts _ mt_i) (hts _ mt_min_c) (Nat.le_of_ble_eq_true rfl) (Nat.le_of_ble_eq_true rfl) (Nat.le_refl _) (Nat.le_refl _) dX2_held_11 ?_
    refine va_mmax hx hb (hml.trans hl.1.symm) hown (hts _ (fx_s3 (List.mem_of_getElem? (i := 149) rfl) rfl)) (hts _ mt_max_s) (hts _ mt_i) (hts _ mt_max_c) (Nat.le_of_ble_eq_true rfl) (Nat.le_of_ble_eq_true rfl) (Nat.le_refl _) (Nat.le_refl _) dX2_held_14 ?_
    refine lv_goto (tgt := 31) hx hb dX2_held_17 (by decide) ?_
    exact fx_iret X hr hk h hT dX2_held_31
/-! MockParcels$Law.untold(I)I -/
theorem dX2_untold_0 : decode cX2_untold 0 = .ok (.iload_n 1, 1) := by decide +kernel
theorem dX2_untold_1 : decode cX2_untold 1 = .ok (.sipush 256, 3) := by decide +kernel
theorem dX2_untold_4 : decode cX2_untold 4 = .ok (.if_icmp .ne 28, 3) := by decide +kernel
theorem dX2_untold_7 : decode cX2_untold 7 = .ok (.sipush 600, 3) := by decide +kernel
theorem dX2_untold_10 : decode cX2_untold 10 = .ok (.bipush 50, 2) := by decide +kernel
theorem dX2_untold_12 : decode cX2_untold 12 = .ok (.aload_n 0, 1) := by decide +kernel
theorem dX2_untold_13 : decode cX2_untold 13 = .ok (.getfield 24, 3) := by decide +kernel
theorem dX2_untold_16 : decode cX2_untold 16 = .ok (.iconst 3, 1) := by decide +kernel
theorem dX2_untold_17 : decode cX2_untold 17 = .ok (.iaload, 1) := by decide +kernel
theorem dX2_untold_18 : decode cX2_untold 18 = .ok (.imul, 1) := by decide +kernel
theorem dX2_untold_19 : decode cX2_untold 19 = .ok (.isub, 1) := by decide +kernel
theorem dX2_untold_20 : decode cX2_untold 20 = .ok (.bipush 10, 2) := by decide +kernel
theorem dX2_untold_22 : decode cX2_untold 22 = .ok (.aload_n 0, 1) := by decide +kernel
theorem dX2_untold_23 : decode cX2_untold 23 = .ok (.getfield 24, 3) := by decide +kernel
theorem dX2_untold_26 : decode cX2_untold 26 = .ok (.bipush 6, 2) := by decide +kernel
theorem dX2_untold_28 : decode cX2_untold 28 = .ok (.iaload, 1) := by decide +kernel
theorem dX2_untold_29 : decode cX2_untold 29 = .ok (.imul, 1) := by decide +kernel
theorem dX2_untold_30 : decode cX2_untold 30 = .ok (.isub, 1) := by decide +kernel
theorem dX2_untold_31 : decode cX2_untold 31 = .ok (.ireturn, 1) := by decide +kernel
theorem dX2_untold_32 : decode cX2_untold 32 = .ok (.iload_n 1, 1) := by decide +kernel
theorem dX2_untold_33 : decode cX2_untold 33 = .ok (.sipush 257, 3) := by decide +kernel
theorem dX2_untold_36 : decode cX2_untold 36 = .ok (.if_icmp .ne 14, 3) := by decide +kernel
theorem dX2_untold_39 : decode cX2_untold 39 = .ok (.iconst 1, 1) := by decide +kernel
theorem dX2_untold_40 : decode cX2_untold 40 = .ok (.aload_n 0, 1) := by decide +kernel
theorem dX2_untold_41 : decode cX2_untold 41 = .ok (.getfield 24, 3) := by decide +kernel
theorem dX2_untold_44 : decode cX2_untold 44 = .ok (.iconst 4, 1) := by decide +kernel
theorem dX2_untold_45 : decode cX2_untold 45 = .ok (.iaload, 1) := by decide +kernel
theorem dX2_untold_46 : decode cX2_untold 46 = .ok (.iadd, 1) := by decide +kernel
theorem dX2_untold_47 : decode cX2_untold 47 = .ok (.goto 12, 3) := by decide +kernel
theorem dX2_untold_50 : decode cX2_untold 50 = .ok (.bipush 100, 2) := by decide +kernel
theorem dX2_untold_52 : decode cX2_untold 52 = .ok (.aload_n 0, 1) := by decide +kernel
theorem dX2_untold_53 : decode cX2_untold 53 = .ok (.getfield 24, 3) := by decide +kernel
theorem dX2_untold_56 : decode cX2_untold 56 = .ok (.iconst 1, 1) := by decide +kernel
theorem dX2_untold_57 : decode cX2_untold 57 = .ok (.iaload, 1) := by decide +kernel
theorem dX2_untold_58 : decode cX2_untold 58 = .ok (.imul, 1) := by decide +kernel
theorem dX2_untold_59 : decode cX2_untold 59 = .ok (.ireturn, 1) := by decide +kernel
def T_X2_untold (o : Nat) (x1 : Int32) (M : Mm) (K : Int32 → Mm → Prop) : Prop := ((x1 = (256 : Int32) → (K (((600 : Int32) - ((50 : Int32) * (M (rf o 4) 3))) - ((10 : Int32) * (M (rf o 4) 6))) M)) ∧ (¬ x1 = (256 : Int32) → ((x1 = (257 : Int32) → (K ((1 : Int32) + (M (rf o 4) 4)) M)) ∧ (¬ x1 = (257 : Int32) → (K ((100 : Int32) * (M (rf o 4) 1)) M)))))
set_option maxHeartbeats 4000000 in
set_option maxRecDepth 100000 in
theorem c_X2_untold (l : Launch) (G : fx_G) {o : Nat} (ho : o ∈ id_Law) {x1 : Int32} {M : Mm} {K : Int32 → Mm → Prop} (hT : T_X2_untold o x1 M K) : Met l yX2_untold (fx_ws yX2_untold cX2_untold 2 (some .int)) (fx_rm (0)) (va_Pc [.ref (G.2.2.2 + o), .int x1] (fx_P G SH M)) (va_Qi K (fx_R G SH) (fx_A G)) 0 0 (fx_A G) := by
  refine fx_met (own := RX2) (by decide +kernel) rfl (Nat.le_of_ble_eq_true rfl) (fun p e s m below meth c X hr hk h ls hl => ?_)
  obtain ⟨⟨hx, hb, hml, hown, hts⟩, hK, hQ⟩ := id X
  have hl : lv_has ls 2 [(0, .ref (G.2.2.2 + o)), (1, .int x1)] := hl
  unfold T_X2_untold at hT
  refine lv_iload_n hx hb dX2_untold_0 rfl (lv_at hl 1 rfl) ?_
  refine lv_sipush (v := 256) hx hb dX2_untold_1 (by decide) ?_
  refine lv_icmp_ne (tgt := 32) hx hb dX2_untold_4 (by decide) (fun hc1 => ?_) (fun hc1 => ?_)
  · have hT := hT.2 hc1
    refine lv_iload_n hx hb dX2_untold_32 rfl (lv_at hl 1 rfl) ?_
    refine lv_sipush (v := 257) hx hb dX2_untold_33 (by decide) ?_
    refine lv_icmp_ne (tgt := 50) hx hb dX2_untold_36 (by decide) (fun hc2 => ?_) (fun hc2 => ?_)
    · have hT := hT.2 hc2
      refine lv_bipush (v := 100) hx hb dX2_untold_50 (by decide) ?_
      refine lv_aload_n hx hb dX2_untold_52 rfl (lv_at hl 0 rfl) ?_
      refine fx_getR X h (k := o) (j := 4) (r := (rf o 4)) (sc_Law o ho) rfl fl_RX2_24 dX2_untold_53 ?_
      refine lv_iconst (v := 1) hx hb dX2_untold_56 (by decide) ?_
      refine fx_iald X h (k := (rf o 4)) (sa_Law_4 o ho) (by unfold vp_in; decide) dX2_untold_57 ?_
      rw [show ((1 : Int32)).toNatClampNeg = 1 by decide]
      refine lv_imul hx hb dX2_untold_58 ?_
      exact fx_iret X hr hk h hT dX2_untold_59
    · have hT := hT.1 hc2
      refine lv_iconst (v := 1) hx hb dX2_untold_39 (by decide) ?_
      refine lv_aload_n hx hb dX2_untold_40 rfl (lv_at hl 0 rfl) ?_
      refine fx_getR X h (k := o) (j := 4) (r := (rf o 4)) (sc_Law o ho) rfl fl_RX2_24 dX2_untold_41 ?_
      refine lv_iconst (v := 4) hx hb dX2_untold_44 (by decide) ?_
      refine fx_iald X h (k := (rf o 4)) (sa_Law_4 o ho) (by unfold vp_in; decide) dX2_untold_45 ?_
      rw [show ((4 : Int32)).toNatClampNeg = 4 by decide]
      refine lv_iadd hx hb dX2_untold_46 ?_
      refine lv_goto (tgt := 59) hx hb dX2_untold_47 (by decide) ?_
      exact fx_iret X hr hk h hT dX2_untold_59
  · have hT := hT.1 hc1
    refine lv_sipush (v := 600) hx hb dX2_untold_7 (by decide) ?_
    refine lv_bipush (v := 50) hx hb dX2_untold_10 (by decide) ?_
    refine lv_aload_n hx hb dX2_untold_12 rfl (lv_at hl 0 rfl) ?_
    refine fx_getR X h (k := o) (j := 4) (r := (rf o 4)) (sc_Law o ho) rfl fl_RX2_24 dX2_untold_13 ?_
    refine lv_iconst (v := 3) hx hb dX2_untold_16 (by decide) ?_
    refine fx_iald X h (k := (rf o 4)) (sa_Law_4 o ho) (by unfold vp_in; decide) dX2_untold_17 ?_
    rw [show ((3 : Int32)).toNatClampNeg = 3 by decide]
    refine lv_imul hx hb dX2_untold_18 ?_
    refine lv_isub hx hb dX2_untold_19 ?_
    refine lv_bipush (v := 10) hx hb dX2_untold_20 (by decide) ?_
    refine lv_aload_n hx hb dX2_untold_22 rfl (lv_at hl 0 rfl) ?_
    refine fx_getR X h (k := o) (j := 4) (r := (rf o 4)) (sc_Law o ho) rfl fl_RX2_24 dX2_untold_23 ?_
    refine lv_bipush (v := 6) hx hb dX2_untold_26 (by decide) ?_
    refine fx_iald X h (k := (rf o 4)) (sa_Law_4 o ho) (by unfold vp_in; decide) dX2_untold_28 ?_
    rw [show ((6 : Int32)).toNatClampNeg = 6 by decide]
    refine lv_imul hx hb dX2_untold_29 ?_
    refine lv_isub hx hb dX2_untold_30 ?_
    exact fx_iret X hr hk h hT dX2_untold_31
/-! MockParcels$Law.tell(I)I -/
theorem dX2_tell_0 : decode cX2_tell 0 = .ok (.iconst 0, 1) := by decide +kernel
theorem dX2_tell_1 : decode cX2_tell 1 = .ok (.istore_n 2, 1) := by decide +kernel
theorem dX2_tell_2 : decode cX2_tell 2 = .ok (.iconst 0, 1) := by decide +kernel
theorem dX2_tell_3 : decode cX2_tell 3 = .ok (.istore_n 3, 1) := by decide +kernel
theorem dX2_tell_4 : decode cX2_tell 4 = .ok (.iload_n 3, 1) := by decide +kernel
theorem dX2_tell_5 : decode cX2_tell 5 = .ok (.aload_n 0, 1) := by decide +kernel
theorem dX2_tell_6 : decode cX2_tell 6 = .ok (.getfield 34, 3) := by decide +kernel
theorem dX2_tell_9 : decode cX2_tell 9 = .ok (.if_icmp .ge 83, 3) := by decide +kernel
theorem dX2_tell_12 : decode cX2_tell 12 = .ok (.iload_n 3, 1) := by decide +kernel
theorem dX2_tell_13 : decode cX2_tell 13 = .ok (.bipush 16, 2) := by decide +kernel
theorem dX2_tell_15 : decode cX2_tell 15 = .ok (.if_icmp .ge 77, 3) := by decide +kernel
theorem dX2_tell_18 : decode cX2_tell 18 = .ok (.aload_n 0, 1) := by decide +kernel
theorem dX2_tell_19 : decode cX2_tell 19 = .ok (.getfield 15, 3) := by decide +kernel
theorem dX2_tell_22 : decode cX2_tell 22 = .ok (.iload_n 3, 1) := by decide +kernel
theorem dX2_tell_23 : decode cX2_tell 23 = .ok (.iaload, 1) := by decide +kernel
theorem dX2_tell_24 : decode cX2_tell 24 = .ok (.iload_n 1, 1) := by decide +kernel
theorem dX2_tell_25 : decode cX2_tell 25 = .ok (.if_icmp .ne 54, 3) := by decide +kernel
theorem dX2_tell_28 : decode cX2_tell 28 = .ok (.aload_n 0, 1) := by decide +kernel
theorem dX2_tell_29 : decode cX2_tell 29 = .ok (.getfield 18, 3) := by decide +kernel
theorem dX2_tell_32 : decode cX2_tell 32 = .ok (.iload_n 3, 1) := by decide +kernel
theorem dX2_tell_33 : decode cX2_tell 33 = .ok (.iaload, 1) := by decide +kernel
theorem dX2_tell_34 : decode cX2_tell 34 = .ok (.aload_n 0, 1) := by decide +kernel
theorem dX2_tell_35 : decode cX2_tell 35 = .ok (.getfield 21, 3) := by decide +kernel
theorem dX2_tell_38 : decode cX2_tell 38 = .ok (.iload_n 3, 1) := by decide +kernel
theorem dX2_tell_39 : decode cX2_tell 39 = .ok (.iaload, 1) := by decide +kernel
theorem dX2_tell_40 : decode cX2_tell 40 = .ok (.if_icmp .eq 22, 3) := by decide +kernel
theorem dX2_tell_43 : decode cX2_tell 43 = .ok (.aload_n 0, 1) := by decide +kernel
theorem dX2_tell_44 : decode cX2_tell 44 = .ok (.aload_n 0, 1) := by decide +kernel
theorem dX2_tell_45 : decode cX2_tell 45 = .ok (.getfield 18, 3) := by decide +kernel
theorem dX2_tell_48 : decode cX2_tell 48 = .ok (.iload_n 3, 1) := by decide +kernel
theorem dX2_tell_49 : decode cX2_tell 49 = .ok (.iaload, 1) := by decide +kernel
theorem dX2_tell_50 : decode cX2_tell 50 = .ok (.aload_n 0, 1) := by decide +kernel
theorem dX2_tell_51 : decode cX2_tell 51 = .ok (.getfield 21, 3) := by decide +kernel
theorem dX2_tell_54 : decode cX2_tell 54 = .ok (.iload_n 3, 1) := by decide +kernel
theorem dX2_tell_55 : decode cX2_tell 55 = .ok (.iaload, 1) := by decide +kernel
theorem dX2_tell_56 : decode cX2_tell 56 = .ok (.invokevirtual 41, 3) := by decide +kernel
theorem dX2_tell_59 : decode cX2_tell 59 = .ok (.ifCond .eq 20, 3) := by decide +kernel
theorem dX2_tell_62 : decode cX2_tell 62 = .ok (.aload_n 0, 1) := by decide +kernel
theorem dX2_tell_63 : decode cX2_tell 63 = .ok (.iload_n 1, 1) := by decide +kernel
theorem dX2_tell_64 : decode cX2_tell 64 = .ok (.aload_n 0, 1) := by decide +kernel
theorem dX2_tell_65 : decode cX2_tell 65 = .ok (.iload_n 2, 1) := by decide +kernel
theorem dX2_tell_66 : decode cX2_tell 66 = .ok (.aload_n 0, 1) := by decide +kernel
theorem dX2_tell_67 : decode cX2_tell 67 = .ok (.getfield 18, 3) := by decide +kernel
theorem dX2_tell_70 : decode cX2_tell 70 = .ok (.iload_n 3, 1) := by decide +kernel
theorem dX2_tell_71 : decode cX2_tell 71 = .ok (.iaload, 1) := by decide +kernel
theorem dX2_tell_72 : decode cX2_tell 72 = .ok (.invokevirtual 41, 3) := by decide +kernel
theorem dX2_tell_75 : decode cX2_tell 75 = .ok (.invokevirtual 45, 3) := by decide +kernel
theorem dX2_tell_78 : decode cX2_tell 78 = .ok (.ireturn, 1) := by decide +kernel
theorem dX2_tell_79 : decode cX2_tell 79 = .ok (.aload_n 0, 1) := by decide +kernel
theorem dX2_tell_80 : decode cX2_tell 80 = .ok (.getfield 21, 3) := by decide +kernel
theorem dX2_tell_83 : decode cX2_tell 83 = .ok (.iload_n 3, 1) := by decide +kernel
theorem dX2_tell_84 : decode cX2_tell 84 = .ok (.iaload, 1) := by decide +kernel
theorem dX2_tell_85 : decode cX2_tell 85 = .ok (.istore_n 2, 1) := by decide +kernel
theorem dX2_tell_86 : decode cX2_tell 86 = .ok (.iinc 3 1, 3) := by decide +kernel
theorem dX2_tell_89 : decode cX2_tell 89 = .ok (.goto (-85), 3) := by decide +kernel
theorem dX2_tell_92 : decode cX2_tell 92 = .ok (.aload_n 0, 1) := by decide +kernel
theorem dX2_tell_93 : decode cX2_tell 93 = .ok (.iload_n 1, 1) := by decide +kernel
theorem dX2_tell_94 : decode cX2_tell 94 = .ok (.aload_n 0, 1) := by decide +kernel
theorem dX2_tell_95 : decode cX2_tell 95 = .ok (.iload_n 1, 1) := by decide +kernel
theorem dX2_tell_96 : decode cX2_tell 96 = .ok (.invokevirtual 48, 3) := by decide +kernel
theorem dX2_tell_99 : decode cX2_tell 99 = .ok (.invokevirtual 45, 3) := by decide +kernel
theorem dX2_tell_102 : decode cX2_tell 102 = .ok (.ireturn, 1) := by decide +kernel
def T_X2_tell_92 (o : Nat) (x1 : Int32) (M : Mm) (K : Int32 → Mm → Prop) : Prop := (T_X2_untold o x1 M (fun r3 M2 => (T_X2_held o x1 r3 M2 (fun r6 M5 => (K r6 M5)))))
set_option maxHeartbeats 4000000 in
set_option maxRecDepth 100000 in
theorem w_X2_tell_92 {p : Program} {l : Launch} {e : Env} {s : State} {m : MethodId} {args : Array Value} {below : List Frame} {meth : Method} {c : Code} {G : fx_G} {K : Int32 → Mm → Prop} {o : Nat} (ho : o ∈ id_Law) (X : fx_C G p s m c args cX2_tell 4 RX2) (hr : meth.sig.returnType = (some .int)) (hk : meth.locks = false) : ∀ (x1 : Int32) (M : Mm) (H : Heap) (locs : List Loc) (ls : Array Slot), T_X2_tell_92 o x1 M K → fx_H G SH M s H locs → lv_has ls 4 [(0, .ref (G.2.2.2 + o)), (1, .int x1)] → W p l e (fx_rm (2)) s m args below meth c H locs 0 0 (MQ below (va_Qi K (fx_R G SH) (fx_A G)) args s 0 0 (fx_A G)) (F0 m 92 ls []) := by
  obtain ⟨⟨hx, hb, hml, hown, hts⟩, hK, hQ⟩ := id X
  intro x1 M H locs ls hT h hl
  unfold T_X2_tell_92 at hT
  refine lv_aload_n hx hb dX2_tell_92 rfl (lv_at hl 0 rfl) ?_
  refine lv_iload_n hx hb dX2_tell_93 rfl (lv_at hl 1 rfl) ?_
  refine lv_aload_n hx hb dX2_tell_94 rfl (lv_at hl 0 rfl) ?_
  refine lv_iload_n hx hb dX2_tell_95 rfl (lv_at hl 1 rfl) ?_
  refine fx_vi X h ym_X2_untold yi_X2_untold ys_X2_untold (fx_s3 (List.mem_of_getElem? (i := 167) rfl) rfl) (sc_Law o ho) rfl (c_X2_untold l G ho hT) (As := [.int x1]) (rest := [.int x1, .ref (G.2.2.2 + o)]) rfl rfl ⟨Nat.le_of_ble_eq_true rfl, Nat.le_of_ble_eq_true rfl⟩ ⟨Nat.le_refl _, Nat.le_refl _⟩ hl.1 (Nat.le_of_ble_eq_true rfl) dX2_tell_96 (fun r3 M2 H locs hT h => ?_)
  refine fx_vi X h ym_X2_held yi_X2_held ys_X2_held (fx_s3 (List.mem_of_getElem? (i := 160) rfl) rfl) (sc_Law o ho) rfl (c_X2_held l G ho hT) (As := [.int x1, .int r3]) (rest := []) rfl rfl ⟨Nat.le_of_ble_eq_true rfl, Nat.le_of_ble_eq_true rfl⟩ ⟨Nat.le_refl _, Nat.le_refl _⟩ hl.1 (Nat.le_of_ble_eq_true rfl) dX2_tell_99 (fun r6 M5 H locs hT h => ?_)
  exact fx_iret X hr hk h hT dX2_tell_102
def T_X2_tell_79 (B4 : Int32 → Int32 → Int32 → Mm → Prop) (o : Nat) (x1 : Int32) (x3 : Int32) (M : Mm) (K : Int32 → Mm → Prop) : Prop := (vp_in x3 16 ∧ (∀ y8 : Int32, y8 = (M (rf o 3) (x3).toNatClampNeg) → (∀ y9 : Int32, y9 = x3 + (1 : Int32) → (B4 x1 y8 y9 M))))
set_option maxHeartbeats 4000000 in
set_option maxRecDepth 100000 in
theorem w_X2_tell_79 {p : Program} {l : Launch} {e : Env} {s : State} {m : MethodId} {args : Array Value} {below : List Frame} {meth : Method} {c : Code} {G : fx_G} {K : Int32 → Mm → Prop} {B4 : Int32 → Int32 → Int32 → Mm → Prop} {o : Nat} (ho : o ∈ id_Law) (X : fx_C G p s m c args cX2_tell 4 RX2) (hr : meth.sig.returnType = (some .int)) (hk : meth.locks = false) (hB4 : ∀ (x1 : Int32) (x2 : Int32) (x3 : Int32) (M : Mm) (H : Heap) (locs : List Loc) (ls : Array Slot), B4 x1 x2 x3 M → fx_H G SH M s H locs → lv_has ls 4 [(0, .ref (G.2.2.2 + o)), (1, .int x1), (2, .int x2), (3, .int x3)] → W p l e (fx_rm (2)) s m args below meth c H locs 0 0 (MQ below (va_Qi K (fx_R G SH) (fx_A G)) args s 0 0 (fx_A G)) (F0 m 4 ls [])) : ∀ (x1 : Int32) (x3 : Int32) (M : Mm) (H : Heap) (locs : List Loc) (ls : Array Slot), T_X2_tell_79 B4 o x1 x3 M K → fx_H G SH M s H locs → lv_has ls 4 [(0, .ref (G.2.2.2 + o)), (1, .int x1), (3, .int x3)] → W p l e (fx_rm (2)) s m args below meth c H locs 0 0 (MQ below (va_Qi K (fx_R G SH) (fx_A G)) args s 0 0 (fx_A G)) (F0 m 79 ls []) := by
  obtain ⟨⟨hx, hb, hml, hown, hts⟩, hK, hQ⟩ := id X
  intro x1 x3 M H locs ls hT h hl
  unfold T_X2_tell_79 at hT
  refine lv_aload_n hx hb dX2_tell_79 rfl (lv_at hl 0 rfl) ?_
  refine fx_getR X h (k := o) (j := 3) (r := (rf o 3)) (sc_Law o ho) rfl fl_RX2_21 dX2_tell_80 ?_
  refine lv_iload_n hx hb dX2_tell_83 rfl (lv_at hl 2 rfl) ?_
  obtain ⟨hi7, hT⟩ := hT
  refine fx_iald X h (k := (rf o 3)) (sa_Law_3 o ho) hi7 dX2_tell_84 ?_
  refine lv_topi (fun y8 ey8 => ?_)
  have hT := hT y8 ey8
  refine lv_istore_n (lv' := [(2, .int y8), (0, .ref (G.2.2.2 + o)), (1, .int x1), (3, .int x3)]) hx hb dX2_tell_85 rfl hl (by decide) rfl (fun ls hl => ?_)
  obtain ⟨y9, ey9⟩ : ∃ z : Int32, z = x3 + (1 : Int32) := ⟨_, rfl⟩
  have hT := hT y9 ey9
  refine lv_iinc (v := y9) (lv' := [(3, .int y9), (2, .int y8), (0, .ref (G.2.2.2 + o)), (1, .int x1)]) hx hb dX2_tell_86 hl (k := 3) rfl (by rw [ey9]; rfl) (by decide) rfl (fun ls hl => ?_)
  refine lv_goto (tgt := 4) hx hb dX2_tell_89 (by decide) ?_
  exact hB4 x1 y8 y9 M _ _ ls hT h (lv_sub hl [2, 3, 1, 0] rfl)
def T_X2_tell_62 (o : Nat) (x1 : Int32) (x2 : Int32) (x3 : Int32) (M : Mm) (K : Int32 → Mm → Prop) : Prop := (vp_in x3 16 ∧ (T_X2_reckon o x2 (M (rf o 2) (x3).toNatClampNeg) M (fun r13 M12 => (T_X2_held o x1 r13 M12 (fun r16 M15 => (K r16 M15))))))
set_option maxHeartbeats 4000000 in
set_option maxRecDepth 100000 in
theorem w_X2_tell_62 {p : Program} {l : Launch} {e : Env} {s : State} {m : MethodId} {args : Array Value} {below : List Frame} {meth : Method} {c : Code} {G : fx_G} {K : Int32 → Mm → Prop} {o : Nat} (ho : o ∈ id_Law) (X : fx_C G p s m c args cX2_tell 4 RX2) (hr : meth.sig.returnType = (some .int)) (hk : meth.locks = false) : ∀ (x1 : Int32) (x2 : Int32) (x3 : Int32) (M : Mm) (H : Heap) (locs : List Loc) (ls : Array Slot), T_X2_tell_62 o x1 x2 x3 M K → fx_H G SH M s H locs → lv_has ls 4 [(0, .ref (G.2.2.2 + o)), (1, .int x1), (2, .int x2), (3, .int x3)] → W p l e (fx_rm (2)) s m args below meth c H locs 0 0 (MQ below (va_Qi K (fx_R G SH) (fx_A G)) args s 0 0 (fx_A G)) (F0 m 62 ls []) := by
  obtain ⟨⟨hx, hb, hml, hown, hts⟩, hK, hQ⟩ := id X
  intro x1 x2 x3 M H locs ls hT h hl
  unfold T_X2_tell_62 at hT
  refine lv_aload_n hx hb dX2_tell_62 rfl (lv_at hl 0 rfl) ?_
  refine lv_iload_n hx hb dX2_tell_63 rfl (lv_at hl 1 rfl) ?_
  refine lv_aload_n hx hb dX2_tell_64 rfl (lv_at hl 0 rfl) ?_
  refine lv_iload_n hx hb dX2_tell_65 rfl (lv_at hl 2 rfl) ?_
  refine lv_aload_n hx hb dX2_tell_66 rfl (lv_at hl 0 rfl) ?_
  refine fx_getR X h (k := o) (j := 2) (r := (rf o 2)) (sc_Law o ho) rfl fl_RX2_18 dX2_tell_67 ?_
  refine lv_iload_n hx hb dX2_tell_70 rfl (lv_at hl 3 rfl) ?_
  obtain ⟨hi10, hT⟩ := hT
  refine fx_iald X h (k := (rf o 2)) (sa_Law_2 o ho) hi10 dX2_tell_71 ?_
  refine fx_vi X h ym_X2_reckon yi_X2_reckon ys_X2_reckon (fx_s3 (List.mem_of_getElem? (i := 145) rfl) rfl) (sc_Law o ho) rfl (c_X2_reckon l G ho hT) (As := [.int x2, .int (M (rf o 2) (x3).toNatClampNeg)]) (rest := [.int x1, .ref (G.2.2.2 + o)]) rfl rfl ⟨Nat.le_of_ble_eq_true rfl, Nat.le_of_ble_eq_true rfl⟩ ⟨Nat.le_refl _, Nat.le_refl _⟩ hl.1 (Nat.le_of_ble_eq_true rfl) dX2_tell_72 (fun r13 M12 H locs hT h => ?_)
  refine fx_vi X h ym_X2_held yi_X2_held ys_X2_held (fx_s3 (List.mem_of_getElem? (i := 160) rfl) rfl) (sc_Law o ho) rfl (c_X2_held l G ho hT) (As := [.int x1, .int r13]) (rest := []) rfl rfl ⟨Nat.le_of_ble_eq_true rfl, Nat.le_of_ble_eq_true rfl⟩ ⟨Nat.le_refl _, Nat.le_refl _⟩ hl.1 (Nat.le_of_ble_eq_true rfl) dX2_tell_75 (fun r16 M15 H locs hT h => ?_)
  exact fx_iret X hr hk h hT dX2_tell_78
def T_X2_tell_4 (o : Nat) : Nat → Int32 → Int32 → Int32 → Mm → (Int32 → Mm → Prop) → Prop
  | 0, _, _, _, _, _ => False
  | n + 1, x1, x2, x3, M, K => (((M o 7) ≤ x3 → (T_X2_tell_92 o x1 M K)) ∧ (¬ (M o 7) ≤ x3 → (((16 : Int32) ≤ x3 → (T_X2_tell_92 o x1 M K)) ∧ (¬ (16 : Int32) ≤ x3 → (vp_in x3 16 ∧ (((M (rf o 1) (x3).toNatClampNeg) = x1 → (vp_in x3 16 ∧ (vp_in x3 16 ∧ (((M (rf o 2) (x3).toNatClampNeg) = (M (rf o 3) (x3).toNatClampNeg) → (T_X2_tell_62 o x1 x2 x3 M K)) ∧ (¬ (M (rf o 2) (x3).toNatClampNeg) = (M (rf o 3) (x3).toNatClampNeg) → (vp_in x3 16 ∧ (vp_in x3 16 ∧ (T_X2_reckon o (M (rf o 2) (x3).toNatClampNeg) (M (rf o 3) (x3).toNatClampNeg) M (fun r28 M27 => ((r28 = 0 → (T_X2_tell_79 (fun x1 x2 x3 M => T_X2_tell_4 o n x1 x2 x3 M K) o x1 x3 M27 K)) ∧ (¬ r28 = 0 → (T_X2_tell_62 o x1 x2 x3 M27 K)))))))))))) ∧ (¬ (M (rf o 1) (x3).toNatClampNeg) = x1 → (T_X2_tell_79 (fun x1 x2 x3 M => T_X2_tell_4 o n x1 x2 x3 M K) o x1 x3 M K))))))))
set_option maxHeartbeats 4000000 in
set_option maxRecDepth 100000 in
theorem w_X2_tell_4 {p : Program} {l : Launch} {e : Env} {s : State} {m : MethodId} {args : Array Value} {below : List Frame} {meth : Method} {c : Code} {G : fx_G} {K : Int32 → Mm → Prop} {o : Nat} (ho : o ∈ id_Law) (X : fx_C G p s m c args cX2_tell 4 RX2) (hr : meth.sig.returnType = (some .int)) (hk : meth.locks = false) : ∀ (n : Nat) (x1 : Int32) (x2 : Int32) (x3 : Int32) (M : Mm) (H : Heap) (locs : List Loc) (ls : Array Slot), T_X2_tell_4 o n x1 x2 x3 M K → fx_H G SH M s H locs → lv_has ls 4 [(0, .ref (G.2.2.2 + o)), (1, .int x1), (2, .int x2), (3, .int x3)] → W p l e (fx_rm (2)) s m args below meth c H locs 0 0 (MQ below (va_Qi K (fx_R G SH) (fx_A G)) args s 0 0 (fx_A G)) (F0 m 4 ls []) := by
  obtain ⟨⟨hx, hb, hml, hown, hts⟩, hK, hQ⟩ := id X
  intro n
  induction n with
  | zero =>
    intro x1 x2 x3 M H locs ls hT
    exact hT.elim
  | succ n ih =>
    intro x1 x2 x3 M H locs ls hT h hl
    rw [T_X2_tell_4] at hT
    refine lv_iload_n hx hb dX2_tell_4 rfl (lv_at hl 3 rfl) ?_
    refine lv_aload_n hx hb dX2_tell_5 rfl (lv_at hl 0 rfl) ?_
    refine fx_getI X h (k := o) (j := 7) (sc_Law o ho) rfl fl_RX2_34 dX2_tell_6 ?_
    refine lv_icmp_ge (tgt := 92) hx hb dX2_tell_9 (by decide) (fun hc17 => ?_) (fun hc17 => ?_)
    · have hT := hT.1 hc17
      exact w_X2_tell_92 ho X hr hk x1 M _ _ ls hT h (lv_sub hl [0, 1] rfl)
    · have hT := hT.2 hc17
      refine lv_iload_n hx hb dX2_tell_12 rfl (lv_at hl 3 rfl) ?_
      refine lv_bipush (v := 16) hx hb dX2_tell_13 (by decide) ?_
      refine lv_icmp_ge (tgt := 92) hx hb dX2_tell_15 (by decide) (fun hc18 => ?_) (fun hc18 => ?_)
      · have hT := hT.1 hc18
        exact w_X2_tell_92 ho X hr hk x1 M _ _ ls hT h (lv_sub hl [0, 1] rfl)
      · have hT := hT.2 hc18
        refine lv_aload_n hx hb dX2_tell_18 rfl (lv_at hl 0 rfl) ?_
        refine fx_getR X h (k := o) (j := 1) (r := (rf o 1)) (sc_Law o ho) rfl fl_RX2_15 dX2_tell_19 ?_
        refine lv_iload_n hx hb dX2_tell_22 rfl (lv_at hl 3 rfl) ?_
        obtain ⟨hi19, hT⟩ := hT
        refine fx_iald X h (k := (rf o 1)) (sa_Law_1 o ho) hi19 dX2_tell_23 ?_
        refine lv_iload_n hx hb dX2_tell_24 rfl (lv_at hl 1 rfl) ?_
        refine lv_icmp_ne (tgt := 79) hx hb dX2_tell_25 (by decide) (fun hc20 => ?_) (fun hc20 => ?_)
        · have hT := hT.2 hc20
          exact w_X2_tell_79 ho X hr hk (B4 := (fun x1 x2 x3 M => T_X2_tell_4 o n x1 x2 x3 M K)) ih x1 x3 M _ _ ls hT h (lv_sub hl [0, 1, 3] rfl)
        · have hT := hT.1 hc20
          refine lv_aload_n hx hb dX2_tell_28 rfl (lv_at hl 0 rfl) ?_
          refine fx_getR X h (k := o) (j := 2) (r := (rf o 2)) (sc_Law o ho) rfl fl_RX2_18 dX2_tell_29 ?_
          refine lv_iload_n hx hb dX2_tell_32 rfl (lv_at hl 3 rfl) ?_
          obtain ⟨hi21, hT⟩ := hT
          refine fx_iald X h (k := (rf o 2)) (sa_Law_2 o ho) hi21 dX2_tell_33 ?_
          refine lv_aload_n hx hb dX2_tell_34 rfl (lv_at hl 0 rfl) ?_
          refine fx_getR X h (k := o) (j := 3) (r := (rf o 3)) (sc_Law o ho) rfl fl_RX2_21 dX2_tell_35 ?_
          refine lv_iload_n hx hb dX2_tell_38 rfl (lv_at hl 3 rfl) ?_
          obtain ⟨hi22, hT⟩ := hT
          refine fx_iald X h (k := (rf o 3)) (sa_Law_3 o ho) hi22 dX2_tell_39 ?_
          refine lv_icmp_eq (tgt := 62) hx hb dX2_tell_40 (by decide) (fun hc23 => ?_) (fun hc23 => ?_)
          · have hT := hT.1 hc23
            exact w_X2_tell_62 ho X hr hk x1 x2 x3 M _ _ ls hT h (lv_sub hl [0, 1, 2, 3] rfl)
          · have hT := hT.2 hc23
            refine lv_aload_n hx hb dX2_tell_43 rfl (lv_at hl 0 rfl) ?_
            refine lv_aload_n hx hb dX2_tell_44 rfl (lv_at hl 0 rfl) ?_
            refine fx_getR X h (k := o) (j := 2) (r := (rf o 2)) (sc_Law o ho) rfl fl_RX2_18 dX2_tell_45 ?_
            refine lv_iload_n hx hb dX2_tell_48 rfl (lv_at hl 3 rfl) ?_
            obtain ⟨hi24, hT⟩ := hT
            refine fx_iald X h (k := (rf o 2)) (sa_Law_2 o ho) hi24 dX2_tell_49 ?_
            refine lv_aload_n hx hb dX2_tell_50 rfl (lv_at hl 0 rfl) ?_
            refine fx_getR X h (k := o) (j := 3) (r := (rf o 3)) (sc_Law o ho) rfl fl_RX2_21 dX2_tell_51 ?_
            refine lv_iload_n hx hb dX2_tell_54 rfl (lv_at hl 3 rfl) ?_
            obtain ⟨hi25, hT⟩ := hT
            refine fx_iald X h (k := (rf o 3)) (sa_Law_3 o ho) hi25 dX2_tell_55 ?_
            refine fx_vi X h ym_X2_reckon yi_X2_reckon ys_X2_reckon (fx_s3 (List.mem_of_getElem? (i := 145) rfl) rfl) (sc_Law o ho) rfl (c_X2_reckon l G ho hT) (As := [.int (M (rf o 2) (x3).toNatClampNeg), .int (M (rf o 3) (x3).toNatClampNeg)]) (rest := []) rfl rfl ⟨Nat.le_of_ble_eq_true rfl, Nat.le_of_ble_eq_true rfl⟩ ⟨Nat.le_refl _, Nat.le_refl _⟩ hl.1 (Nat.le_of_ble_eq_true rfl) dX2_tell_56 (fun r28 M27 H locs hT h => ?_)
            refine lv_if_eq (tgt := 79) hx hb dX2_tell_59 (by decide) (fun hc29 => ?_) (fun hc29 => ?_)
            · have hT := hT.1 hc29
              exact w_X2_tell_79 ho X hr hk (B4 := (fun x1 x2 x3 M => T_X2_tell_4 o n x1 x2 x3 M K)) ih x1 x3 M27 _ _ ls hT h (lv_sub hl [0, 1, 3] rfl)
            · have hT := hT.2 hc29
              exact w_X2_tell_62 ho X hr hk x1 x2 x3 M27 _ _ ls hT h (lv_sub hl [0, 1, 2, 3] rfl)
def T_X2_tell (o : Nat) (x1 : Int32) (M : Mm) (K : Int32 → Mm → Prop) : Prop := (T_X2_tell_4 o 5000 x1 (0 : Int32) (0 : Int32) M K)
set_option maxHeartbeats 4000000 in
set_option maxRecDepth 100000 in
theorem c_X2_tell (l : Launch) (G : fx_G) {o : Nat} (ho : o ∈ id_Law) {x1 : Int32} {M : Mm} {K : Int32 → Mm → Prop} (hT : T_X2_tell o x1 M K) : Met l yX2_tell (fx_ws yX2_tell cX2_tell 4 (some .int)) (fx_rm (2)) (va_Pc [.ref (G.2.2.2 + o), .int x1] (fx_P G SH M)) (va_Qi K (fx_R G SH) (fx_A G)) 0 0 (fx_A G) := by
  refine fx_met (own := RX2) (by decide +kernel) rfl (Nat.le_of_ble_eq_true rfl) (fun p e s m below meth c X hr hk h ls hl => ?_)
  obtain ⟨⟨hx, hb, hml, hown, hts⟩, hK, hQ⟩ := id X
  have hl : lv_has ls 4 [(0, .ref (G.2.2.2 + o)), (1, .int x1)] := hl
  unfold T_X2_tell at hT
  refine lv_iconst (v := 0) hx hb dX2_tell_0 (by decide) ?_
  refine lv_istore_n (lv' := [(2, .int (0 : Int32)), (0, .ref (G.2.2.2 + o)), (1, .int x1)]) hx hb dX2_tell_1 rfl hl (by decide) rfl (fun ls hl => ?_)
  refine lv_iconst (v := 0) hx hb dX2_tell_2 (by decide) ?_
  refine lv_istore_n (lv' := [(3, .int (0 : Int32)), (2, .int (0 : Int32)), (0, .ref (G.2.2.2 + o)), (1, .int x1)]) hx hb dX2_tell_3 rfl hl (by decide) rfl (fun ls hl => ?_)
  exact w_X2_tell_4 ho X hr hk 5000 x1 (0 : Int32) (0 : Int32) M _ _ ls hT h (lv_sub hl [2, 3, 1, 0] rfl)
