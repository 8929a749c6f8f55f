/-! MockParcelsModel.cameTo(II)I -/
theorem dX12_cameTo_0 : decode cX12_cameTo 0 = .ok (.iload_n 2, 1) := by decide +kernel
theorem dX12_cameTo_1 : decode cX12_cameTo 1 = .ok (.iconst 1, 1) := by decide +kernel
theorem dX12_cameTo_2 : decode cX12_cameTo 2 = .ok (.if_icmp .ne 28, 3) := by decide +kernel
theorem dX12_cameTo_5 : decode cX12_cameTo 5 = .ok (.aload_n 0, 1) := by decide +kernel
theorem dX12_cameTo_6 : decode cX12_cameTo 6 = .ok (.getfield 92, 3) := by decide +kernel
theorem dX12_cameTo_9 : decode cX12_cameTo 9 = .ok (.iload_n 1, 1) := by decide +kernel
theorem dX12_cameTo_10 : decode cX12_cameTo 10 = .ok (.iaload, 1) := by decide +kernel
theorem dX12_cameTo_11 : decode cX12_cameTo 11 = .ok (.ldc_w 423, 3) := by decide +kernel
theorem dX12_cameTo_14 : decode cX12_cameTo 14 = .ok (.if_icmp .lt 7, 3) := by decide +kernel
theorem dX12_cameTo_17 : decode cX12_cameTo 17 = .ok (.iconst (-1), 1) := by decide +kernel
theorem dX12_cameTo_18 : decode cX12_cameTo 18 = .ok (.goto 18, 3) := by decide +kernel
theorem dX12_cameTo_21 : decode cX12_cameTo 21 = .ok (.aload_n 0, 1) := by decide +kernel
theorem dX12_cameTo_22 : decode cX12_cameTo 22 = .ok (.getfield 92, 3) := by decide +kernel
theorem dX12_cameTo_25 : decode cX12_cameTo 25 = .ok (.iload_n 1, 1) := by decide +kernel
theorem dX12_cameTo_26 : decode cX12_cameTo 26 = .ok (.iaload, 1) := by decide +kernel
theorem dX12_cameTo_27 : decode cX12_cameTo 27 = .ok (.goto 9, 3) := by decide +kernel
theorem dX12_cameTo_30 : decode cX12_cameTo 30 = .ok (.aload_n 0, 1) := by decide +kernel
theorem dX12_cameTo_31 : decode cX12_cameTo 31 = .ok (.getfield 89, 3) := by decide +kernel
theorem dX12_cameTo_34 : decode cX12_cameTo 34 = .ok (.iload_n 1, 1) := by decide +kernel
theorem dX12_cameTo_35 : decode cX12_cameTo 35 = .ok (.iaload, 1) := by decide +kernel
theorem dX12_cameTo_36 : decode cX12_cameTo 36 = .ok (.ireturn, 1) := by decide +kernel
def T_X12_cameTo (x1 : Int32) (x2 : Int32) (M : Mm) (K : Int32 → Mm → Prop) : Prop := ((x2 = (1 : Int32) → (vp_in x1 1000 ∧ (((M 186 (x1).toNatClampNeg) < (100000000 : Int32) → (vp_in x1 1000 ∧ (K (M 186 (x1).toNatClampNeg) M))) ∧ (¬ (M 186 (x1).toNatClampNeg) < (100000000 : Int32) → (K (-1 : Int32) M))))) ∧ (¬ x2 = (1 : Int32) → (vp_in x1 1000 ∧ (K (M 185 (x1).toNatClampNeg) M))))
set_option maxHeartbeats 4000000 in
set_option maxRecDepth 100000 in
theorem c_X12_cameTo (l : Launch) (G : fx_G) {x1 : Int32} {x2 : Int32} {M : Mm} {K : Int32 → Mm → Prop} (hT : T_X12_cameTo x1 x2 M K) : Met l yX12_cameTo (fx_ws yX12_cameTo cX12_cameTo 3 (some .int)) (fx_rm (0)) (va_Pc [.ref (G.2.2.2 + 159), .int x1, .int x2] (fx_P G SH M)) (va_Qi K (fx_R G SH) (fx_A G)) 0 0 (fx_A G) := by
  refine fx_met (own := RX12) (by decide +kernel) rfl (Nat.le_of_ble_eq_true rfl) (fun p e s m below meth c X hr hk h ls hl => ?_)
  obtain ⟨⟨hx, hb, hml, hown, hts⟩, hK, hQ⟩ := id X
  have hl : lv_has ls 3 [(0, .ref (G.2.2.2 + 159)), (1, .int x1), (2, .int x2)] := hl
  unfold T_X12_cameTo at hT
  refine lv_iload_n hx hb dX12_cameTo_0 rfl (lv_at hl 2 rfl) ?_
  refine lv_iconst (v := 1) hx hb dX12_cameTo_1 (by decide) ?_
  refine lv_icmp_ne (tgt := 30) hx hb dX12_cameTo_2 (by decide) (fun hc1 => ?_) (fun hc1 => ?_)
  · have hT := hT.2 hc1
    refine lv_aload_n hx hb dX12_cameTo_30 rfl (lv_at hl 0 rfl) ?_
    refine fx_getR X h (k := 159) (j := 49) (r := 185) sh_159 rfl fl_RX12_89 dX12_cameTo_31 ?_
    refine lv_iload_n hx hb dX12_cameTo_34 rfl (lv_at hl 1 rfl) ?_
    obtain ⟨hi2, hT⟩ := hT
    refine fx_iald X h (k := 185) sh_185 hi2 dX12_cameTo_35 ?_
    exact fx_iret X hr hk h hT dX12_cameTo_36
  · have hT := hT.1 hc1
    refine lv_aload_n hx hb dX12_cameTo_5 rfl (lv_at hl 0 rfl) ?_
    refine fx_getR X h (k := 159) (j := 50) (r := 186) sh_159 rfl fl_RX12_92 dX12_cameTo_6 ?_
    refine lv_iload_n hx hb dX12_cameTo_9 rfl (lv_at hl 1 rfl) ?_
    obtain ⟨hi3, hT⟩ := hT
    refine fx_iald X h (k := 186) sh_186 hi3 dX12_cameTo_10 ?_
    refine lv_ldcw (v := 100000000) hx hb hown (hts _ (fx_s8 (List.mem_of_getElem? (i := 187) rfl) rfl)) dX12_cameTo_11 ?_
    refine lv_icmp_lt (tgt := 21) hx hb dX12_cameTo_14 (by decide) (fun hc4 => ?_) (fun hc4 => ?_)
    · have hT := hT.1 hc4
      refine lv_aload_n hx hb dX12_cameTo_21 rfl (lv_at hl 0 rfl) ?_
      refine fx_getR X h (k := 159) (j := 50) (r := 186) sh_159 rfl fl_RX12_92 dX12_cameTo_22 ?_
      refine lv_iload_n hx hb dX12_cameTo_25 rfl (lv_at hl 1 rfl) ?_
      obtain ⟨hi5, hT⟩ := hT
      refine fx_iald X h (k := 186) sh_186 hi5 dX12_cameTo_26 ?_
      refine lv_goto (tgt := 36) hx hb dX12_cameTo_27 (by decide) ?_
      exact fx_iret X hr hk h hT dX12_cameTo_36
    · have hT := hT.2 hc4
      refine lv_iconst (v := -1) hx hb dX12_cameTo_17 (by decide) ?_
      refine lv_goto (tgt := 36) hx hb dX12_cameTo_18 (by decide) ?_
      exact fx_iret X hr hk h hT dX12_cameTo_36
/-! MockParcelsModel.weighs(II)Z -/
theorem dX12_weighs_0 : decode cX12_weighs 0 = .ok (.aload_n 0, 1) := by decide +kernel
theorem dX12_weighs_1 : decode cX12_weighs 1 = .ok (.iconst 0, 1) := by decide +kernel
theorem dX12_weighs_2 : decode cX12_weighs 2 = .ok (.putfield 134, 3) := by decide +kernel
theorem dX12_weighs_5 : decode cX12_weighs 5 = .ok (.aload_n 0, 1) := by decide +kernel
theorem dX12_weighs_6 : decode cX12_weighs 6 = .ok (.iload_n 1, 1) := by decide +kernel
theorem dX12_weighs_7 : decode cX12_weighs 7 = .ok (.iconst 1, 1) := by decide +kernel
theorem dX12_weighs_8 : decode cX12_weighs 8 = .ok (.bipush 7, 2) := by decide +kernel
theorem dX12_weighs_10 : decode cX12_weighs 10 = .ok (.invokevirtual 157, 3) := by decide +kernel
theorem dX12_weighs_13 : decode cX12_weighs 13 = .ok (.ifCond .eq 14, 3) := by decide +kernel
theorem dX12_weighs_16 : decode cX12_weighs 16 = .ok (.aload_n 0, 1) := by decide +kernel
theorem dX12_weighs_17 : decode cX12_weighs 17 = .ok (.iload_n 2, 1) := by decide +kernel
theorem dX12_weighs_18 : decode cX12_weighs 18 = .ok (.iconst 0, 1) := by decide +kernel
theorem dX12_weighs_19 : decode cX12_weighs 19 = .ok (.bipush 99, 2) := by decide +kernel
theorem dX12_weighs_21 : decode cX12_weighs 21 = .ok (.invokevirtual 157, 3) := by decide +kernel
theorem dX12_weighs_24 : decode cX12_weighs 24 = .ok (.ifCond .ne 5, 3) := by decide +kernel
theorem dX12_weighs_27 : decode cX12_weighs 27 = .ok (.iconst 0, 1) := by decide +kernel
theorem dX12_weighs_28 : decode cX12_weighs 28 = .ok (.ireturn, 1) := by decide +kernel
theorem dX12_weighs_29 : decode cX12_weighs 29 = .ok (.aload_n 0, 1) := by decide +kernel
theorem dX12_weighs_30 : decode cX12_weighs 30 = .ok (.getfield 86, 3) := by decide +kernel
theorem dX12_weighs_33 : decode cX12_weighs 33 = .ok (.iload_n 1, 1) := by decide +kernel
theorem dX12_weighs_34 : decode cX12_weighs 34 = .ok (.iload_n 2, 1) := by decide +kernel
theorem dX12_weighs_35 : decode cX12_weighs 35 = .ok (.iastore, 1) := by decide +kernel
theorem dX12_weighs_36 : decode cX12_weighs 36 = .ok (.iconst 1, 1) := by decide +kernel
theorem dX12_weighs_37 : decode cX12_weighs 37 = .ok (.ireturn, 1) := by decide +kernel
def T_X12_weighs (x1 : Int32) (x2 : Int32) (M : Mm) (K : Int32 → Mm → Prop) : Prop := (∀ M1 : Mm, M1 = m_up M 159 0 (0 : Int32) → (T_X12_isIn x1 (1 : Int32) (7 : Int32) M1 (fun r4 M3 => ((r4 = 0 → (K (0 : Int32) M3)) ∧ (¬ r4 = 0 → (T_X12_isIn x2 (0 : Int32) (99 : Int32) M3 (fun r8 M7 => ((r8 = 0 → (K (0 : Int32) M7)) ∧ (¬ r8 = 0 → (vp_in x1 8 ∧ (∀ M10 : Mm, M10 = m_up M7 184 (x1).toNatClampNeg x2 → (K (1 : Int32) M10))))))))))))
set_option maxHeartbeats 4000000 in
set_option maxRecDepth 100000 in
theorem c_X12_weighs (l : Launch) (G : fx_G) {x1 : Int32} {x2 : Int32} {M : Mm} {K : Int32 → Mm → Prop} (hT : T_X12_weighs x1 x2 M K) : Met l yX12_weighs (fx_ws yX12_weighs cX12_weighs 3 (some .boolean)) (fx_rm (1)) (va_Pc [.ref (G.2.2.2 + 159), .int x1, .int x2] (fx_P G SH M)) (va_Qi K (fx_R G SH) (fx_A G)) 0 0 (fx_A G) := by
  refine fx_met (own := RX12) (by decide +kernel) rfl (Nat.le_of_ble_eq_true rfl) (fun p e s m below meth c X hr hk h ls hl => ?_)
  obtain ⟨⟨hx, hb, hml, hown, hts⟩, hK, hQ⟩ := id X
  have hl : lv_has ls 3 [(0, .ref (G.2.2.2 + 159)), (1, .int x1), (2, .int x2)] := hl
  unfold T_X12_weighs at hT
  refine lv_aload_n hx hb dX12_weighs_0 rfl (lv_at hl 0 rfl) ?_
  refine lv_iconst (v := 0) hx hb dX12_weighs_1 (by decide) ?_
  refine fx_putI X h (k := 159) (j := 0) sh_159 rfl fl_RX12_134 dX12_weighs_2 (fun H locs h => ?_)
  obtain ⟨M1, eM1⟩ : ∃ z : Mm, z = m_up M 159 0 (0 : Int32) := ⟨_, rfl⟩
  have hT := hT M1 eM1
  rw [← eM1] at h
  refine lv_aload_n hx hb dX12_weighs_5 rfl (lv_at hl 0 rfl) ?_
  refine lv_iload_n hx hb dX12_weighs_6 rfl (lv_at hl 1 rfl) ?_
  refine lv_iconst (v := 1) hx hb dX12_weighs_7 (by decide) ?_
  refine lv_bipush (v := 7) hx hb dX12_weighs_8 (by decide) ?_
  refine fx_vi X h ym_X12_isIn yi_X12_isIn ys_X12_isIn (fx_s7 (List.mem_of_getElem? (i := 77) rfl) rfl) sh_159 rfl (c_X12_isIn l G hT) (As := [.int x1, .int (1 : Int32), .int (7 : Int32)]) (rest := []) rfl rfl ⟨Nat.le_of_ble_eq_true rfl, Nat.le_of_ble_eq_true rfl⟩ ⟨Nat.le_refl _, Nat.le_refl _⟩ hl.1 (Nat.le_of_ble_eq_true rfl) dX12_weighs_10 (fun r4 M3 H locs hT h => ?_)
  refine lv_if_eq (tgt := 27) hx hb dX12_weighs_13 (by decide) (fun hc5 => ?_) (fun hc5 => ?_)
  · have hT := hT.1 hc5
    refine lv_iconst (v := 0) hx hb dX12_weighs_27 (by decide) ?_
    exact fx_zret X hr hk h (Or.inl rfl) hT dX12_weighs_28
  · have hT := hT.2 hc5
    refine lv_aload_n hx hb dX12_weighs_16 rfl (lv_at hl 0 rfl) ?_
    refine lv_iload_n hx hb dX12_weighs_17 rfl (lv_at hl 2 rfl) ?_
    refine lv_iconst (v := 0) hx hb dX12_weighs_18 (by decide) ?_
    refine lv_bipush (v := 99) hx hb dX12_weighs_19 (by decide) ?_
    refine fx_vi X h ym_X12_isIn yi_X12_isIn ys_X12_isIn (fx_s7 (List.mem_of_getElem? (i := 77) rfl) rfl) sh_159 rfl (c_X12_isIn l G hT) (As := [.int x2, .int (0 : Int32), .int (99 : Int32)]) (rest := []) rfl rfl ⟨Nat.le_of_ble_eq_true rfl, Nat.le_of_ble_eq_true rfl⟩ ⟨Nat.le_refl _, Nat.le_refl _⟩ hl.1 (Nat.le_of_ble_eq_true rfl) dX12_weighs_21 (fun r8 M7 H locs hT h => ?_)
    refine lv_if_ne (tgt := 29) hx hb dX12_weighs_24 (by decide) (fun hc9 => ?_) (fun hc9 => ?_)
    · have hT := hT.2 hc9
      refine lv_aload_n hx hb dX12_weighs_29 rfl (lv_at hl 0 rfl) ?_
      refine fx_getR X h (k := 159) (j := 48) (r := 184) sh_159 rfl fl_RX12_86 dX12_weighs_30 ?_
      refine lv_iload_n hx hb dX12_weighs_33 rfl (lv_at hl 1 rfl) ?_
      refine lv_iload_n hx hb dX12_weighs_34 rfl (lv_at hl 2 rfl) ?_
      obtain ⟨hi11, hT⟩ := hT
      refine fx_iast X h (k := 184) sh_184 hi11 dX12_weighs_35 (fun H locs h => ?_)
      obtain ⟨M10, eM10⟩ : ∃ z : Mm, z = m_up M7 184 (x1).toNatClampNeg x2 := ⟨_, rfl⟩
      have hT := hT M10 eM10
      rw [← eM10] at h
      refine lv_iconst (v := 1) hx hb dX12_weighs_36 (by decide) ?_
      exact fx_zret X hr hk h (Or.inr rfl) hT dX12_weighs_37
    · have hT := hT.1 hc9
      refine lv_iconst (v := 0) hx hb dX12_weighs_27 (by decide) ?_
      exact fx_zret X hr hk h (Or.inl rfl) hT dX12_weighs_28
/-! MockParcelsModel.inside(II)I -/
theorem dX12_inside_0 : decode cX12_inside 0 = .ok (.aload_n 0, 1) := by decide +kernel
theorem dX12_inside_1 : decode cX12_inside 1 = .ok (.iconst 0, 1) := by decide +kernel
theorem dX12_inside_2 : decode cX12_inside 2 = .ok (.putfield 134, 3) := by decide +kernel
theorem dX12_inside_5 : decode cX12_inside 5 = .ok (.aload_n 0, 1) := by decide +kernel
theorem dX12_inside_6 : decode cX12_inside 6 = .ok (.iload_n 1, 1) := by decide +kernel
theorem dX12_inside_7 : decode cX12_inside 7 = .ok (.invokevirtual 165, 3) := by decide +kernel
theorem dX12_inside_10 : decode cX12_inside 10 = .ok (.ifCond .eq 13, 3) := by decide +kernel
theorem dX12_inside_13 : decode cX12_inside 13 = .ok (.aload_n 0, 1) := by decide +kernel
theorem dX12_inside_14 : decode cX12_inside 14 = .ok (.iload_n 2, 1) := by decide +kernel
theorem dX12_inside_15 : decode cX12_inside 15 = .ok (.iconst 0, 1) := by decide +kernel
theorem dX12_inside_16 : decode cX12_inside 16 = .ok (.iconst 1, 1) := by decide +kernel
theorem dX12_inside_17 : decode cX12_inside 17 = .ok (.invokevirtual 157, 3) := by decide +kernel
theorem dX12_inside_20 : decode cX12_inside 20 = .ok (.ifCond .ne 5, 3) := by decide +kernel
theorem dX12_inside_23 : decode cX12_inside 23 = .ok (.iconst (-1), 1) := by decide +kernel
theorem dX12_inside_24 : decode cX12_inside 24 = .ok (.ireturn, 1) := by decide +kernel
theorem dX12_inside_25 : decode cX12_inside 25 = .ok (.aload_n 0, 1) := by decide +kernel
theorem dX12_inside_26 : decode cX12_inside 26 = .ok (.invokevirtual 427, 3) := by decide +kernel
theorem dX12_inside_29 : decode cX12_inside 29 = .ok (.iconst 1, 1) := by decide +kernel
theorem dX12_inside_30 : decode cX12_inside 30 = .ok (.istore_n 3, 1) := by decide +kernel
theorem dX12_inside_31 : decode cX12_inside 31 = .ok (.iload_n 3, 1) := by decide +kernel
theorem dX12_inside_32 : decode cX12_inside 32 = .ok (.bipush 8, 2) := by decide +kernel
theorem dX12_inside_34 : decode cX12_inside 34 = .ok (.if_icmp .ge 30, 3) := by decide +kernel
theorem dX12_inside_37 : decode cX12_inside 37 = .ok (.aload_n 0, 1) := by decide +kernel
theorem dX12_inside_38 : decode cX12_inside 38 = .ok (.getfield 86, 3) := by decide +kernel
theorem dX12_inside_41 : decode cX12_inside 41 = .ok (.iload_n 3, 1) := by decide +kernel
theorem dX12_inside_42 : decode cX12_inside 42 = .ok (.iaload, 1) := by decide +kernel
theorem dX12_inside_43 : decode cX12_inside 43 = .ok (.ifCond .le 15, 3) := by decide +kernel
theorem dX12_inside_46 : decode cX12_inside 46 = .ok (.aload_n 0, 1) := by decide +kernel
theorem dX12_inside_47 : decode cX12_inside 47 = .ok (.aload_n 0, 1) := by decide +kernel
theorem dX12_inside_48 : decode cX12_inside 48 = .ok (.getfield 86, 3) := by decide +kernel
theorem dX12_inside_51 : decode cX12_inside 51 = .ok (.iload_n 3, 1) := by decide +kernel
theorem dX12_inside_52 : decode cX12_inside 52 = .ok (.iaload, 1) := by decide +kernel
theorem dX12_inside_53 : decode cX12_inside 53 = .ok (.bipush 99, 2) := by decide +kernel
theorem dX12_inside_55 : decode cX12_inside 55 = .ok (.invokevirtual 430, 3) := by decide +kernel
theorem dX12_inside_58 : decode cX12_inside 58 = .ok (.iinc 3 1, 3) := by decide +kernel
theorem dX12_inside_61 : decode cX12_inside 61 = .ok (.goto (-30), 3) := by decide +kernel
theorem dX12_inside_64 : decode cX12_inside 64 = .ok (.aload_n 0, 1) := by decide +kernel
theorem dX12_inside_65 : decode cX12_inside 65 = .ok (.aload_n 0, 1) := by decide +kernel
theorem dX12_inside_66 : decode cX12_inside 66 = .ok (.getfield 19, 3) := by decide +kernel
theorem dX12_inside_69 : decode cX12_inside 69 = .ok (.iload_n 1, 1) := by decide +kernel
theorem dX12_inside_70 : decode cX12_inside 70 = .ok (.iaload, 1) := by decide +kernel
theorem dX12_inside_71 : decode cX12_inside 71 = .ok (.iload_n 2, 1) := by decide +kernel
theorem dX12_inside_72 : decode cX12_inside 72 = .ok (.invokevirtual 433, 3) := by decide +kernel
theorem dX12_inside_75 : decode cX12_inside 75 = .ok (.ireturn, 1) := by decide +kernel
def T_X12_inside_58 (B31 : Int32 → Int32 → Int32 → Mm → Prop) (x1 : Int32) (x2 : Int32) (x3 : Int32) (M : Mm) (K : Int32 → Mm → Prop) : Prop := (∀ y1 : Int32, y1 = x3 + (1 : Int32) → (B31 x1 x2 y1 M))
set_option maxHeartbeats 4000000 in
set_option maxRecDepth 100000 in
theorem w_X12_inside_58 {p : Program} {l : Launch} {e : Env} {s : State} {m : MethodId} {args : Array Value} {below : List Frame} {meth : Method} {c : Code} {G : fx_G} {K : Int32 → Mm → Prop} {B31 : Int32 → Int32 → Int32 → Mm → Prop} (X : fx_C G p s m c args cX12_inside 4 RX12) (hr : meth.sig.returnType = (some .int)) (hk : meth.locks = false) (hB31 : ∀ (x1 : Int32) (x2 : Int32) (x3 : Int32) (M : Mm) (H : Heap) (locs : List Loc) (ls : Array Slot), B31 x1 x2 x3 M → fx_H G SH M s H locs → lv_has ls 4 [(0, .ref (G.2.2.2 + 159)), (1, .int x1), (2, .int x2), (3, .int x3)] → W p l e (fx_rm (2)) s m args below meth c H locs 0 0 (MQ below (va_Qi K (fx_R G SH) (fx_A G)) args s 0 0 (fx_A G)) (F0 m 31 ls [])) : ∀ (x1 : Int32) (x2 : Int32) (x3 : Int32) (M : Mm) (H : Heap) (locs : List Loc) (ls : Array Slot), T_X12_inside_58 B31 x1 x2 x3 M K → fx_H G SH M s H locs → lv_has ls 4 [(0, .ref (G.2.2.2 + 159)), (1, .int x1), (2, .int x2), (3, .int x3)] → W p l e (fx_rm (2)) s m args below meth c H locs 0 0 (MQ below (va_Qi K (fx_R G SH) (fx_A G)) args s 0 0 (fx_A G)) (F0 m 58 ls []) := by
  obtain ⟨⟨hx, hb, hml, hown, hts⟩, hK, hQ⟩ := id X
  intro x1 x2 x3 M H locs ls hT h hl
  unfold T_X12_inside_58 at hT
  obtain ⟨y1, ey1⟩ : ∃ z : Int32, z = x3 + (1 : Int32) := ⟨_, rfl⟩
  have hT := hT y1 ey1
  refine lv_iinc (v := y1) (lv' := [(3, .int y1), (0, .ref (G.2.2.2 + 159)), (1, .int x1), (2, .int x2)]) hx hb dX12_inside_58 hl (k := 3) rfl (by rw [ey1]; rfl) (by decide) rfl (fun ls hl => ?_)
  refine lv_goto (tgt := 31) hx hb dX12_inside_61 (by decide) ?_
  exact hB31 x1 x2 y1 M _ _ ls hT h (lv_sub hl [1, 2, 3, 0] rfl)
def T_X12_inside_31 : Nat → Int32 → Int32 → Int32 → Mm → (Int32 → Mm → Prop) → Prop
  | 0, _, _, _, _, _ => False
  | n + 1, x1, x2, x3, M, K => (((8 : Int32) ≤ x3 → (vp_in x1 16 ∧ (T_X12_cameTo (M 163 (x1).toNatClampNeg) x2 M (fun r6 M5 => (K r6 M5))))) ∧ (¬ (8 : Int32) ≤ x3 → (vp_in x3 8 ∧ (((M 184 (x3).toNatClampNeg) ≤ 0 → (T_X12_inside_58 (fun x1 x2 x3 M => T_X12_inside_31 n x1 x2 x3 M K) x1 x2 x3 M K)) ∧ (¬ (M 184 (x3).toNatClampNeg) ≤ 0 → (vp_in x3 8 ∧ (T_X12_goesBySteps (M 184 (x3).toNatClampNeg) (99 : Int32) M (fun M11 => (T_X12_inside_58 (fun x1 x2 x3 M => T_X12_inside_31 n x1 x2 x3 M K) x1 x2 x3 M11 K)))))))))
set_option maxHeartbeats 4000000 in
set_option maxRecDepth 100000 in
theorem w_X12_inside_31 {p : Program} {l : Launch} {e : Env} {s : State} {m : MethodId} {args : Array Value} {below : List Frame} {meth : Method} {c : Code} {G : fx_G} {K : Int32 → Mm → Prop} (X : fx_C G p s m c args cX12_inside 4 RX12) (hr : meth.sig.returnType = (some .int)) (hk : meth.locks = false) : ∀ (n : Nat) (x1 : Int32) (x2 : Int32) (x3 : Int32) (M : Mm) (H : Heap) (locs : List Loc) (ls : Array Slot), T_X12_inside_31 n x1 x2 x3 M K → fx_H G SH M s H locs → lv_has ls 4 [(0, .ref (G.2.2.2 + 159)), (1, .int x1), (2, .int x2), (3, .int x3)] → W p l e (fx_rm (2)) s m args below meth c H locs 0 0 (MQ below (va_Qi K (fx_R G SH) (fx_A G)) args s 0 0 (fx_A G)) (F0 m 31 ls []) := by
  obtain ⟨⟨hx, hb, hml, hown, hts⟩, hK, hQ⟩ := id X
  intro n
  induction n with
  | zero =>
    intro x1 x2 x3 M H locs ls hT
    exact hT.elim
  | succ n ih =>
    intro x1 x2 x3 M H locs ls hT h hl
    rw [T_X12_inside_31] at hT
    refine lv_iload_n hx hb dX12_inside_31 rfl (lv_at hl 3 rfl) ?_
    refine lv_bipush (v := 8) hx hb dX12_inside_32 (by decide) ?_
    refine lv_icmp_ge (tgt := 64) hx hb dX12_inside_34 (by decide) (fun hc2 => ?_) (fun hc2 => ?_)
    · have hT := hT.1 hc2
      refine lv_aload_n hx hb dX12_inside_64 rfl (lv_at hl 0 rfl) ?_
      refine lv_aload_n hx hb dX12_inside_65 rfl (lv_at hl 0 rfl) ?_
      refine fx_getR X h (k := 159) (j := 8) (r := 163) sh_159 rfl fl_RX12_19 dX12_inside_66 ?_
      refine lv_iload_n hx hb dX12_inside_69 rfl (lv_at hl 1 rfl) ?_
      obtain ⟨hi3, hT⟩ := hT
      refine fx_iald X h (k := 163) sh_163 hi3 dX12_inside_70 ?_
      refine lv_iload_n hx hb dX12_inside_71 rfl (lv_at hl 2 rfl) ?_
      refine fx_vi X h ym_X12_cameTo yi_X12_cameTo ys_X12_cameTo (fx_s8 (List.mem_of_getElem? (i := 197) rfl) rfl) sh_159 rfl (c_X12_cameTo l G hT) (As := [.int (M 163 (x1).toNatClampNeg), .int x2]) (rest := []) rfl rfl ⟨Nat.le_of_ble_eq_true rfl, Nat.le_of_ble_eq_true rfl⟩ ⟨Nat.le_refl _, Nat.le_refl _⟩ hl.1 (Nat.le_of_ble_eq_true rfl) dX12_inside_72 (fun r6 M5 H locs hT h => ?_)
      exact fx_iret X hr hk h hT dX12_inside_75
    · have hT := hT.2 hc2
      refine lv_aload_n hx hb dX12_inside_37 rfl (lv_at hl 0 rfl) ?_
      refine fx_getR X h (k := 159) (j := 48) (r := 184) sh_159 rfl fl_RX12_86 dX12_inside_38 ?_
      refine lv_iload_n hx hb dX12_inside_41 rfl (lv_at hl 3 rfl) ?_
      obtain ⟨hi7, hT⟩ := hT
      refine fx_iald X h (k := 184) sh_184 hi7 dX12_inside_42 ?_
      refine lv_if_le (tgt := 58) hx hb dX12_inside_43 (by decide) (fun hc8 => ?_) (fun hc8 => ?_)
      · have hT := hT.1 hc8
        exact w_X12_inside_58 X hr hk (B31 := (fun x1 x2 x3 M => T_X12_inside_31 n x1 x2 x3 M K)) ih x1 x2 x3 M _ _ ls hT h (lv_sub hl [0, 1, 2, 3] rfl)
      · have hT := hT.2 hc8
        refine lv_aload_n hx hb dX12_inside_46 rfl (lv_at hl 0 rfl) ?_
        refine lv_aload_n hx hb dX12_inside_47 rfl (lv_at hl 0 rfl) ?_
        refine fx_getR X h (k := 159) (j := 48) (r := 184) sh_159 rfl fl_RX12_86 dX12_inside_48 ?_
        refine lv_iload_n hx hb dX12_inside_51 rfl (lv_at hl 3 rfl) ?_
        obtain ⟨hi9, hT⟩ := hT
        refine fx_iald X h (k := 184) sh_184 hi9 dX12_inside_52 ?_
        refine lv_bipush (v := 99) hx hb dX12_inside_53 (by decide) ?_
        refine fx_vv X h ym_X12_goesBySteps yi_X12_goesBySteps ys_X12_goesBySteps (fx_s8 (List.mem_of_getElem? (i := 188) rfl) rfl) sh_159 rfl (c_X12_goesBySteps l G hT) (As := [.int (M 184 (x3).toNatClampNeg), .int (99 : Int32)]) (rest := []) rfl rfl ⟨Nat.le_of_ble_eq_true rfl, Nat.le_of_ble_eq_true rfl⟩ ⟨Nat.le_refl _, Nat.le_refl _⟩ hl.1 (Nat.le_of_ble_eq_true rfl) dX12_inside_55 (fun M11 H locs hT h => ?_)
        exact w_X12_inside_58 X hr hk (B31 := (fun x1 x2 x3 M => T_X12_inside_31 n x1 x2 x3 M K)) ih x1 x2 x3 M11 _ _ ls hT h (lv_sub hl [0, 1, 2, 3] rfl)
def T_X12_inside (x1 : Int32) (x2 : Int32) (M : Mm) (K : Int32 → Mm → Prop) : Prop := (∀ M12 : Mm, M12 = m_up M 159 0 (0 : Int32) → (T_X12_isParcel x1 M12 (fun r15 M14 => ((r15 = 0 → (K (-1 : Int32) M14)) ∧ (¬ r15 = 0 → (T_X12_isIn x2 (0 : Int32) (1 : Int32) M14 (fun r19 M18 => ((r19 = 0 → (K (-1 : Int32) M18)) ∧ (¬ r19 = 0 → (T_X12_isAtNothing M18 (fun M22 => (T_X12_inside_31 5000 x1 x2 (1 : Int32) M22 K))))))))))))
set_option maxHeartbeats 4000000 in
set_option maxRecDepth 100000 in
theorem c_X12_inside (l : Launch) (G : fx_G) {x1 : Int32} {x2 : Int32} {M : Mm} {K : Int32 → Mm → Prop} (hT : T_X12_inside x1 x2 M K) : Met l yX12_inside (fx_ws yX12_inside cX12_inside 4 (some .int)) (fx_rm (2)) (va_Pc [.ref (G.2.2.2 + 159), .int x1, .int x2] (fx_P G SH M)) (va_Qi K (fx_R G SH) (fx_A G)) 0 0 (fx_A G) := by
  refine fx_met (own := RX12) (by decide +kernel) rfl (Nat.le_of_ble_eq_true rfl) (fun p e s m below meth c X hr hk h ls hl => ?_)
  obtain ⟨⟨hx, hb, hml, hown, hts⟩, hK, hQ⟩ := id X
  have hl : lv_has ls 4 [(0, .ref (G.2.2.2 + 159)), (1, .int x1), (2, .int x2)] := hl
  unfold T_X12_inside at hT
  refine lv_aload_n hx hb dX12_inside_0 rfl (lv_at hl 0 rfl) ?_
  refine lv_iconst (v := 0) hx hb dX12_inside_1 (by decide) ?_
  refine fx_putI X h (k := 159) (j := 0) sh_159 rfl fl_RX12_134 dX12_inside_2 (fun H locs h => ?_)
  obtain ⟨M12, eM12⟩ : ∃ z : Mm, z = m_up M 159 0 (0 : Int32) := ⟨_, rfl⟩
  have hT := hT M12 eM12
  rw [← eM12] at h
  refine lv_aload_n hx hb dX12_inside_5 rfl (lv_at hl 0 rfl) ?_
  refine lv_iload_n hx hb dX12_inside_6 rfl (lv_at hl 1 rfl) ?_
  refine fx_vi X h ym_X12_isParcel yi_X12_isParcel ys_X12_isParcel (fx_s7 (List.mem_of_getElem? (i := 97) rfl) rfl) sh_159 rfl (c_X12_isParcel l G hT) (As := [.int x1]) (rest := []) rfl rfl ⟨Nat.le_of_ble_eq_true rfl, Nat.le_of_ble_eq_true rfl⟩ ⟨Nat.le_refl _, Nat.le_refl _⟩ hl.1 (Nat.le_of_ble_eq_true rfl) dX12_inside_7 (fun r15 M14 H locs hT h => ?_)
  refine lv_if_eq (tgt := 23) hx hb dX12_inside_10 (by decide) (fun hc16 => ?_) (fun hc16 => ?_)
  · have hT := hT.1 hc16
    refine lv_iconst (v := -1) hx hb dX12_inside_23 (by decide) ?_
    exact fx_iret X hr hk h hT dX12_inside_24
  · have hT := hT.2 hc16
    refine lv_aload_n hx hb dX12_inside_13 rfl (lv_at hl 0 rfl) ?_
    refine lv_iload_n hx hb dX12_inside_14 rfl (lv_at hl 2 rfl) ?_
    refine lv_iconst (v := 0) hx hb dX12_inside_15 (by decide) ?_
    refine lv_iconst (v := 1) hx hb dX12_inside_16 (by decide) ?_
    refine fx_vi X h ym_X12_isIn yi_X12_isIn ys_X12_isIn (fx_s7 (List.mem_of_getElem? (i := 77) rfl) rfl) sh_159 rfl (c_X12_isIn l G hT) (As := [.int x2, .int (0 : Int32), .int (1 : Int32)]) (rest := []) rfl rfl ⟨Nat.le_of_ble_eq_true rfl, Nat.le_of_ble_eq_true rfl⟩ ⟨Nat.le_refl _, Nat.le_refl _⟩ hl.1 (Nat.le_of_ble_eq_true rfl) dX12_inside_17 (fun r19 M18 H locs hT h => ?_)
    refine lv_if_ne (tgt := 25) hx hb dX12_inside_20 (by decide) (fun hc20 => ?_) (fun hc20 => ?_)
    · have hT := hT.2 hc20
      refine lv_aload_n hx hb dX12_inside_25 rfl (lv_at hl 0 rfl) ?_
      refine fx_vv X h ym_X12_isAtNothing yi_X12_isAtNothing ys_X12_isAtNothing (fx_s8 (List.mem_of_getElem? (i := 183) rfl) rfl) sh_159 rfl (c_X12_isAtNothing l G hT) (As := []) (rest := []) rfl rfl ⟨Nat.le_of_ble_eq_true rfl, Nat.le_of_ble_eq_true rfl⟩ ⟨Nat.le_refl _, Nat.le_refl _⟩ hl.1 (Nat.le_of_ble_eq_true rfl) dX12_inside_26 (fun M22 H locs hT h => ?_)
      refine lv_iconst (v := 1) hx hb dX12_inside_29 (by decide) ?_
      refine lv_istore_n (lv' := [(3, .int (1 : Int32)), (0, .ref (G.2.2.2 + 159)), (1, .int x1), (2, .int x2)]) hx hb dX12_inside_30 rfl hl (by decide) rfl (fun ls hl => ?_)
      exact w_X12_inside_31 X hr hk 5000 x1 x2 (1 : Int32) M22 _ _ ls hT h (lv_sub hl [1, 2, 3, 0] rfl)
    · have hT := hT.1 hc20
      refine lv_iconst (v := -1) hx hb dX12_inside_23 (by decide) ?_
      exact fx_iret X hr hk h hT dX12_inside_24
/-! MockParcelsModel.coin(I)I -/
theorem dX12_coin_0 : decode cX12_coin 0 = .ok (.aload_n 0, 1) := by decide +kernel
theorem dX12_coin_1 : decode cX12_coin 1 = .ok (.iconst 0, 1) := by decide +kernel
theorem dX12_coin_2 : decode cX12_coin 2 = .ok (.putfield 134, 3) := by decide +kernel
theorem dX12_coin_5 : decode cX12_coin 5 = .ok (.iload_n 1, 1) := by decide +kernel
theorem dX12_coin_6 : decode cX12_coin 6 = .ok (.iconst (-1), 1) := by decide +kernel
theorem dX12_coin_7 : decode cX12_coin 7 = .ok (.if_icmp .ne 10, 3) := by decide +kernel
theorem dX12_coin_10 : decode cX12_coin 10 = .ok (.aload_n 0, 1) := by decide +kernel
theorem dX12_coin_11 : decode cX12_coin 11 = .ok (.iconst 0, 1) := by decide +kernel
theorem dX12_coin_12 : decode cX12_coin 12 = .ok (.putfield 436, 3) := by decide +kernel
theorem dX12_coin_15 : decode cX12_coin 15 = .ok (.iconst 0, 1) := by decide +kernel
theorem dX12_coin_16 : decode cX12_coin 16 = .ok (.ireturn, 1) := by decide +kernel
theorem dX12_coin_17 : decode cX12_coin 17 = .ok (.aload_n 0, 1) := by decide +kernel
theorem dX12_coin_18 : decode cX12_coin 18 = .ok (.iload_n 1, 1) := by decide +kernel
theorem dX12_coin_19 : decode cX12_coin 19 = .ok (.iconst 1, 1) := by decide +kernel
theorem dX12_coin_20 : decode cX12_coin 20 = .ok (.bipush 50, 2) := by decide +kernel
theorem dX12_coin_22 : decode cX12_coin 22 = .ok (.invokevirtual 157, 3) := by decide +kernel
theorem dX12_coin_25 : decode cX12_coin 25 = .ok (.ifCond .eq 12, 3) := by decide +kernel
theorem dX12_coin_28 : decode cX12_coin 28 = .ok (.aload_n 0, 1) := by decide +kernel
theorem dX12_coin_29 : decode cX12_coin 29 = .ok (.getfield 436, 3) := by decide +kernel
theorem dX12_coin_32 : decode cX12_coin 32 = .ok (.bipush 6, 2) := by decide +kernel
theorem dX12_coin_34 : decode cX12_coin 34 = .ok (.if_icmp .ne 5, 3) := by decide +kernel
theorem dX12_coin_37 : decode cX12_coin 37 = .ok (.iconst (-1), 1) := by decide +kernel
theorem dX12_coin_38 : decode cX12_coin 38 = .ok (.ireturn, 1) := by decide +kernel
theorem dX12_coin_39 : decode cX12_coin 39 = .ok (.iconst 0, 1) := by decide +kernel
theorem dX12_coin_40 : decode cX12_coin 40 = .ok (.istore_n 2, 1) := by decide +kernel
theorem dX12_coin_41 : decode cX12_coin 41 = .ok (.iload_n 2, 1) := by decide +kernel
theorem dX12_coin_42 : decode cX12_coin 42 = .ok (.aload_n 0, 1) := by decide +kernel
theorem dX12_coin_43 : decode cX12_coin 43 = .ok (.getfield 436, 3) := by decide +kernel
theorem dX12_coin_46 : decode cX12_coin 46 = .ok (.if_icmp .ge 21, 3) := by decide +kernel
theorem dX12_coin_49 : decode cX12_coin 49 = .ok (.aload_n 0, 1) := by decide +kernel
theorem dX12_coin_50 : decode cX12_coin 50 = .ok (.getfield 95, 3) := by decide +kernel
theorem dX12_coin_53 : decode cX12_coin 53 = .ok (.iload_n 2, 1) := by decide +kernel
theorem dX12_coin_54 : decode cX12_coin 54 = .ok (.iaload, 1) := by decide +kernel
theorem dX12_coin_55 : decode cX12_coin 55 = .ok (.iload_n 1, 1) := by decide +kernel
theorem dX12_coin_56 : decode cX12_coin 56 = .ok (.if_icmp .ne 5, 3) := by decide +kernel
theorem dX12_coin_59 : decode cX12_coin 59 = .ok (.iconst (-1), 1) := by decide +kernel
theorem dX12_coin_60 : decode cX12_coin 60 = .ok (.ireturn, 1) := by decide +kernel
theorem dX12_coin_61 : decode cX12_coin 61 = .ok (.iinc 2 1, 3) := by decide +kernel
theorem dX12_coin_64 : decode cX12_coin 64 = .ok (.goto (-23), 3) := by decide +kernel
theorem dX12_coin_67 : decode cX12_coin 67 = .ok (.aload_n 0, 1) := by decide +kernel
theorem dX12_coin_68 : decode cX12_coin 68 = .ok (.getfield 95, 3) := by decide +kernel
theorem dX12_coin_71 : decode cX12_coin 71 = .ok (.aload_n 0, 1) := by decide +kernel
theorem dX12_coin_72 : decode cX12_coin 72 = .ok (.getfield 436, 3) := by decide +kernel
theorem dX12_coin_75 : decode cX12_coin 75 = .ok (.iload_n 1, 1) := by decide +kernel
theorem dX12_coin_76 : decode cX12_coin 76 = .ok (.iastore, 1) := by decide +kernel
theorem dX12_coin_77 : decode cX12_coin 77 = .ok (.aload_n 0, 1) := by decide +kernel
theorem dX12_coin_78 : decode cX12_coin 78 = .ok (.aload_n 0, 1) := by decide +kernel
theorem dX12_coin_79 : decode cX12_coin 79 = .ok (.getfield 436, 3) := by decide +kernel
theorem dX12_coin_82 : decode cX12_coin 82 = .ok (.iconst 1, 1) := by decide +kernel
theorem dX12_coin_83 : decode cX12_coin 83 = .ok (.iadd, 1) := by decide +kernel
theorem dX12_coin_84 : decode cX12_coin 84 = .ok (.putfield 436, 3) := by decide +kernel
theorem dX12_coin_87 : decode cX12_coin 87 = .ok (.aload_n 0, 1) := by decide +kernel
theorem dX12_coin_88 : decode cX12_coin 88 = .ok (.getfield 436, 3) := by decide +kernel
theorem dX12_coin_91 : decode cX12_coin 91 = .ok (.ireturn, 1) := by decide +kernel
def T_X12_coin_41 : Nat → Int32 → Int32 → Mm → (Int32 → Mm → Prop) → Prop
  | 0, _, _, _, _ => False
  | n + 1, x1, x2, M, K => (((M 159 51) ≤ x2 → (vp_in (M 159 51) 6 ∧ (∀ M2 : Mm, M2 = m_up M 187 ((M 159 51)).toNatClampNeg x1 → (∀ M4 : Mm, M4 = m_up M2 159 51 ((M2 159 51) + (1 : Int32)) → (K (M4 159 51) M4))))) ∧ (¬ (M 159 51) ≤ x2 → (vp_in x2 6 ∧ (((M 187 (x2).toNatClampNeg) = x1 → (K (-1 : Int32) M)) ∧ (¬ (M 187 (x2).toNatClampNeg) = x1 → (∀ y7 : Int32, y7 = x2 + (1 : Int32) → (T_X12_coin_41 n x1 y7 M K)))))))
set_option maxHeartbeats 4000000 in
set_option maxRecDepth 100000 in
theorem w_X12_coin_41 {p : Program} {l : Launch} {e : Env} {s : State} {m : MethodId} {args : Array Value} {below : List Frame} {meth : Method} {c : Code} {G : fx_G} {K : Int32 → Mm → Prop} (X : fx_C G p s m c args cX12_coin 3 RX12) (hr : meth.sig.returnType = (some .int)) (hk : meth.locks = false) : ∀ (n : Nat) (x1 : Int32) (x2 : Int32) (M : Mm) (H : Heap) (locs : List Loc) (ls : Array Slot), T_X12_coin_41 n x1 x2 M K → fx_H G SH M s H locs → lv_has ls 3 [(0, .ref (G.2.2.2 + 159)), (1, .int x1), (2, .int x2)] → W p l e (fx_rm (1)) s m args below meth c H locs 0 0 (MQ below (va_Qi K (fx_R G SH) (fx_A G)) args s 0 0 (fx_A G)) (F0 m 41 ls []) := by
  obtain ⟨⟨hx, hb, hml, hown, hts⟩, hK, hQ⟩ := id X
  intro n
  induction n with
  | zero =>
    intro x1 x2 M H locs ls hT
    exact hT.elim
  | succ n ih =>
    intro x1 x2 M H locs ls hT h hl
    rw [T_X12_coin_41] at hT
    refine lv_iload_n hx hb dX12_coin_41 rfl (lv_at hl 2 rfl) ?_
    refine lv_aload_n hx hb dX12_coin_42 rfl (lv_at hl 0 rfl) ?_
    refine fx_getI X h (k := 159) (j := 51) sh_159 rfl fl_RX12_436 dX12_coin_43 ?_
    refine lv_icmp_ge (tgt := 67) hx hb dX12_coin_46 (by decide) (fun hc1 => ?_) (fun hc1 => ?_)
    · have hT := hT.1 hc1
      refine lv_aload_n hx hb dX12_coin_67 rfl (lv_at hl 0 rfl) ?_
      refine fx_getR X h (k := 159) (j := 52) (r := 187) sh_159 rfl fl_RX12_95 dX12_coin_68 ?_
      refine lv_aload_n hx hb dX12_coin_71 rfl (lv_at hl 0 rfl) ?_
      refine fx_getI X h (k := 159) (j := 51) sh_159 rfl fl_RX12_436 dX12_coin_72 ?_
      refine lv_iload_n hx hb dX12_coin_75 rfl (lv_at hl 1 rfl) ?_
      obtain ⟨hi3, hT⟩ := hT
      refine fx_iast X h (k := 187) sh_187 hi3 dX12_coin_76 (fun H locs h => ?_)
      obtain ⟨M2, eM2⟩ : ∃ z : Mm, z = m_up M 187 ((M 159 51)).toNatClampNeg x1 := ⟨_, rfl⟩
      have hT := hT M2 eM2
      rw [← eM2] at h
      refine lv_aload_n hx hb dX12_coin_77 rfl (lv_at hl 0 rfl) ?_
      refine lv_aload_n hx hb dX12_coin_78 rfl (lv_at hl 0 rfl) ?_
      refine fx_getI X h (k := 159) (j := 51) sh_159 rfl fl_RX12_436 dX12_coin_79 ?_
      refine lv_iconst (v := 1) hx hb dX12_coin_82 (by decide) ?_
      refine lv_iadd hx hb dX12_coin_83 ?_
      refine fx_putI X h (k := 159) (j := 51) sh_159 rfl fl_RX12_436 dX12_coin_84 (fun H locs h => ?_)
      obtain ⟨M4, eM4⟩ : ∃ z : Mm, z = m_up M2 159 51 ((M2 159 51) + (1 : Int32)) := ⟨_, rfl⟩
      have hT := hT M4 eM4
      rw [← eM4] at h
      refine lv_aload_n hx hb dX12_coin_87 rfl (lv_at hl 0 rfl) ?_
      refine fx_getI X h (k := 159) (j := 51) sh_159 rfl fl_RX12_436 dX12_coin_88 ?_
      exact fx_iret X hr hk h hT dX12_coin_91
    · have hT := hT.2 hc1
      refine lv_aload_n hx hb dX12_coin_49 rfl (lv_at hl 0 rfl) ?_
      refine fx_getR X h (k := 159) (j := 52) (r := 187) sh_159 rfl fl_RX12_95 dX12_coin_50 ?_
      refine lv_iload_n hx hb dX12_coin_53 rfl (lv_at hl 2 rfl) ?_
      obtain ⟨hi5, hT⟩ := hT
      refine fx_iald X h (k := 187) sh_187 hi5 dX12_coin_54 ?_
      refine lv_iload_n hx hb dX12_coin_55 rfl (lv_at hl 1 rfl) ?_
      refine lv_icmp_ne (tgt := 61) hx hb dX12_coin_56 (by decide) (fun hc6 => ?_) (fun hc6 => ?_)
      · have hT := hT.2 hc6
        obtain ⟨y7, ey7⟩ : ∃ z : Int32, z = x2 + (1 : Int32) := ⟨_, rfl⟩
        have hT := hT y7 ey7
        refine lv_iinc (v := y7) (lv' := [(2, .int y7), (0, .ref (G.2.2.2 + 159)), (1, .int x1)]) hx hb dX12_coin_61 hl (k := 2) rfl (by rw [ey7]; rfl) (by decide) rfl (fun ls hl => ?_)
        refine lv_goto (tgt := 41) hx hb dX12_coin_64 (by decide) ?_
        exact ih x1 y7 M _ _ ls hT h (lv_sub hl [1, 2, 0] rfl)
      · have hT := hT.1 hc6
        refine lv_iconst (v := -1) hx hb dX12_coin_59 (by decide) ?_
        exact fx_iret X hr hk h hT dX12_coin_60
def T_X12_coin (x1 : Int32) (M : Mm) (K : Int32 → Mm → Prop) : Prop := (∀ M8 : Mm, M8 = m_up M 159 0 (0 : Int32) → ((x1 = (-1 : Int32) → (∀ M15 : Mm, M15 = m_up M8 159 51 (0 : Int32) → (K (0 : Int32) M15))) ∧ (¬ x1 = (-1 : Int32) → (T_X12_isIn x1 (1 : Int32) (50 : Int32) M8 (fun r12 M11 => ((r12 = 0 → (K (-1 : Int32) M11)) ∧ (¬ r12 = 0 → (((M11 159 51) = (6 : Int32) → (K (-1 : Int32) M11)) ∧ (¬ (M11 159 51) = (6 : Int32) → (T_X12_coin_41 5000 x1 (0 : Int32) M11 K))))))))))
set_option maxHeartbeats 4000000 in
set_option maxRecDepth 100000 in
theorem c_X12_coin (l : Launch) (G : fx_G) {x1 : Int32} {M : Mm} {K : Int32 → Mm → Prop} (hT : T_X12_coin x1 M K) : Met l yX12_coin (fx_ws yX12_coin cX12_coin 3 (some .int)) (fx_rm (1)) (va_Pc [.ref (G.2.2.2 + 159), .int x1] (fx_P G SH M)) (va_Qi K (fx_R G SH) (fx_A G)) 0 0 (fx_A G) := by
  refine fx_met (own := RX12) (by decide +kernel) rfl (Nat.le_of_ble_eq_true rfl) (fun p e s m below meth c X hr hk h ls hl => ?_)
  obtain ⟨⟨hx, hb, hml, hown, hts⟩, hK, hQ⟩ := id X
  have hl : lv_has ls 3 [(0, .ref (G.2.2.2 + 159)), (1, .int x1)] := hl
  unfold T_X12_coin at hT
  refine lv_aload_n hx hb dX12_coin_0 rfl (lv_at hl 0 rfl) ?_
  refine lv_iconst (v := 0) hx hb dX12_coin_1 (by decide) ?_
  refine fx_putI X h (k := 159) (j := 0) sh_159 rfl fl_RX12_134 dX12_coin_2 (fun H locs h => ?_)
  obtain ⟨M8, eM8⟩ : ∃ z : Mm, z = m_up M 159 0 (0 : Int32) := ⟨_, rfl⟩
  have hT := hT M8 eM8
  rw [← eM8] at h
  refine lv_iload_n hx hb dX12_coin_5 rfl (lv_at hl 1 rfl) ?_
  refine lv_iconst (v := -1) hx hb dX12_coin_6 (by decide) ?_
  refine lv_icmp_ne (tgt := 17) hx hb dX12_coin_7 (by decide) (fun hc9 => ?_) (fun hc9 => ?_)
  · have hT := hT.2 hc9
    refine lv_aload_n hx hb dX12_coin_17 rfl (lv_at hl 0 rfl) ?_
    refine lv_iload_n hx hb dX12_coin_18 rfl (lv_at hl 1 rfl) ?_
    refine lv_iconst (v := 1) hx hb dX12_coin_19 (by decide) ?_
    refine lv_bipush (v := 50) hx hb dX12_coin_20 (by decide) ?_
    refine fx_vi X h ym_X12_isIn yi_X12_isIn ys_X12_isIn (fx_s7 (List.mem_of_getElem? (i := 77) rfl) rfl) sh_159 rfl (c_X12_isIn l G hT) (As := [.int x1, .int (1 : Int32), .int (50 : Int32)]) (rest := []) rfl rfl ⟨Nat.le_of_ble_eq_true rfl, Nat.le_of_ble_eq_true rfl⟩ ⟨Nat.le_refl _, Nat.le_refl _⟩ hl.1 (Nat.le_of_ble_eq_true rfl) dX12_coin_22 (fun r12 M11 H locs hT h => ?_)
    refine lv_if_eq (tgt := 37) hx hb dX12_coin_25 (by decide) (fun hc13 => ?_) (fun hc13 => ?_)
    · have hT := hT.1 hc13
      refine lv_iconst (v := -1) hx hb dX12_coin_37 (by decide) ?_
      exact fx_iret X hr hk h hT dX12_coin_38
    · have hT := hT.2 hc13
      refine lv_aload_n hx hb dX12_coin_28 rfl (lv_at hl 0 rfl) ?_
      refine fx_getI X h (k := 159) (j := 51) sh_159 rfl fl_RX12_436 dX12_coin_29 ?_
      refine lv_bipush (v := 6) hx hb dX12_coin_32 (by decide) ?_
      refine lv_icmp_ne (tgt := 39) hx hb dX12_coin_34 (by decide) (fun hc14 => ?_) (fun hc14 => ?_)
      · have hT := hT.2 hc14
        refine lv_iconst (v := 0) hx hb dX12_coin_39 (by decide) ?_
        refine lv_istore_n (lv' := [(2, .int (0 : Int32)), (0, .ref (G.2.2.2 + 159)), (1, .int x1)]) hx hb dX12_coin_40 rfl hl (by decide) rfl (fun ls hl => ?_)
        exact w_X12_coin_41 X hr hk 5000 x1 (0 : Int32) M11 _ _ ls hT h (lv_sub hl [1, 2, 0] rfl)
      · have hT := hT.1 hc14
        refine lv_iconst (v := -1) hx hb dX12_coin_37 (by decide) ?_
        exact fx_iret X hr hk h hT dX12_coin_38
  · have hT := hT.1 hc9
    refine lv_aload_n hx hb dX12_coin_10 rfl (lv_at hl 0 rfl) ?_
    refine lv_iconst (v := 0) hx hb dX12_coin_11 (by decide) ?_
    refine fx_putI X h (k := 159) (j := 51) sh_159 rfl fl_RX12_436 dX12_coin_12 (fun H locs h => ?_)
    obtain ⟨M15, eM15⟩ : ∃ z : Mm, z = m_up M8 159 51 (0 : Int32) := ⟨_, rfl⟩
    have hT := hT M15 eM15
    rw [← eM15] at h
    refine lv_iconst (v := 0) hx hb dX12_coin_15 (by decide) ?_
    exact fx_iret X hr hk h hT dX12_coin_16
/-! MockParcelsModel.pays(II)I -/
theorem dX12_pays_0 : decode cX12_pays 0 = .ok (.aload_n 0, 1) := by decide +kernel
theorem dX12_pays_1 : decode cX12_pays 1 = .ok (.iconst 0, 1) := by decide +kernel
theorem dX12_pays_2 : decode cX12_pays 2 = .ok (.putfield 134, 3) := by decide +kernel
theorem dX12_pays_5 : decode cX12_pays 5 = .ok (.aload_n 0, 1) := by decide +kernel
theorem dX12_pays_6 : decode cX12_pays 6 = .ok (.iload_n 1, 1) := by decide +kernel
theorem dX12_pays_7 : decode cX12_pays 7 = .ok (.iconst 0, 1) := by decide +kernel
theorem dX12_pays_8 : decode cX12_pays 8 = .ok (.sipush 999, 3) := by decide +kernel
theorem dX12_pays_11 : decode cX12_pays 11 = .ok (.invokevirtual 157, 3) := by decide +kernel
theorem dX12_pays_14 : decode cX12_pays 14 = .ok (.ifCond .eq 13, 3) := by decide +kernel
theorem dX12_pays_17 : decode cX12_pays 17 = .ok (.aload_n 0, 1) := by decide +kernel
theorem dX12_pays_18 : decode cX12_pays 18 = .ok (.iload_n 2, 1) := by decide +kernel
theorem dX12_pays_19 : decode cX12_pays 19 = .ok (.iconst 0, 1) := by decide +kernel
theorem dX12_pays_20 : decode cX12_pays 20 = .ok (.iconst 1, 1) := by decide +kernel
theorem dX12_pays_21 : decode cX12_pays 21 = .ok (.invokevirtual 157, 3) := by decide +kernel
theorem dX12_pays_24 : decode cX12_pays 24 = .ok (.ifCond .ne 5, 3) := by decide +kernel
theorem dX12_pays_27 : decode cX12_pays 27 = .ok (.iconst (-1), 1) := by decide +kernel
theorem dX12_pays_28 : decode cX12_pays 28 = .ok (.ireturn, 1) := by decide +kernel
theorem dX12_pays_29 : decode cX12_pays 29 = .ok (.aload_n 0, 1) := by decide +kernel
theorem dX12_pays_30 : decode cX12_pays 30 = .ok (.invokevirtual 427, 3) := by decide +kernel
theorem dX12_pays_33 : decode cX12_pays 33 = .ok (.iconst 0, 1) := by decide +kernel
theorem dX12_pays_34 : decode cX12_pays 34 = .ok (.istore_n 3, 1) := by decide +kernel
theorem dX12_pays_35 : decode cX12_pays 35 = .ok (.iload_n 3, 1) := by decide +kernel
theorem dX12_pays_36 : decode cX12_pays 36 = .ok (.aload_n 0, 1) := by decide +kernel
theorem dX12_pays_37 : decode cX12_pays 37 = .ok (.getfield 436, 3) := by decide +kernel
theorem dX12_pays_40 : decode cX12_pays 40 = .ok (.if_icmp .ge 20, 3) := by decide +kernel
theorem dX12_pays_43 : decode cX12_pays 43 = .ok (.aload_n 0, 1) := by decide +kernel
theorem dX12_pays_44 : decode cX12_pays 44 = .ok (.aload_n 0, 1) := by decide +kernel
theorem dX12_pays_45 : decode cX12_pays 45 = .ok (.getfield 95, 3) := by decide +kernel
theorem dX12_pays_48 : decode cX12_pays 48 = .ok (.iload_n 3, 1) := by decide +kernel
theorem dX12_pays_49 : decode cX12_pays 49 = .ok (.iaload, 1) := by decide +kernel
theorem dX12_pays_50 : decode cX12_pays 50 = .ok (.iload_n 1, 1) := by decide +kernel
theorem dX12_pays_51 : decode cX12_pays 51 = .ok (.invokevirtual 430, 3) := by decide +kernel
theorem dX12_pays_54 : decode cX12_pays 54 = .ok (.iinc 3 1, 3) := by decide +kernel
theorem dX12_pays_57 : decode cX12_pays 57 = .ok (.goto (-22), 3) := by decide +kernel
theorem dX12_pays_60 : decode cX12_pays 60 = .ok (.aload_n 0, 1) := by decide +kernel
theorem dX12_pays_61 : decode cX12_pays 61 = .ok (.iload_n 1, 1) := by decide +kernel
theorem dX12_pays_62 : decode cX12_pays 62 = .ok (.iconst 1, 1) := by decide +kernel
theorem dX12_pays_63 : decode cX12_pays 63 = .ok (.iload_n 2, 1) := by decide +kernel
theorem dX12_pays_64 : decode cX12_pays 64 = .ok (.isub, 1) := by decide +kernel
theorem dX12_pays_65 : decode cX12_pays 65 = .ok (.invokevirtual 433, 3) := by decide +kernel
theorem dX12_pays_68 : decode cX12_pays 68 = .ok (.ireturn, 1) := by decide +kernel
def T_X12_pays_35 : Nat → Int32 → Int32 → Int32 → Mm → (Int32 → Mm → Prop) → Prop
  | 0, _, _, _, _, _ => False
  | n + 1, x1, x2, x3, M, K => (((M 159 51) ≤ x3 → (T_X12_cameTo x1 ((1 : Int32) - x2) M (fun r4 M3 => (K r4 M3)))) ∧ (¬ (M 159 51) ≤ x3 → (vp_in x3 6 ∧ (T_X12_goesBySteps (M 187 (x3).toNatClampNeg) x1 M (fun M7 => (∀ y8 : Int32, y8 = x3 + (1 : Int32) → (T_X12_pays_35 n x1 x2 y8 M7 K)))))))
set_option maxHeartbeats 4000000 in
set_option maxRecDepth 100000 in
theorem w_X12_pays_35 {p : Program} {l : Launch} {e : Env} {s : State} {m : MethodId} {args : Array Value} {below : List Frame} {meth : Method} {c : Code} {G : fx_G} {K : Int32 → Mm → Prop} (X : fx_C G p s m c args cX12_pays 4 RX12) (hr : meth.sig.returnType = (some .int)) (hk : meth.locks = false) : ∀ (n : Nat) (x1 : Int32) (x2 : Int32) (x3 : Int32) (M : Mm) (H : Heap) (locs : List Loc) (ls : Array Slot), T_X12_pays_35 n x1 x2 x3 M K → fx_H G SH M s H locs → lv_has ls 4 [(0, .ref (G.2.2.2 + 159)), (1, .int x1), (2, .int x2), (3, .int x3)] → W p l e (fx_rm (2)) s m args below meth c H locs 0 0 (MQ below (va_Qi K (fx_R G SH) (fx_A G)) args s 0 0 (fx_A G)) (F0 m 35 ls []) := by
  obtain ⟨⟨hx, hb, hml, hown, hts⟩, hK, hQ⟩ := id X
  intro n
  induction n with
  | zero =>
    intro x1 x2 x3 M H locs ls hT
    exact hT.elim
  | succ n ih =>
    intro x1 x2 x3 M H locs ls hT h hl
    rw [T_X12_pays_35] at hT
    refine lv_iload_n hx hb dX12_pays_35 rfl (lv_at hl 3 rfl) ?_
    refine lv_aload_n hx hb dX12_pays_36 rfl (lv_at hl 0 rfl) ?_
    refine fx_getI X h (k := 159) (j := 51) sh_159 rfl fl_RX12_436 dX12_pays_37 ?_
    refine lv_icmp_ge (tgt := 60) hx hb dX12_pays_40 (by decide) (fun hc1 => ?_) (fun hc1 => ?_)
    · have hT := hT.1 hc1
      refine lv_aload_n hx hb dX12_pays_60 rfl (lv_at hl 0 rfl) ?_
      refine lv_iload_n hx hb dX12_pays_61 rfl (lv_at hl 1 rfl) ?_
      refine lv_iconst (v := 1) hx hb dX12_pays_62 (by decide) ?_
      refine lv_iload_n hx hb dX12_pays_63 rfl (lv_at hl 2 rfl) ?_
      refine lv_isub hx hb dX12_pays_64 ?_
      refine fx_vi X h ym_X12_cameTo yi_X12_cameTo ys_X12_cameTo (fx_s8 (List.mem_of_getElem? (i := 197) rfl) rfl) sh_159 rfl (c_X12_cameTo l G hT) (As := [.int x1, .int ((1 : Int32) - x2)]) (rest := []) rfl rfl ⟨Nat.le_of_ble_eq_true rfl, Nat.le_of_ble_eq_true rfl⟩ ⟨Nat.le_refl _, Nat.le_refl _⟩ hl.1 (Nat.le_of_ble_eq_true rfl) dX12_pays_65 (fun r4 M3 H locs hT h => ?_)
      exact fx_iret X hr hk h hT dX12_pays_68
    · have hT := hT.2 hc1
      refine lv_aload_n hx hb dX12_pays_43 rfl (lv_at hl 0 rfl) ?_
      refine lv_aload_n hx hb dX12_pays_44 rfl (lv_at hl 0 rfl) ?_
      refine fx_getR X h (k := 159) (j := 52) (r := 187) sh_159 rfl fl_RX12_95 dX12_pays_45 ?_
      refine lv_iload_n hx hb dX12_pays_48 rfl (lv_at hl 3 rfl) ?_
      obtain ⟨hi5, hT⟩ := hT
      refine fx_iald X h (k := 187) sh_187 hi5 dX12_pays_49 ?_
      refine lv_iload_n hx hb dX12_pays_50 rfl (lv_at hl 1 rfl) ?_
      refine fx_vv X h ym_X12_goesBySteps yi_X12_goesBySteps ys_X12_goesBySteps (fx_s8 (List.mem_of_getElem? (i := 188) rfl) rfl) sh_159 rfl (c_X12_goesBySteps l G hT) (As := [.int (M 187 (x3).toNatClampNeg), .int x1]) (rest := []) rfl rfl ⟨Nat.le_of_ble_eq_true rfl, Nat.le_of_ble_eq_true rfl⟩ ⟨Nat.le_refl _, Nat.le_refl _⟩ hl.1 (Nat.le_of_ble_eq_true rfl) dX12_pays_51 (fun M7 H locs hT h => ?_)
      obtain ⟨y8, ey8⟩ : ∃ z : Int32, z = x3 + (1 : Int32) := ⟨_, rfl⟩
      have hT := hT y8 ey8
      refine lv_iinc (v := y8) (lv' := [(3, .int y8), (0, .ref (G.2.2.2 + 159)), (1, .int x1), (2, .int x2)]) hx hb dX12_pays_54 hl (k := 3) rfl (by rw [ey8]; rfl) (by decide) rfl (fun ls hl => ?_)
      refine lv_goto (tgt := 35) hx hb dX12_pays_57 (by decide) ?_
      exact ih x1 x2 y8 M7 _ _ ls hT h (lv_sub hl [1, 2, 3, 0] rfl)
def T_X12_pays (x1 : Int32) (x2 : Int32) (M : Mm) (K : Int32 → Mm → Prop) : Prop := (∀ M9 : Mm, M9 = m_up M 159 0 (0 : Int32) → (T_X12_isIn x1 (0 : Int32) (999 : Int32) M9 (fun r12 M11 => ((r12 = 0 → (K (-1 : Int32) M11)) ∧ (¬ r12 = 0 → (T_X12_isIn x2 (0 : Int32) (1 : Int32) M11 (fun r16 M15 => ((r16 = 0 → (K (-1 : Int32) M15)) ∧ (¬ r16 = 0 → (T_X12_isAtNothing M15 (fun M19 => (T_X12_pays_35 5000 x1 x2 (0 : Int32) M19 K))))))))))))
set_option maxHeartbeats 4000000 in
set_option maxRecDepth 100000 in
theorem c_X12_pays (l : Launch) (G : fx_G) {x1 : Int32} {x2 : Int32} {M : Mm} {K : Int32 → Mm → Prop} (hT : T_X12_pays x1 x2 M K) : Met l yX12_pays (fx_ws yX12_pays cX12_pays 4 (some .int)) (fx_rm (2)) (va_Pc [.ref (G.2.2.2 + 159), .int x1, .int x2] (fx_P G SH M)) (va_Qi K (fx_R G SH) (fx_A G)) 0 0 (fx_A G) := by
  refine fx_met (own := RX12) (by decide +kernel) rfl (Nat.le_of_ble_eq_true rfl) (fun p e s m below meth c X hr hk h ls hl => ?_)
  obtain ⟨⟨hx, hb, hml, hown, hts⟩, hK, hQ⟩ := id X
  have hl : lv_has ls 4 [(0, .ref (G.2.2.2 + 159)), (1, .int x1), (2, .int x2)] := hl
  unfold T_X12_pays at hT
  refine lv_aload_n hx hb dX12_pays_0 rfl (lv_at hl 0 rfl) ?_
  refine lv_iconst (v := 0) hx hb dX12_pays_1 (by decide) ?_
  refine fx_putI X h (k := 159) (j := 0) sh_159 rfl fl_RX12_134 dX12_pays_2 (fun H locs h => ?_)
  obtain ⟨M9, eM9⟩ : ∃ z : Mm, z = m_up M 159 0 (0 : Int32) := ⟨_, rfl⟩
  have hT := hT M9 eM9
  rw [← eM9] at h
  refine lv_aload_n hx hb dX12_pays_5 rfl (lv_at hl 0 rfl) ?_
  refine lv_iload_n hx hb dX12_pays_6 rfl (lv_at hl 1 rfl) ?_
  refine lv_iconst (v := 0) hx hb dX12_pays_7 (by decide) ?_
  refine lv_sipush (v := 999) hx hb dX12_pays_8 (by decide) ?_
  refine fx_vi X h ym_X12_isIn yi_X12_isIn ys_X12_isIn (fx_s7 (List.mem_of_getElem? (i := 77) rfl) rfl) sh_159 rfl (c_X12_isIn l G hT) (As := [.int x1, .int (0 : Int32), .int (999 : Int32)]) (rest := []) rfl rfl ⟨Nat.le_of_ble_eq_true rfl, Nat.le_of_ble_eq_true rfl⟩ ⟨Nat.le_refl _, Nat.le_refl _⟩ hl.1 (Nat.le_of_ble_eq_true rfl) dX12_pays_11 (fun r12 M11 H locs hT h => ?_)
  refine lv_if_eq (tgt := 27) hx hb dX12_pays_14 (by decide) (fun hc13 => ?_) (fun hc13 => ?_)
  · have hT := hT.1 hc13
    refine lv_iconst (v := -1) hx hb dX12_pays_27 (by decide) ?_
    exact fx_iret X hr hk h hT dX12_pays_28
  · have hT := hT.2 hc13
    refine lv_aload_n hx hb dX12_pays_17 rfl (lv_at hl 0 rfl) ?_
    refine lv_iload_n hx hb dX12_pays_18 rfl (lv_at hl 2 rfl) ?_
    refine lv_iconst (v := 0) hx hb dX12_pays_19 (by decide) ?_
    refine lv_iconst (v := 1) hx hb dX12_pays_20 (by decide) ?_
    refine fx_vi X h ym_X12_isIn yi_X12_isIn ys_X12_isIn (fx_s7 (List.mem_of_getElem? (i := 77) rfl) rfl) sh_159 rfl (c_X12_isIn l G hT) (As := [.int x2, .int (0 : Int32), .int (1 : Int32)]) (rest := []) rfl rfl ⟨Nat.le_of_ble_eq_true rfl, Nat.le_of_ble_eq_true rfl⟩ ⟨Nat.le_refl _, Nat.le_refl _⟩ hl.1 (Nat.le_of_ble_eq_true rfl) dX12_pays_21 (fun r16 M15 H locs hT h => ?_)
    refine lv_if_ne (tgt := 29) hx hb dX12_pays_24 (by decide) (fun hc17 => ?_) (fun hc17 => ?_)
    · have hT := hT.2 hc17
      refine lv_aload_n hx hb dX12_pays_29 rfl (lv_at hl 0 rfl) ?_
      refine fx_vv X h ym_X12_isAtNothing yi_X12_isAtNothing ys_X12_isAtNothing (fx_s8 (List.mem_of_getElem? (i := 183) rfl) rfl) sh_159 rfl (c_X12_isAtNothing l G hT) (As := []) (rest := []) rfl rfl ⟨Nat.le_of_ble_eq_true rfl, Nat.le_of_ble_eq_true rfl⟩ ⟨Nat.le_refl _, Nat.le_refl _⟩ hl.1 (Nat.le_of_ble_eq_true rfl) dX12_pays_30 (fun M19 H locs hT h => ?_)
      refine lv_iconst (v := 0) hx hb dX12_pays_33 (by decide) ?_
      refine lv_istore_n (lv' := [(3, .int (0 : Int32)), (0, .ref (G.2.2.2 + 159)), (1, .int x1), (2, .int x2)]) hx hb dX12_pays_34 rfl hl (by decide) rfl (fun ls hl => ?_)
      exact w_X12_pays_35 X hr hk 5000 x1 x2 (0 : Int32) M19 _ _ ls hT h (lv_sub hl [1, 2, 3, 0] rfl)
    · have hT := hT.1 hc17
      refine lv_iconst (v := -1) hx hb dX12_pays_27 (by decide) ?_
      exact fx_iret X hr hk h hT dX12_pays_28
/-! MockParcelsModel.length(I)I -/
theorem dX12_length_0 : decode cX12_length 0 = .ok (.aload_n 0, 1) := by decide +kernel
theorem dX12_length_1 : decode cX12_length 1 = .ok (.iconst 0, 1) := by decide +kernel
theorem dX12_length_2 : decode cX12_length 2 = .ok (.putfield 134, 3) := by decide +kernel
theorem dX12_length_5 : decode cX12_length 5 = .ok (.iload_n 1, 1) := by decide +kernel
theorem dX12_length_6 : decode cX12_length 6 = .ok (.iconst (-1), 1) := by decide +kernel
theorem dX12_length_7 : decode cX12_length 7 = .ok (.if_icmp .ne 10, 3) := by decide +kernel
theorem dX12_length_10 : decode cX12_length 10 = .ok (.aload_n 0, 1) := by decide +kernel
theorem dX12_length_11 : decode cX12_length 11 = .ok (.iconst 0, 1) := by decide +kernel
theorem dX12_length_12 : decode cX12_length 12 = .ok (.putfield 439, 3) := by decide +kernel
theorem dX12_length_15 : decode cX12_length 15 = .ok (.iconst 0, 1) := by decide +kernel
theorem dX12_length_16 : decode cX12_length 16 = .ok (.ireturn, 1) := by decide +kernel
theorem dX12_length_17 : decode cX12_length 17 = .ok (.aload_n 0, 1) := by decide +kernel
theorem dX12_length_18 : decode cX12_length 18 = .ok (.iload_n 1, 1) := by decide +kernel
theorem dX12_length_19 : decode cX12_length 19 = .ok (.iconst 1, 1) := by decide +kernel
theorem dX12_length_20 : decode cX12_length 20 = .ok (.bipush 60, 2) := by decide +kernel
theorem dX12_length_22 : decode cX12_length 22 = .ok (.invokevirtual 157, 3) := by decide +kernel
theorem dX12_length_25 : decode cX12_length 25 = .ok (.ifCond .eq 12, 3) := by decide +kernel
theorem dX12_length_28 : decode cX12_length 28 = .ok (.aload_n 0, 1) := by decide +kernel
theorem dX12_length_29 : decode cX12_length 29 = .ok (.getfield 439, 3) := by decide +kernel
theorem dX12_length_32 : decode cX12_length 32 = .ok (.bipush 9, 2) := by decide +kernel
theorem dX12_length_34 : decode cX12_length 34 = .ok (.if_icmp .ne 5, 3) := by decide +kernel
theorem dX12_length_37 : decode cX12_length 37 = .ok (.iconst (-1), 1) := by decide +kernel
theorem dX12_length_38 : decode cX12_length 38 = .ok (.ireturn, 1) := by decide +kernel
theorem dX12_length_39 : decode cX12_length 39 = .ok (.aload_n 0, 1) := by decide +kernel
theorem dX12_length_40 : decode cX12_length 40 = .ok (.getfield 98, 3) := by decide +kernel
theorem dX12_length_43 : decode cX12_length 43 = .ok (.aload_n 0, 1) := by decide +kernel
theorem dX12_length_44 : decode cX12_length 44 = .ok (.getfield 439, 3) := by decide +kernel
theorem dX12_length_47 : decode cX12_length 47 = .ok (.iload_n 1, 1) := by decide +kernel
theorem dX12_length_48 : decode cX12_length 48 = .ok (.iastore, 1) := by decide +kernel
theorem dX12_length_49 : decode cX12_length 49 = .ok (.aload_n 0, 1) := by decide +kernel
theorem dX12_length_50 : decode cX12_length 50 = .ok (.aload_n 0, 1) := by decide +kernel
theorem dX12_length_51 : decode cX12_length 51 = .ok (.getfield 439, 3) := by decide +kernel
theorem dX12_length_54 : decode cX12_length 54 = .ok (.iconst 1, 1) := by decide +kernel
theorem dX12_length_55 : decode cX12_length 55 = .ok (.iadd, 1) := by decide +kernel
theorem dX12_length_56 : decode cX12_length 56 = .ok (.putfield 439, 3) := by decide +kernel
theorem dX12_length_59 : decode cX12_length 59 = .ok (.aload_n 0, 1) := by decide +kernel
theorem dX12_length_60 : decode cX12_length 60 = .ok (.getfield 439, 3) := by decide +kernel
theorem dX12_length_63 : decode cX12_length 63 = .ok (.ireturn, 1) := by decide +kernel
def T_X12_length (x1 : Int32) (M : Mm) (K : Int32 → Mm → Prop) : Prop := (∀ M1 : Mm, M1 = m_up M 159 0 (0 : Int32) → ((x1 = (-1 : Int32) → (∀ M11 : Mm, M11 = m_up M1 159 53 (0 : Int32) → (K (0 : Int32) M11))) ∧ (¬ x1 = (-1 : Int32) → (T_X12_isIn x1 (1 : Int32) (60 : Int32) M1 (fun r5 M4 => ((r5 = 0 → (K (-1 : Int32) M4)) ∧ (¬ r5 = 0 → (((M4 159 53) = (9 : Int32) → (K (-1 : Int32) M4)) ∧ (¬ (M4 159 53) = (9 : Int32) → (vp_in (M4 159 53) 9 ∧ (∀ M8 : Mm, M8 = m_up M4 188 ((M4 159 53)).toNatClampNeg x1 → (∀ M10 : Mm, M10 = m_up M8 159 53 ((M8 159 53) + (1 : Int32)) → (K (M10 159 53) M10)))))))))))))
set_option maxHeartbeats 4000000 in
set_option maxRecDepth 100000 in
theorem c_X12_length (l : Launch) (G : fx_G) {x1 : Int32} {M : Mm} {K : Int32 → Mm → Prop} (hT : T_X12_length x1 M K) : Met l yX12_length (fx_ws yX12_length cX12_length 2 (some .int)) (fx_rm (1)) (va_Pc [.ref (G.2.2.2 + 159), .int x1] (fx_P G SH M)) (va_Qi K (fx_R G SH) (fx_A G)) 0 0 (fx_A G) := by
  refine fx_met (own := RX12) (by decide +kernel) rfl (Nat.le_of_ble_eq_true rfl) (fun p e s m below meth c X hr hk h ls hl => ?_)
  obtain ⟨⟨hx, hb, hml, hown, hts⟩, hK, hQ⟩ := id X
  have hl : lv_has ls 2 [(0, .ref (G.2.2.2 + 159)), (1, .int x1)] := hl
  unfold T_X12_length at hT
  refine lv_aload_n hx hb dX12_length_0 rfl (lv_at hl 0 rfl) ?_
  refine lv_iconst (v := 0) hx hb dX12_length_1 (by decide) ?_
  refine fx_putI X h (k := 159) (j := 0) sh_159 rfl fl_RX12_134 dX12_length_2 (fun H locs h => ?_)
  obtain ⟨M1, eM1⟩ : ∃ z : Mm, z = m_up M 159 0 (0 : Int32) := ⟨_, rfl⟩
  have hT := hT M1 eM1
  rw [← eM1] at h
  refine lv_iload_n hx hb dX12_length_5 rfl (lv_at hl 1 rfl) ?_
  refine lv_iconst (v := -1) hx hb dX12_length_6 (by decide) ?_
  refine lv_icmp_ne (tgt := 17) hx hb dX12_length_7 (by decide) (fun hc2 => ?_) (fun hc2 => ?_)
  · have hT := hT.2 hc2
    refine lv_aload_n hx hb dX12_length_17 rfl (lv_at hl 0 rfl) ?_
    refine lv_iload_n hx hb dX12_length_18 rfl (lv_at hl 1 rfl) ?_
    refine lv_iconst (v := 1) hx hb dX12_length_19 (by decide) ?_
    refine lv_bipush (v := 60) hx hb dX12_length_20 (by decide) ?_
    refine fx_vi X h ym_X12_isIn yi_X12_isIn ys_X12_isIn (fx_s7 (List.mem_of_getElem? (i := 77) rfl) rfl) sh_159 rfl (c_X12_isIn l G hT) (As := [.int x1, .int (1 : Int32), .int (60 : Int32)]) (rest := []) rfl rfl ⟨Nat.le_of_ble_eq_true rfl, Nat.le_of_ble_eq_true rfl⟩ ⟨Nat.le_refl _, Nat.le_refl _⟩ hl.1 (Nat.le_of_ble_eq_true rfl) dX12_length_22 (fun r5 M4 H locs hT h => ?_)
    refine lv_if_eq (tgt := 37) hx hb dX12_length_25 (by decide) (fun hc6 => ?_) (fun hc6 => ?_)
    · have hT := hT.1 hc6
      refine lv_iconst (v := -1) hx hb dX12_length_37 (by decide) ?_
      exact fx_iret X hr hk h hT dX12_length_38
    · have hT := hT.2 hc6
      refine lv_aload_n hx hb dX12_length_28 rfl (lv_at hl 0 rfl) ?_
      refine fx_getI X h (k := 159) (j := 53) sh_159 rfl fl_RX12_439 dX12_length_29 ?_
      refine lv_bipush (v := 9) hx hb dX12_length_32 (by decide) ?_
      refine lv_icmp_ne (tgt := 39) hx hb dX12_length_34 (by decide) (fun hc7 => ?_) (fun hc7 => ?_)
      · have hT := hT.2 hc7
        refine lv_aload_n hx hb dX12_length_39 rfl (lv_at hl 0 rfl) ?_
        refine fx_getR X h (k := 159) (j := 54) (r := 188) sh_159 rfl fl_RX12_98 dX12_length_40 ?_
        refine lv_aload_n hx hb dX12_length_43 rfl (lv_at hl 0 rfl) ?_
        refine fx_getI X h (k := 159) (j := 53) sh_159 rfl fl_RX12_439 dX12_length_44 ?_
        refine lv_iload_n hx hb dX12_length_47 rfl (lv_at hl 1 rfl) ?_
        obtain ⟨hi9, hT⟩ := hT
        refine fx_iast X h (k := 188) sh_188 hi9 dX12_length_48 (fun H locs h => ?_)
        obtain ⟨M8, eM8⟩ : ∃ z : Mm, z = m_up M4 188 ((M4 159 53)).toNatClampNeg x1 := ⟨_, rfl⟩
        have hT := hT M8 eM8
        rw [← eM8] at h
        refine lv_aload_n hx hb dX12_length_49 rfl (lv_at hl 0 rfl) ?_
        refine lv_aload_n hx hb dX12_length_50 rfl (lv_at hl 0 rfl) ?_
        refine fx_getI X h (k := 159) (j := 53) sh_159 rfl fl_RX12_439 dX12_length_51 ?_
        refine lv_iconst (v := 1) hx hb dX12_length_54 (by decide) ?_
        refine lv_iadd hx hb dX12_length_55 ?_
        refine fx_putI X h (k := 159) (j := 53) sh_159 rfl fl_RX12_439 dX12_length_56 (fun H locs h => ?_)
        obtain ⟨M10, eM10⟩ : ∃ z : Mm, z = m_up M8 159 53 ((M8 159 53) + (1 : Int32)) := ⟨_, rfl⟩
        have hT := hT M10 eM10
        rw [← eM10] at h
        refine lv_aload_n hx hb dX12_length_59 rfl (lv_at hl 0 rfl) ?_
        refine fx_getI X h (k := 159) (j := 53) sh_159 rfl fl_RX12_439 dX12_length_60 ?_
        exact fx_iret X hr hk h hT dX12_length_63
      · have hT := hT.1 hc7
        refine lv_iconst (v := -1) hx hb dX12_length_37 (by decide) ?_
        exact fx_iret X hr hk h hT dX12_length_38
  · have hT := hT.1 hc2
    refine lv_aload_n hx hb dX12_length_10 rfl (lv_at hl 0 rfl) ?_
    refine lv_iconst (v := 0) hx hb dX12_length_11 (by decide) ?_
    refine fx_putI X h (k := 159) (j := 53) sh_159 rfl fl_RX12_439 dX12_length_12 (fun H locs h => ?_)
    obtain ⟨M11, eM11⟩ : ∃ z : Mm, z = m_up M1 159 53 (0 : Int32) := ⟨_, rfl⟩
    have hT := hT M11 eM11
    rw [← eM11] at h
    refine lv_iconst (v := 0) hx hb dX12_length_15 (by decide) ?_
    exact fx_iret X hr hk h hT dX12_length_16
/-! MockParcelsModel.withLength(III)I -/
theorem dX12_withLength_0 : decode cX12_withLength 0 = .ok (.iload_n 1, 1) := by decide +kernel
theorem dX12_withLength_1 : decode cX12_withLength 1 = .ok (.bipush 100, 2) := by decide +kernel
theorem dX12_withLength_3 : decode cX12_withLength 3 = .ok (.idiv, 1) := by decide +kernel
theorem dX12_withLength_4 : decode cX12_withLength 4 = .ok (.istore 4, 2) := by decide +kernel
theorem dX12_withLength_6 : decode cX12_withLength 6 = .ok (.iload_n 1, 1) := by decide +kernel
theorem dX12_withLength_7 : decode cX12_withLength 7 = .ok (.bipush 100, 2) := by decide +kernel
theorem dX12_withLength_9 : decode cX12_withLength 9 = .ok (.irem, 1) := by decide +kernel
theorem dX12_withLength_10 : decode cX12_withLength 10 = .ok (.istore 5, 2) := by decide +kernel
theorem dX12_withLength_12 : decode cX12_withLength 12 = .ok (.iload 4, 2) := by decide +kernel
theorem dX12_withLength_14 : decode cX12_withLength 14 = .ok (.ifCond .le 24, 3) := by decide +kernel
theorem dX12_withLength_17 : decode cX12_withLength 17 = .ok (.iload 5, 2) := by decide +kernel
theorem dX12_withLength_19 : decode cX12_withLength 19 = .ok (.iload_n 2, 1) := by decide +kernel
theorem dX12_withLength_20 : decode cX12_withLength 20 = .ok (.iadd, 1) := by decide +kernel
theorem dX12_withLength_21 : decode cX12_withLength 21 = .ok (.iload_n 3, 1) := by decide +kernel
theorem dX12_withLength_22 : decode cX12_withLength 22 = .ok (.if_icmp .gt 16, 3) := by decide +kernel
theorem dX12_withLength_25 : decode cX12_withLength 25 = .ok (.bipush 100, 2) := by decide +kernel
theorem dX12_withLength_27 : decode cX12_withLength 27 = .ok (.iload 4, 2) := by decide +kernel
theorem dX12_withLength_29 : decode cX12_withLength 29 = .ok (.imul, 1) := by decide +kernel
theorem dX12_withLength_30 : decode cX12_withLength 30 = .ok (.iload 5, 2) := by decide +kernel
theorem dX12_withLength_32 : decode cX12_withLength 32 = .ok (.iadd, 1) := by decide +kernel
theorem dX12_withLength_33 : decode cX12_withLength 33 = .ok (.iload_n 2, 1) := by decide +kernel
theorem dX12_withLength_34 : decode cX12_withLength 34 = .ok (.iadd, 1) := by decide +kernel
theorem dX12_withLength_35 : decode cX12_withLength 35 = .ok (.goto 12, 3) := by decide +kernel
theorem dX12_withLength_38 : decode cX12_withLength 38 = .ok (.bipush 100, 2) := by decide +kernel
theorem dX12_withLength_40 : decode cX12_withLength 40 = .ok (.iload 4, 2) := by decide +kernel
theorem dX12_withLength_42 : decode cX12_withLength 42 = .ok (.iconst 1, 1) := by decide +kernel
theorem dX12_withLength_43 : decode cX12_withLength 43 = .ok (.iadd, 1) := by decide +kernel
theorem dX12_withLength_44 : decode cX12_withLength 44 = .ok (.imul, 1) := by decide +kernel
theorem dX12_withLength_45 : decode cX12_withLength 45 = .ok (.iload_n 2, 1) := by decide +kernel
theorem dX12_withLength_46 : decode cX12_withLength 46 = .ok (.iadd, 1) := by decide +kernel
theorem dX12_withLength_47 : decode cX12_withLength 47 = .ok (.ireturn, 1) := by decide +kernel
def T_X12_withLength_38 (x2 : Int32) (x4 : Int32) (M : Mm) (K : Int32 → Mm → Prop) : Prop := (K (((100 : Int32) * (x4 + (1 : Int32))) + x2) M)
set_option maxHeartbeats 4000000 in
set_option maxRecDepth 100000 in
theorem w_X12_withLength_38 {p : Program} {l : Launch} {e : Env} {s : State} {m : MethodId} {args : Array Value} {below : List Frame} {meth : Method} {c : Code} {G : fx_G} {K : Int32 → Mm → Prop} (X : fx_C G p s m c args cX12_withLength 6 RX12) (hr : meth.sig.returnType = (some .int)) (hk : meth.locks = false) : ∀ (x2 : Int32) (x4 : Int32) (M : Mm) (H : Heap) (locs : List Loc) (ls : Array Slot), T_X12_withLength_38 x2 x4 M K → fx_H G SH M s H locs → lv_has ls 6 [(2, .int x2), (4, .int x4)] → W p l e (fx_rm (0)) s m args below meth c H locs 0 0 (MQ below (va_Qi K (fx_R G SH) (fx_A G)) args s 0 0 (fx_A G)) (F0 m 38 ls []) := by
  obtain ⟨⟨hx, hb, hml, hown, hts⟩, hK, hQ⟩ := id X
  intro x2 x4 M H locs ls hT h hl
  unfold T_X12_withLength_38 at hT
  refine lv_bipush (v := 100) hx hb dX12_withLength_38 (by decide) ?_
  refine lv_iload hx hb dX12_withLength_40 (lv_at hl 1 rfl) ?_
  refine lv_iconst (v := 1) hx hb dX12_withLength_42 (by decide) ?_
  refine lv_iadd hx hb dX12_withLength_43 ?_
  refine lv_imul hx hb dX12_withLength_44 ?_
  refine lv_iload_n hx hb dX12_withLength_45 rfl (lv_at hl 0 rfl) ?_
  refine lv_iadd hx hb dX12_withLength_46 ?_
  exact fx_iret X hr hk h hT dX12_withLength_47
def T_X12_withLength (x1 : Int32) (x2 : Int32) (x3 : Int32) (M : Mm) (K : Int32 → Mm → Prop) : Prop := (∀ y1 : Int32, y1 = (x1 / (100 : Int32)) → (∀ y2 : Int32, y2 = (x1 - x1 / (100 : Int32) * (100 : Int32)) → ((y1 ≤ 0 → (T_X12_withLength_38 x2 y1 M K)) ∧ (¬ y1 ≤ 0 → ((x3 < (y2 + x2) → (T_X12_withLength_38 x2 y1 M K)) ∧ (¬ x3 < (y2 + x2) → (K ((((100 : Int32) * y1) + y2) + x2) M)))))))
set_option maxHeartbeats 4000000 in
set_option maxRecDepth 100000 in
theorem c_X12_withLength (l : Launch) (G : fx_G) {x1 : Int32} {x2 : Int32} {x3 : Int32} {M : Mm} {K : Int32 → Mm → Prop} (hT : T_X12_withLength x1 x2 x3 M K) : Met l yX12_withLength (fx_ws yX12_withLength cX12_withLength 6 (some .int)) (fx_rm (0)) (va_Pc [.ref (G.2.2.2 + 159), .int x1, .int x2, .int x3] (fx_P G SH M)) (va_Qi K (fx_R G SH) (fx_A G)) 0 0 (fx_A G) := by
  refine fx_met (own := RX12) (by decide +kernel) rfl (Nat.le_of_ble_eq_true rfl) (fun p e s m below meth c X hr hk h ls hl => ?_)
  obtain ⟨⟨hx, hb, hml, hown, hts⟩, hK, hQ⟩ := id X
  have hl : lv_has ls 6 [(0, .ref (G.2.2.2 + 159)), (1, .int x1), (2, .int x2), (3, .int x3)] := hl
  unfold T_X12_withLength at hT
  refine lv_iload_n hx hb dX12_withLength_0 rfl (lv_at hl 1 rfl) ?_
  refine lv_bipush (v := 100) hx hb dX12_withLength_1 (by decide) ?_
  refine lv_idiv hx hb dX12_withLength_3 (by decide) ?_
  refine lv_topi (fun y1 ey1 => ?_)
  have hT := hT y1 ey1
  refine lv_istore (lv' := [(4, .int y1), (0, .ref (G.2.2.2 + 159)), (1, .int x1), (2, .int x2), (3, .int x3)]) hx hb dX12_withLength_4 hl (by decide) rfl (fun ls hl => ?_)
  refine lv_iload_n hx hb dX12_withLength_6 rfl (lv_at hl 2 rfl) ?_
  refine lv_bipush (v := 100) hx hb dX12_withLength_7 (by decide) ?_
  refine lv_irem hx hb dX12_withLength_9 (by decide) ?_
  refine lv_topi (fun y2 ey2 => ?_)
  have hT := hT y2 ey2
  refine lv_istore (lv' := [(5, .int y2), (4, .int y1), (0, .ref (G.2.2.2 + 159)), (1, .int x1), (2, .int x2), (3, .int x3)]) hx hb dX12_withLength_10 hl (by decide) rfl (fun ls hl => ?_)
  refine lv_iload hx hb dX12_withLength_12 (lv_at hl 1 rfl) ?_
  refine lv_if_le (tgt := 38) hx hb dX12_withLength_14 (by decide) (fun hc3 => ?_) (fun hc3 => ?_)
  · have hT := hT.1 hc3
    exact w_X12_withLength_38 X hr hk x2 y1 M _ _ ls hT h (lv_sub hl [4, 1] rfl)
  · have hT := hT.2 hc3
    refine lv_iload hx hb dX12_withLength_17 (lv_at hl 0 rfl) ?_
    refine lv_iload_n hx hb dX12_withLength_19 rfl (lv_at hl 4 rfl) ?_
    refine lv_iadd hx hb dX12_withLength_20 ?_
    refine lv_iload_n hx hb dX12_withLength_21 rfl (lv_at hl 5 rfl) ?_
    refine lv_icmp_gt (tgt := 38) hx hb dX12_withLength_22 (by decide) (fun hc4 => ?_) (fun hc4 => ?_)
    · have hT := hT.1 hc4
      exact w_X12_withLength_38 X hr hk x2 y1 M _ _ ls hT h (lv_sub hl [4, 1] rfl)
    · have hT := hT.2 hc4
      refine lv_bipush (v := 100) hx hb dX12_withLength_25 (by decide) ?_
      refine lv_iload hx hb dX12_withLength_27 (lv_at hl 1 rfl) ?_
      refine lv_imul hx hb dX12_withLength_29 ?_
      refine lv_iload hx hb dX12_withLength_30 (lv_at hl 0 rfl) ?_
      refine lv_iadd hx hb dX12_withLength_32 ?_
      refine lv_iload_n hx hb dX12_withLength_33 rfl (lv_at hl 4 rfl) ?_
      refine lv_iadd hx hb dX12_withLength_34 ?_
      refine lv_goto (tgt := 47) hx hb dX12_withLength_35 (by decide) ?_
      exact fx_iret X hr hk h hT dX12_withLength_47
/-! MockParcelsModel.stringsOf(I)I -/
theorem dX12_stringsOf_0 : decode cX12_stringsOf 0 = .ok (.aload_n 0, 1) := by decide +kernel
theorem dX12_stringsOf_1 : decode cX12_stringsOf 1 = .ok (.getfield 101, 3) := by decide +kernel
theorem dX12_stringsOf_4 : decode cX12_stringsOf 4 = .ok (.iconst 0, 1) := by decide +kernel
theorem dX12_stringsOf_5 : decode cX12_stringsOf 5 = .ok (.iconst 0, 1) := by decide +kernel
theorem dX12_stringsOf_6 : decode cX12_stringsOf 6 = .ok (.iastore, 1) := by decide +kernel
theorem dX12_stringsOf_7 : decode cX12_stringsOf 7 = .ok (.iconst 1, 1) := by decide +kernel
theorem dX12_stringsOf_8 : decode cX12_stringsOf 8 = .ok (.istore_n 2, 1) := by decide +kernel
theorem dX12_stringsOf_9 : decode cX12_stringsOf 9 = .ok (.iload_n 2, 1) := by decide +kernel
theorem dX12_stringsOf_10 : decode cX12_stringsOf 10 = .ok (.iconst 1, 1) := by decide +kernel
theorem dX12_stringsOf_11 : decode cX12_stringsOf 11 = .ok (.aload_n 0, 1) := by decide +kernel
theorem dX12_stringsOf_12 : decode cX12_stringsOf 12 = .ok (.getfield 439, 3) := by decide +kernel
theorem dX12_stringsOf_15 : decode cX12_stringsOf 15 = .ok (.ishl, 1) := by decide +kernel
theorem dX12_stringsOf_16 : decode cX12_stringsOf 16 = .ok (.if_icmp .ge 82, 3) := by decide +kernel
theorem dX12_stringsOf_19 : decode cX12_stringsOf 19 = .ok (.aload_n 0, 1) := by decide +kernel
theorem dX12_stringsOf_20 : decode cX12_stringsOf 20 = .ok (.getfield 101, 3) := by decide +kernel
theorem dX12_stringsOf_23 : decode cX12_stringsOf 23 = .ok (.iload_n 2, 1) := by decide +kernel
theorem dX12_stringsOf_24 : decode cX12_stringsOf 24 = .ok (.ldc_w 423, 3) := by decide +kernel
theorem dX12_stringsOf_27 : decode cX12_stringsOf 27 = .ok (.iastore, 1) := by decide +kernel
theorem dX12_stringsOf_28 : decode cX12_stringsOf 28 = .ok (.iconst 0, 1) := by decide +kernel
theorem dX12_stringsOf_29 : decode cX12_stringsOf 29 = .ok (.istore_n 3, 1) := by decide +kernel
theorem dX12_stringsOf_30 : decode cX12_stringsOf 30 = .ok (.iload_n 3, 1) := by decide +kernel
theorem dX12_stringsOf_31 : decode cX12_stringsOf 31 = .ok (.aload_n 0, 1) := by decide +kernel
theorem dX12_stringsOf_32 : decode cX12_stringsOf 32 = .ok (.getfield 439, 3) := by decide +kernel
theorem dX12_stringsOf_35 : decode cX12_stringsOf 35 = .ok (.if_icmp .ge 57, 3) := by decide +kernel
theorem dX12_stringsOf_38 : decode cX12_stringsOf 38 = .ok (.aload_n 0, 1) := by decide +kernel
theorem dX12_stringsOf_39 : decode cX12_stringsOf 39 = .ok (.iload_n 2, 1) := by decide +kernel
theorem dX12_stringsOf_40 : decode cX12_stringsOf 40 = .ok (.iload_n 3, 1) := by decide +kernel
theorem dX12_stringsOf_41 : decode cX12_stringsOf 41 = .ok (.invokevirtual 442, 3) := by decide +kernel
theorem dX12_stringsOf_44 : decode cX12_stringsOf 44 = .ok (.ifCond .eq 42, 3) := by decide +kernel
theorem dX12_stringsOf_47 : decode cX12_stringsOf 47 = .ok (.aload_n 0, 1) := by decide +kernel
theorem dX12_stringsOf_48 : decode cX12_stringsOf 48 = .ok (.getfield 101, 3) := by decide +kernel
theorem dX12_stringsOf_51 : decode cX12_stringsOf 51 = .ok (.iload_n 2, 1) := by decide +kernel
theorem dX12_stringsOf_52 : decode cX12_stringsOf 52 = .ok (.aload_n 0, 1) := by decide +kernel
theorem dX12_stringsOf_53 : decode cX12_stringsOf 53 = .ok (.aload_n 0, 1) := by decide +kernel
theorem dX12_stringsOf_54 : decode cX12_stringsOf 54 = .ok (.getfield 101, 3) := by decide +kernel
theorem dX12_stringsOf_57 : decode cX12_stringsOf 57 = .ok (.iload_n 2, 1) := by decide +kernel
theorem dX12_stringsOf_58 : decode cX12_stringsOf 58 = .ok (.iaload, 1) := by decide +kernel
theorem dX12_stringsOf_59 : decode cX12_stringsOf 59 = .ok (.aload_n 0, 1) := by decide +kernel
theorem dX12_stringsOf_60 : decode cX12_stringsOf 60 = .ok (.aload_n 0, 1) := by decide +kernel
theorem dX12_stringsOf_61 : decode cX12_stringsOf 61 = .ok (.getfield 101, 3) := by decide +kernel
theorem dX12_stringsOf_64 : decode cX12_stringsOf 64 = .ok (.iload_n 2, 1) := by decide +kernel
theorem dX12_stringsOf_65 : decode cX12_stringsOf 65 = .ok (.iconst 1, 1) := by decide +kernel
theorem dX12_stringsOf_66 : decode cX12_stringsOf 66 = .ok (.iload_n 3, 1) := by decide +kernel
theorem dX12_stringsOf_67 : decode cX12_stringsOf 67 = .ok (.ishl, 1) := by decide +kernel
theorem dX12_stringsOf_68 : decode cX12_stringsOf 68 = .ok (.iconst (-1), 1) := by decide +kernel
theorem dX12_stringsOf_69 : decode cX12_stringsOf 69 = .ok (.ixor, 1) := by decide +kernel
theorem dX12_stringsOf_70 : decode cX12_stringsOf 70 = .ok (.iand, 1) := by decide +kernel
theorem dX12_stringsOf_71 : decode cX12_stringsOf 71 = .ok (.iaload, 1) := by decide +kernel
theorem dX12_stringsOf_72 : decode cX12_stringsOf 72 = .ok (.aload_n 0, 1) := by decide +kernel
theorem dX12_stringsOf_73 : decode cX12_stringsOf 73 = .ok (.getfield 98, 3) := by decide +kernel
theorem dX12_stringsOf_76 : decode cX12_stringsOf 76 = .ok (.iload_n 3, 1) := by decide +kernel
theorem dX12_stringsOf_77 : decode cX12_stringsOf 77 = .ok (.iaload, 1) := by decide +kernel
theorem dX12_stringsOf_78 : decode cX12_stringsOf 78 = .ok (.iload_n 1, 1) := by decide +kernel
theorem dX12_stringsOf_79 : decode cX12_stringsOf 79 = .ok (.invokevirtual 446, 3) := by decide +kernel
theorem dX12_stringsOf_82 : decode cX12_stringsOf 82 = .ok (.invokevirtual 393, 3) := by decide +kernel
theorem dX12_stringsOf_85 : decode cX12_stringsOf 85 = .ok (.iastore, 1) := by decide +kernel
theorem dX12_stringsOf_86 : decode cX12_stringsOf 86 = .ok (.iinc 3 1, 3) := by decide +kernel
theorem dX12_stringsOf_89 : decode cX12_stringsOf 89 = .ok (.goto (-59), 3) := by decide +kernel
theorem dX12_stringsOf_92 : decode cX12_stringsOf 92 = .ok (.iinc 2 1, 3) := by decide +kernel
theorem dX12_stringsOf_95 : decode cX12_stringsOf 95 = .ok (.goto (-86), 3) := by decide +kernel
theorem dX12_stringsOf_98 : decode cX12_stringsOf 98 = .ok (.aload_n 0, 1) := by decide +kernel
theorem dX12_stringsOf_99 : decode cX12_stringsOf 99 = .ok (.getfield 101, 3) := by decide +kernel
theorem dX12_stringsOf_102 : decode cX12_stringsOf 102 = .ok (.iconst 1, 1) := by decide +kernel
theorem dX12_stringsOf_103 : decode cX12_stringsOf 103 = .ok (.aload_n 0, 1) := by decide +kernel
theorem dX12_stringsOf_104 : decode cX12_stringsOf 104 = .ok (.getfield 439, 3) := by decide +kernel
theorem dX12_stringsOf_107 : decode cX12_stringsOf 107 = .ok (.ishl, 1) := by decide +kernel
theorem dX12_stringsOf_108 : decode cX12_stringsOf 108 = .ok (.iconst 1, 1) := by decide +kernel
theorem dX12_stringsOf_109 : decode cX12_stringsOf 109 = .ok (.isub, 1) := by decide +kernel
theorem dX12_stringsOf_110 : decode cX12_stringsOf 110 = .ok (.iaload, 1) := by decide +kernel
theorem dX12_stringsOf_111 : decode cX12_stringsOf 111 = .ok (.bipush 100, 2) := by decide +kernel
theorem dX12_stringsOf_113 : decode cX12_stringsOf 113 = .ok (.idiv, 1) := by decide +kernel
theorem dX12_stringsOf_114 : decode cX12_stringsOf 114 = .ok (.ireturn, 1) := by decide +kernel
def T_X12_stringsOf_86 (B9 : Int32 → Int32 → Mm → Prop) (B30 : Int32 → Int32 → Int32 → Mm → Prop) (x1 : Int32) (x2 : Int32) (x3 : Int32) (M : Mm) (K : Int32 → Mm → Prop) : Prop := (∀ y1 : Int32, y1 = x3 + (1 : Int32) → (B30 x1 x2 y1 M))
set_option maxHeartbeats 4000000 in
set_option maxRecDepth 100000 in
theorem w_X12_stringsOf_86 {p : Program} {l : Launch} {e : Env} {s : State} {m : MethodId} {args : Array Value} {below : List Frame} {meth : Method} {c : Code} {G : fx_G} {K : Int32 → Mm → Prop} {B9 : Int32 → Int32 → Mm → Prop} {B30 : Int32 → Int32 → Int32 → Mm → Prop} (X : fx_C G p s m c args cX12_stringsOf 4 RX12) (hr : meth.sig.returnType = (some .int)) (hk : meth.locks = false) (hB9 : ∀ (x1 : Int32) (x2 : Int32) (M : Mm) (H : Heap) (locs : List Loc) (ls : Array Slot), B9 x1 x2 M → fx_H G SH M s H locs → lv_has ls 4 [(0, .ref (G.2.2.2 + 159)), (1, .int x1), (2, .int x2)] → W p l e (fx_rm (1)) s m args below meth c H locs 0 0 (MQ below (va_Qi K (fx_R G SH) (fx_A G)) args s 0 0 (fx_A G)) (F0 m 9 ls [])) (hB30 : ∀ (x1 : Int32) (x2 : Int32) (x3 : Int32) (M : Mm) (H : Heap) (locs : List Loc) (ls : Array Slot), B30 x1 x2 x3 M → fx_H G SH M s H locs → lv_has ls 4 [(0, .ref (G.2.2.2 + 159)), (1, .int x1), (2, .int x2), (3, .int x3)] → W p l e (fx_rm (1)) s m args below meth c H locs 0 0 (MQ below (va_Qi K (fx_R G SH) (fx_A G)) args s 0 0 (fx_A G)) (F0 m 30 ls [])) : ∀ (x1 : Int32) (x2 : Int32) (x3 : Int32) (M : Mm) (H : Heap) (locs : List Loc) (ls : Array Slot), T_X12_stringsOf_86 B9 B30 x1 x2 x3 M K → fx_H G SH M s H locs → lv_has ls 4 [(0, .ref (G.2.2.2 + 159)), (1, .int x1), (2, .int x2), (3, .int x3)] → W p l e (fx_rm (1)) s m args below meth c H locs 0 0 (MQ below (va_Qi K (fx_R G SH) (fx_A G)) args s 0 0 (fx_A G)) (F0 m 86 ls []) := by
  obtain ⟨⟨hx, hb, hml, hown, hts⟩, hK, hQ⟩ := id X
  intro x1 x2 x3 M H locs ls hT h hl
  unfold T_X12_stringsOf_86 at hT
  obtain ⟨y1, ey1⟩ : ∃ z : Int32, z = x3 + (1 : Int32) := ⟨_, rfl⟩
  have hT := hT y1 ey1
  refine lv_iinc (v := y1) (lv' := [(3, .int y1), (0, .ref (G.2.2.2 + 159)), (1, .int x1), (2, .int x2)]) hx hb dX12_stringsOf_86 hl (k := 3) rfl (by rw [ey1]; rfl) (by decide) rfl (fun ls hl => ?_)
  refine lv_goto (tgt := 30) hx hb dX12_stringsOf_89 (by decide) ?_
  exact hB30 x1 x2 y1 M _ _ ls hT h (lv_sub hl [1, 2, 3, 0] rfl)
def T_X12_stringsOf_30 (B9 : Int32 → Int32 → Mm → Prop) : Nat → Int32 → Int32 → Int32 → Mm → (Int32 → Mm → Prop) → Prop
  | 0, _, _, _, _, _ => False
  | n + 1, x1, x2, x3, M, K => (((M 159 53) ≤ x3 → (∀ y3 : Int32, y3 = x2 + (1 : Int32) → (B9 x1 y3 M))) ∧ (¬ (M 159 53) ≤ x3 → (T_X12_has x2 x3 M (fun r6 M5 => ((r6 = 0 → (T_X12_stringsOf_86 B9 (fun x1 x2 x3 M => T_X12_stringsOf_30 B9 n x1 x2 x3 M K) x1 x2 x3 M5 K)) ∧ (¬ r6 = 0 → (vp_in x2 512 ∧ (vp_in (x2 &&& (((1 : Int32) <<< (x3 &&& 31)) ^^^ (-1 : Int32))) 512 ∧ (vp_in x3 9 ∧ (T_X12_withLength (M5 189 ((x2 &&& (((1 : Int32) <<< (x3 &&& 31)) ^^^ (-1 : Int32)))).toNatClampNeg) (M5 188 (x3).toNatClampNeg) x1 M5 (fun r13 M12 => (T_X12_lesser (M5 189 (x2).toNatClampNeg) r13 M12 (fun r16 M15 => (vp_in x2 512 ∧ (∀ M17 : Mm, M17 = m_up M15 189 (x2).toNatClampNeg r16 → (T_X12_stringsOf_86 B9 (fun x1 x2 x3 M => T_X12_stringsOf_30 B9 n x1 x2 x3 M K) x1 x2 x3 M17 K))))))))))))))))
set_option maxHeartbeats 4000000 in
set_option maxRecDepth 100000 in
theorem w_X12_stringsOf_30 {p : Program} {l : Launch} {e : Env} {s : State} {m : MethodId} {args : Array Value} {below : List Frame} {meth : Method} {c : Code} {G : fx_G} {K : Int32 → Mm → Prop} {B9 : Int32 → Int32 → Mm → Prop} (X : fx_C G p s m c args cX12_stringsOf 4 RX12) (hr : meth.sig.returnType = (some .int)) (hk : meth.locks = false) (hB9 : ∀ (x1 : Int32) (x2 : Int32) (M : Mm) (H : Heap) (locs : List Loc) (ls : Array Slot), B9 x1 x2 M → fx_H G SH M s H locs → lv_has ls 4 [(0, .ref (G.2.2.2 + 159)), (1, .int x1), (2, .int x2)] → W p l e (fx_rm (1)) s m args below meth c H locs 0 0 (MQ below (va_Qi K (fx_R G SH) (fx_A G)) args s 0 0 (fx_A G)) (F0 m 9 ls [])) : ∀ (n : Nat) (x1 : Int32) (x2 : Int32) (x3 : Int32) (M : Mm) (H : Heap) (locs : List Loc) (ls : Array Slot), T_X12_stringsOf_30 B9 n x1 x2 x3 M K → fx_H G SH M s H locs → lv_has ls 4 [(0, .ref (G.2.2.2 + 159)), (1, .int x1), (2, .int x2), (3, .int x3)] → W p l e (fx_rm (1)) s m args below meth c H locs 0 0 (MQ below (va_Qi K (fx_R G SH) (fx_A G)) args s 0 0 (fx_A G)) (F0 m 30 ls []) := by
  obtain ⟨⟨hx, hb, hml, hown, hts⟩, hK, hQ⟩ := id X
  intro n
  induction n with
  | zero =>
    intro x1 x2 x3 M H locs ls hT
    exact hT.elim
  | succ n ih =>
    intro x1 x2 x3 M H locs ls hT h hl
    rw [T_X12_stringsOf_30] at hT
    refine lv_iload_n hx hb dX12_stringsOf_30 rfl (lv_at hl 3 rfl) ?_
    refine lv_aload_n hx hb dX12_stringsOf_31 rfl (lv_at hl 0 rfl) ?_
    refine fx_getI X h (k := 159) (j := 53) sh_159 rfl fl_RX12_439 dX12_stringsOf_32 ?_
    refine lv_icmp_ge (tgt := 92) hx hb dX12_stringsOf_35 (by decide) (fun hc2 => ?_) (fun hc2 => ?_)
    · have hT := hT.1 hc2
      obtain ⟨y3, ey3⟩ : ∃ z : Int32, z = x2 + (1 : Int32) := ⟨_, rfl⟩
      have hT := hT y3 ey3
      refine lv_iinc (v := y3) (lv' := [(2, .int y3), (0, .ref (G.2.2.2 + 159)), (1, .int x1), (3, .int x3)]) hx hb dX12_stringsOf_92 hl (k := 2) rfl (by rw [ey3]; rfl) (by decide) rfl (fun ls hl => ?_)
      refine lv_goto (tgt := 9) hx hb dX12_stringsOf_95 (by decide) ?_
      exact hB9 x1 y3 M _ _ ls hT h (lv_sub hl [1, 2, 0] rfl)
    · have hT := hT.2 hc2
      refine lv_aload_n hx hb dX12_stringsOf_38 rfl (lv_at hl 0 rfl) ?_
      refine lv_iload_n hx hb dX12_stringsOf_39 rfl (lv_at hl 2 rfl) ?_
      refine lv_iload_n hx hb dX12_stringsOf_40 rfl (lv_at hl 3 rfl) ?_
      refine fx_vi X h ym_X12_has yi_X12_has ys_X12_has (fx_s8 (List.mem_of_getElem? (i := 221) rfl) rfl) sh_159 rfl (c_X12_has l G hT) (As := [.int x2, .int x3]) (rest := []) rfl rfl ⟨Nat.le_of_ble_eq_true rfl, Nat.le_of_ble_eq_true rfl⟩ ⟨Nat.le_refl _, Nat.le_refl _⟩ hl.1 (Nat.le_of_ble_eq_true rfl) dX12_stringsOf_41 (fun r6 M5 H locs hT h => ?_)
      refine lv_if_eq (tgt := 86) hx hb dX12_stringsOf_44 (by decide) (fun hc7 => ?_) (fun hc7 => ?_)
      · have hT := hT.1 hc7
        exact w_X12_stringsOf_86 X hr hk (B9 := B9) hB9 (B30 := (fun x1 x2 x3 M => T_X12_stringsOf_30 B9 n x1 x2 x3 M K)) ih x1 x2 x3 M5 _ _ ls hT h (lv_sub hl [0, 1, 2, 3] rfl)
      · have hT := hT.2 hc7
        refine lv_aload_n hx hb dX12_stringsOf_47 rfl (lv_at hl 0 rfl) ?_
        refine fx_getR X h (k := 159) (j := 55) (r := 189) sh_159 rfl fl_RX12_101 dX12_stringsOf_48 ?_
        refine lv_iload_n hx hb dX12_stringsOf_51 rfl (lv_at hl 2 rfl) ?_
        refine lv_aload_n hx hb dX12_stringsOf_52 rfl (lv_at hl 0 rfl) ?_
        refine lv_aload_n hx hb dX12_stringsOf_53 rfl (lv_at hl 0 rfl) ?_
        refine fx_getR X h (k := 159) (j := 55) (r := 189) sh_159 rfl fl_RX12_101 dX12_stringsOf_54 ?_
        refine lv_iload_n hx hb dX12_stringsOf_57 rfl (lv_at hl 2 rfl) ?_
        obtain ⟨hi8, hT⟩ := hT
        refine fx_iald X h (k := 189) sh_189 hi8 dX12_stringsOf_58 ?_
        refine lv_aload_n hx hb dX12_stringsOf_59 rfl (lv_at hl 0 rfl) ?_
        refine lv_aload_n hx hb dX12_stringsOf_60 rfl (lv_at hl 0 rfl) ?_
        refine fx_getR X h (k := 159) (j := 55) (r := 189) sh_159 rfl fl_RX12_101 dX12_stringsOf_61 ?_
        refine lv_iload_n hx hb dX12_stringsOf_64 rfl (lv_at hl 2 rfl) ?_
        refine lv_iconst (v := 1) hx hb dX12_stringsOf_65 (by decide) ?_
        refine lv_iload_n hx hb dX12_stringsOf_66 rfl (lv_at hl 3 rfl) ?_
        refine lv_ishl hx hb dX12_stringsOf_67 ?_
        refine lv_iconst (v := -1) hx hb dX12_stringsOf_68 (by decide) ?_
        refine lv_ixor hx hb dX12_stringsOf_69 ?_
        refine lv_iand hx hb dX12_stringsOf_70 ?_
        obtain ⟨hi9, hT⟩ := hT
        refine fx_iald X h (k := 189) sh_189 hi9 dX12_stringsOf_71 ?_
        refine lv_aload_n hx hb dX12_stringsOf_72 rfl (lv_at hl 0 rfl) ?_
        refine fx_getR X h (k := 159) (j := 54) (r := 188) sh_159 rfl fl_RX12_98 dX12_stringsOf_73 ?_
        refine lv_iload_n hx hb dX12_stringsOf_76 rfl (lv_at hl 3 rfl) ?_
        obtain ⟨hi10, hT⟩ := hT
        refine fx_iald X h (k := 188) sh_188 hi10 dX12_stringsOf_77 ?_
        refine lv_iload_n hx hb dX12_stringsOf_78 rfl (lv_at hl 1 rfl) ?_
        refine fx_vi X h ym_X12_withLength yi_X12_withLength ys_X12_withLength (fx_s8 (List.mem_of_getElem? (i := 225) rfl) rfl) sh_159 rfl (c_X12_withLength l G hT) (As := [.int (M5 189 ((x2 &&& (((1 : Int32) <<< (x3 &&& 31)) ^^^ (-1 : Int32)))).toNatClampNeg), .int (M5 188 (x3).toNatClampNeg), .int x1]) (rest := [.int (M5 189 (x2).toNatClampNeg), .ref (G.2.2.2 + 159), .int x2, .ref (G.2.2.2 + 189)]) rfl rfl ⟨Nat.le_of_ble_eq_true rfl, Nat.le_of_ble_eq_true rfl⟩ ⟨Nat.le_refl _, Nat.le_refl _⟩ hl.1 (Nat.le_of_ble_eq_true rfl) dX12_stringsOf_79 (fun r13 M12 H locs hT h => ?_)
        refine fx_vi X h ym_X12_lesser yi_X12_lesser ys_X12_lesser (fx_s8 (List.mem_of_getElem? (i := 107) rfl) rfl) sh_159 rfl (c_X12_lesser l G hT) (As := [.int (M5 189 (x2).toNatClampNeg), .int r13]) (rest := [.int x2, .ref (G.2.2.2 + 189)]) rfl rfl ⟨Nat.le_of_ble_eq_true rfl, Nat.le_of_ble_eq_true rfl⟩ ⟨Nat.le_refl _, Nat.le_refl _⟩ hl.1 (Nat.le_of_ble_eq_true rfl) dX12_stringsOf_82 (fun r16 M15 H locs hT h => ?_)
        obtain ⟨hi18, hT⟩ := hT
        refine fx_iast X h (k := 189) sh_189 hi18 dX12_stringsOf_85 (fun H locs h => ?_)
        obtain ⟨M17, eM17⟩ : ∃ z : Mm, z = m_up M15 189 (x2).toNatClampNeg r16 := ⟨_, rfl⟩
        have hT := hT M17 eM17
        rw [← eM17] at h
        exact w_X12_stringsOf_86 X hr hk (B9 := B9) hB9 (B30 := (fun x1 x2 x3 M => T_X12_stringsOf_30 B9 n x1 x2 x3 M K)) ih x1 x2 x3 M17 _ _ ls hT h (lv_sub hl [0, 1, 2, 3] rfl)
def T_X12_stringsOf_9 : Nat → Int32 → Int32 → Mm → (Int32 → Mm → Prop) → Prop
  | 0, _, _, _, _ => False
  | n + 1, x1, x2, M, K => ((((1 : Int32) <<< ((M 159 53) &&& 31)) ≤ x2 → (vp_in (((1 : Int32) <<< ((M 159 53) &&& 31)) - (1 : Int32)) 512 ∧ (K ((M 189 ((((1 : Int32) <<< ((M 159 53) &&& 31)) - (1 : Int32))).toNatClampNeg) / (100 : Int32)) M))) ∧ (¬ ((1 : Int32) <<< ((M 159 53) &&& 31)) ≤ x2 → (vp_in x2 512 ∧ (∀ M21 : Mm, M21 = m_up M 189 (x2).toNatClampNeg (100000000 : Int32) → (T_X12_stringsOf_30 (fun x1 x2 M => T_X12_stringsOf_9 n x1 x2 M K) 5000 x1 x2 (0 : Int32) M21 K)))))
set_option maxHeartbeats 4000000 in
set_option maxRecDepth 100000 in
theorem w_X12_stringsOf_9 {p : Program} {l : Launch} {e : Env} {s : State} {m : MethodId} {args : Array Value} {below : List Frame} {meth : Method} {c : Code} {G : fx_G} {K : Int32 → Mm → Prop} (X : fx_C G p s m c args cX12_stringsOf 4 RX12) (hr : meth.sig.returnType = (some .int)) (hk : meth.locks = false) : ∀ (n : Nat) (x1 : Int32) (x2 : Int32) (M : Mm) (H : Heap) (locs : List Loc) (ls : Array Slot), T_X12_stringsOf_9 n x1 x2 M K → fx_H G SH M s H locs → lv_has ls 4 [(0, .ref (G.2.2.2 + 159)), (1, .int x1), (2, .int x2)] → W p l e (fx_rm (1)) s m args below meth c H locs 0 0 (MQ below (va_Qi K (fx_R G SH) (fx_A G)) args s 0 0 (fx_A G)) (F0 m 9 ls []) := by
  obtain ⟨⟨hx, hb, hml, hown, hts⟩, hK, hQ⟩ := id X
  intro n
  induction n with
  | zero =>
    intro x1 x2 M H locs ls hT
    exact hT.elim
  | succ n ih =>
    intro x1 x2 M H locs ls hT h hl
    rw [T_X12_stringsOf_9] at hT
    refine lv_iload_n hx hb dX12_stringsOf_9 rfl (lv_at hl 2 rfl) ?_
    refine lv_iconst (v := 1) hx hb dX12_stringsOf_10 (by decide) ?_
    refine lv_aload_n hx hb dX12_stringsOf_11 rfl (lv_at hl 0 rfl) ?_
    refine fx_getI X h (k := 159) (j := 53) sh_159 rfl fl_RX12_439 dX12_stringsOf_12 ?_
    refine lv_ishl hx hb dX12_stringsOf_15 ?_
    refine lv_icmp_ge (tgt := 98) hx hb dX12_stringsOf_16 (by decide) (fun hc19 => ?_) (fun hc19 => ?_)
    · have hT := hT.1 hc19
      refine lv_aload_n hx hb dX12_stringsOf_98 rfl (lv_at hl 0 rfl) ?_
      refine fx_getR X h (k := 159) (j := 55) (r := 189) sh_159 rfl fl_RX12_101 dX12_stringsOf_99 ?_
      refine lv_iconst (v := 1) hx hb dX12_stringsOf_102 (by decide) ?_
      refine lv_aload_n hx hb dX12_stringsOf_103 rfl (lv_at hl 0 rfl) ?_
      refine fx_getI X h (k := 159) (j := 53) sh_159 rfl fl_RX12_439 dX12_stringsOf_104 ?_
      refine lv_ishl hx hb dX12_stringsOf_107 ?_
      refine lv_iconst (v := 1) hx hb dX12_stringsOf_108 (by decide) ?_
      refine lv_isub hx hb dX12_stringsOf_109 ?_
      obtain ⟨hi20, hT⟩ := hT
      refine fx_iald X h (k := 189) sh_189 hi20 dX12_stringsOf_110 ?_
      refine lv_bipush (v := 100) hx hb dX12_stringsOf_111 (by decide) ?_
      refine lv_idiv hx hb dX12_stringsOf_113 (by decide) ?_
      exact fx_iret X hr hk h hT dX12_stringsOf_114
    · have hT := hT.2 hc19
      refine lv_aload_n hx hb dX12_stringsOf_19 rfl (lv_at hl 0 rfl) ?_
      refine fx_getR X h (k := 159) (j := 55) (r := 189) sh_159 rfl fl_RX12_101 dX12_stringsOf_20 ?_
      refine lv_iload_n hx hb dX12_stringsOf_23 rfl (lv_at hl 2 rfl) ?_
      refine lv_ldcw (v := 100000000) hx hb hown (hts _ (fx_s8 (List.mem_of_getElem? (i := 187) rfl) rfl)) dX12_stringsOf_24 ?_
      obtain ⟨hi22, hT⟩ := hT
      refine fx_iast X h (k := 189) sh_189 hi22 dX12_stringsOf_27 (fun H locs h => ?_)
      obtain ⟨M21, eM21⟩ : ∃ z : Mm, z = m_up M 189 (x2).toNatClampNeg (100000000 : Int32) := ⟨_, rfl⟩
      have hT := hT M21 eM21
      rw [← eM21] at h
      refine lv_iconst (v := 0) hx hb dX12_stringsOf_28 (by decide) ?_
      refine lv_istore_n (lv' := [(3, .int (0 : Int32)), (0, .ref (G.2.2.2 + 159)), (1, .int x1), (2, .int x2)]) hx hb dX12_stringsOf_29 rfl hl (by decide) rfl (fun ls hl => ?_)
      exact w_X12_stringsOf_30 X hr hk (B9 := (fun x1 x2 M => T_X12_stringsOf_9 n x1 x2 M K)) ih 5000 x1 x2 (0 : Int32) M21 _ _ ls hT h (lv_sub hl [1, 2, 3, 0] rfl)
def T_X12_stringsOf (x1 : Int32) (M : Mm) (K : Int32 → Mm → Prop) : Prop := (∀ M23 : Mm, M23 = m_up M 189 0 (0 : Int32) → (T_X12_stringsOf_9 5000 x1 (1 : Int32) M23 K))
set_option maxHeartbeats 4000000 in
set_option maxRecDepth 100000 in
theorem c_X12_stringsOf (l : Launch) (G : fx_G) {x1 : Int32} {M : Mm} {K : Int32 → Mm → Prop} (hT : T_X12_stringsOf x1 M K) : Met l yX12_stringsOf (fx_ws yX12_stringsOf cX12_stringsOf 4 (some .int)) (fx_rm (1)) (va_Pc [.ref (G.2.2.2 + 159), .int x1] (fx_P G SH M)) (va_Qi K (fx_R G SH) (fx_A G)) 0 0 (fx_A G) := by
  refine fx_met (own := RX12) (by decide +kernel) rfl (Nat.le_of_ble_eq_true rfl) (fun p e s m below meth c X hr hk h ls hl => ?_)
  obtain ⟨⟨hx, hb, hml, hown, hts⟩, hK, hQ⟩ := id X
  have hl : lv_has ls 4 [(0, .ref (G.2.2.2 + 159)), (1, .int x1)] := hl
  unfold T_X12_stringsOf at hT
  refine lv_aload_n hx hb dX12_stringsOf_0 rfl (lv_at hl 0 rfl) ?_
  refine fx_getR X h (k := 159) (j := 55) (r := 189) sh_159 rfl fl_RX12_101 dX12_stringsOf_1 ?_
  refine lv_iconst (v := 0) hx hb dX12_stringsOf_4 (by decide) ?_
  refine lv_iconst (v := 0) hx hb dX12_stringsOf_5 (by decide) ?_
  refine fx_iast X h (k := 189) sh_189 (by unfold vp_in; decide) dX12_stringsOf_6 (fun H locs h => ?_)
  rw [show ((0 : Int32)).toNatClampNeg = 0 by decide] at h
  obtain ⟨M23, eM23⟩ : ∃ z : Mm, z = m_up M 189 0 (0 : Int32) := ⟨_, rfl⟩
  have hT := hT M23 eM23
  rw [← eM23] at h
  refine lv_iconst (v := 1) hx hb dX12_stringsOf_7 (by decide) ?_
  refine lv_istore_n (lv' := [(2, .int (1 : Int32)), (0, .ref (G.2.2.2 + 159)), (1, .int x1)]) hx hb dX12_stringsOf_8 rfl hl (by decide) rfl (fun ls hl => ?_)
  exact w_X12_stringsOf_9 X hr hk 5000 x1 (1 : Int32) M23 _ _ ls hT h (lv_sub hl [1, 2, 0] rfl)
/-! MockParcelsModel.strings(II)I -/
theorem dX12_strings_0 : decode cX12_strings 0 = .ok (.aload_n 0, 1) := by decide +kernel
theorem dX12_strings_1 : decode cX12_strings 1 = .ok (.iconst 0, 1) := by decide +kernel
theorem dX12_strings_2 : decode cX12_strings 2 = .ok (.putfield 134, 3) := by decide +kernel
theorem dX12_strings_5 : decode cX12_strings 5 = .ok (.aload_n 0, 1) := by decide +kernel
theorem dX12_strings_6 : decode cX12_strings 6 = .ok (.iload_n 1, 1) := by decide +kernel
theorem dX12_strings_7 : decode cX12_strings 7 = .ok (.iconst 1, 1) := by decide +kernel
theorem dX12_strings_8 : decode cX12_strings 8 = .ok (.bipush 99, 2) := by decide +kernel
theorem dX12_strings_10 : decode cX12_strings 10 = .ok (.invokevirtual 157, 3) := by decide +kernel
theorem dX12_strings_13 : decode cX12_strings 13 = .ok (.ifCond .eq 13, 3) := by decide +kernel
theorem dX12_strings_16 : decode cX12_strings 16 = .ok (.aload_n 0, 1) := by decide +kernel
theorem dX12_strings_17 : decode cX12_strings 17 = .ok (.iload_n 2, 1) := by decide +kernel
theorem dX12_strings_18 : decode cX12_strings 18 = .ok (.iconst 0, 1) := by decide +kernel
theorem dX12_strings_19 : decode cX12_strings 19 = .ok (.iconst 1, 1) := by decide +kernel
theorem dX12_strings_20 : decode cX12_strings 20 = .ok (.invokevirtual 157, 3) := by decide +kernel
theorem dX12_strings_23 : decode cX12_strings 23 = .ok (.ifCond .ne 5, 3) := by decide +kernel
theorem dX12_strings_26 : decode cX12_strings 26 = .ok (.iconst (-1), 1) := by decide +kernel
theorem dX12_strings_27 : decode cX12_strings 27 = .ok (.ireturn, 1) := by decide +kernel
theorem dX12_strings_28 : decode cX12_strings 28 = .ok (.iconst 0, 1) := by decide +kernel
theorem dX12_strings_29 : decode cX12_strings 29 = .ok (.istore_n 3, 1) := by decide +kernel
theorem dX12_strings_30 : decode cX12_strings 30 = .ok (.iconst 0, 1) := by decide +kernel
theorem dX12_strings_31 : decode cX12_strings 31 = .ok (.istore 4, 2) := by decide +kernel
theorem dX12_strings_33 : decode cX12_strings 33 = .ok (.iload 4, 2) := by decide +kernel
theorem dX12_strings_35 : decode cX12_strings 35 = .ok (.aload_n 0, 1) := by decide +kernel
theorem dX12_strings_36 : decode cX12_strings 36 = .ok (.getfield 439, 3) := by decide +kernel
theorem dX12_strings_39 : decode cX12_strings 39 = .ok (.if_icmp .ge 32, 3) := by decide +kernel
theorem dX12_strings_42 : decode cX12_strings 42 = .ok (.aload_n 0, 1) := by decide +kernel
theorem dX12_strings_43 : decode cX12_strings 43 = .ok (.getfield 98, 3) := by decide +kernel
theorem dX12_strings_46 : decode cX12_strings 46 = .ok (.iload 4, 2) := by decide +kernel
theorem dX12_strings_48 : decode cX12_strings 48 = .ok (.iaload, 1) := by decide +kernel
theorem dX12_strings_49 : decode cX12_strings 49 = .ok (.iload_n 1, 1) := by decide +kernel
theorem dX12_strings_50 : decode cX12_strings 50 = .ok (.if_icmp .le 5, 3) := by decide +kernel
theorem dX12_strings_53 : decode cX12_strings 53 = .ok (.iconst (-1), 1) := by decide +kernel
theorem dX12_strings_54 : decode cX12_strings 54 = .ok (.ireturn, 1) := by decide +kernel
theorem dX12_strings_55 : decode cX12_strings 55 = .ok (.iload_n 3, 1) := by decide +kernel
theorem dX12_strings_56 : decode cX12_strings 56 = .ok (.aload_n 0, 1) := by decide +kernel
theorem dX12_strings_57 : decode cX12_strings 57 = .ok (.getfield 98, 3) := by decide +kernel
theorem dX12_strings_60 : decode cX12_strings 60 = .ok (.iload 4, 2) := by decide +kernel
theorem dX12_strings_62 : decode cX12_strings 62 = .ok (.iaload, 1) := by decide +kernel
theorem dX12_strings_63 : decode cX12_strings 63 = .ok (.iadd, 1) := by decide +kernel
theorem dX12_strings_64 : decode cX12_strings 64 = .ok (.istore_n 3, 1) := by decide +kernel
theorem dX12_strings_65 : decode cX12_strings 65 = .ok (.iinc 4 1, 3) := by decide +kernel
theorem dX12_strings_68 : decode cX12_strings 68 = .ok (.goto (-35), 3) := by decide +kernel
theorem dX12_strings_71 : decode cX12_strings 71 = .ok (.aload_n 0, 1) := by decide +kernel
theorem dX12_strings_72 : decode cX12_strings 72 = .ok (.iload_n 1, 1) := by decide +kernel
theorem dX12_strings_73 : decode cX12_strings 73 = .ok (.invokevirtual 449, 3) := by decide +kernel
theorem dX12_strings_76 : decode cX12_strings 76 = .ok (.istore 4, 2) := by decide +kernel
theorem dX12_strings_78 : decode cX12_strings 78 = .ok (.iload_n 2, 1) := by decide +kernel
theorem dX12_strings_79 : decode cX12_strings 79 = .ok (.ifCond .ne 8, 3) := by decide +kernel
theorem dX12_strings_82 : decode cX12_strings 82 = .ok (.iload 4, 2) := by decide +kernel
theorem dX12_strings_84 : decode cX12_strings 84 = .ok (.goto 9, 3) := by decide +kernel
theorem dX12_strings_87 : decode cX12_strings 87 = .ok (.iload_n 1, 1) := by decide +kernel
theorem dX12_strings_88 : decode cX12_strings 88 = .ok (.iload 4, 2) := by decide +kernel
theorem dX12_strings_90 : decode cX12_strings 90 = .ok (.imul, 1) := by decide +kernel
theorem dX12_strings_91 : decode cX12_strings 91 = .ok (.iload_n 3, 1) := by decide +kernel
theorem dX12_strings_92 : decode cX12_strings 92 = .ok (.isub, 1) := by decide +kernel
theorem dX12_strings_93 : decode cX12_strings 93 = .ok (.ireturn, 1) := by decide +kernel
def T_X12_strings_33 : Nat → Int32 → Int32 → Int32 → Int32 → Mm → (Int32 → Mm → Prop) → Prop
  | 0, _, _, _, _, _, _ => False
  | n + 1, x1, x2, x3, x4, M, K => (((M 159 53) ≤ x4 → (T_X12_stringsOf x1 M (fun r4 M3 => ((x2 = 0 → (K r4 M3)) ∧ (¬ x2 = 0 → (K ((x1 * r4) - x3) M3)))))) ∧ (¬ (M 159 53) ≤ x4 → (vp_in x4 9 ∧ (((M 188 (x4).toNatClampNeg) ≤ x1 → (vp_in x4 9 ∧ (∀ y9 : Int32, y9 = (x3 + (M 188 (x4).toNatClampNeg)) → (∀ y10 : Int32, y10 = x4 + (1 : Int32) → (T_X12_strings_33 n x1 x2 y9 y10 M K))))) ∧ (¬ (M 188 (x4).toNatClampNeg) ≤ x1 → (K (-1 : Int32) M))))))
set_option maxHeartbeats 4000000 in
set_option maxRecDepth 100000 in
theorem w_X12_strings_33 {p : Program} {l : Launch} {e : Env} {s : State} {m : MethodId} {args : Array Value} {below : List Frame} {meth : Method} {c : Code} {G : fx_G} {K : Int32 → Mm → Prop} (X : fx_C G p s m c args cX12_strings 5 RX12) (hr : meth.sig.returnType = (some .int)) (hk : meth.locks = false) : ∀ (n : Nat) (x1 : Int32) (x2 : Int32) (x3 : Int32) (x4 : Int32) (M : Mm) (H : Heap) (locs : List Loc) (ls : Array Slot), T_X12_strings_33 n x1 x2 x3 x4 M K → fx_H G SH M s H locs → lv_has ls 5 [(0, .ref (G.2.2.2 + 159)), (1, .int x1), (2, .int x2), (3, .int x3), (4, .int x4)] → W p l e (fx_rm (2)) s m args below meth c H locs 0 0 (MQ below (va_Qi K (fx_R G SH) (fx_A G)) args s 0 0 (fx_A G)) (F0 m 33 ls []) := by
  obtain ⟨⟨hx, hb, hml, hown, hts⟩, hK, hQ⟩ := id X
  intro n
  induction n with
  | zero =>
    intro x1 x2 x3 x4 M H locs ls hT
    exact hT.elim
  | succ n ih =>
    intro x1 x2 x3 x4 M H locs ls hT h hl
    rw [T_X12_strings_33] at hT
    refine lv_iload hx hb dX12_strings_33 (lv_at hl 4 rfl) ?_
    refine lv_aload_n hx hb dX12_strings_35 rfl (lv_at hl 0 rfl) ?_
    refine fx_getI X h (k := 159) (j := 53) sh_159 rfl fl_RX12_439 dX12_strings_36 ?_
    refine lv_icmp_ge (tgt := 71) hx hb dX12_strings_39 (by decide) (fun hc1 => ?_) (fun hc1 => ?_)
    · have hT := hT.1 hc1
      refine lv_aload_n hx hb dX12_strings_71 rfl (lv_at hl 0 rfl) ?_
      refine lv_iload_n hx hb dX12_strings_72 rfl (lv_at hl 1 rfl) ?_
      refine fx_vi X h ym_X12_stringsOf yi_X12_stringsOf ys_X12_stringsOf (fx_s8 (List.mem_of_getElem? (i := 217) rfl) rfl) sh_159 rfl (c_X12_stringsOf l G hT) (As := [.int x1]) (rest := []) rfl rfl ⟨Nat.le_of_ble_eq_true rfl, Nat.le_of_ble_eq_true rfl⟩ ⟨Nat.le_refl _, Nat.le_refl _⟩ hl.1 (Nat.le_of_ble_eq_true rfl) dX12_strings_73 (fun r4 M3 H locs hT h => ?_)
      refine lv_istore (lv' := [(4, .int r4), (0, .ref (G.2.2.2 + 159)), (1, .int x1), (2, .int x2), (3, .int x3)]) hx hb dX12_strings_76 hl (by decide) rfl (fun ls hl => ?_)
      refine lv_iload_n hx hb dX12_strings_78 rfl (lv_at hl 3 rfl) ?_
      refine lv_if_ne (tgt := 87) hx hb dX12_strings_79 (by decide) (fun hc5 => ?_) (fun hc5 => ?_)
      · have hT := hT.2 hc5
        refine lv_iload_n hx hb dX12_strings_87 rfl (lv_at hl 2 rfl) ?_
        refine lv_iload hx hb dX12_strings_88 (lv_at hl 0 rfl) ?_
        refine lv_imul hx hb dX12_strings_90 ?_
        refine lv_iload_n hx hb dX12_strings_91 rfl (lv_at hl 4 rfl) ?_
        refine lv_isub hx hb dX12_strings_92 ?_
        exact fx_iret X hr hk h hT dX12_strings_93
      · have hT := hT.1 hc5
        refine lv_iload hx hb dX12_strings_82 (lv_at hl 0 rfl) ?_
        refine lv_goto (tgt := 93) hx hb dX12_strings_84 (by decide) ?_
        exact fx_iret X hr hk h hT dX12_strings_93
    · have hT := hT.2 hc1
      refine lv_aload_n hx hb dX12_strings_42 rfl (lv_at hl 0 rfl) ?_
      refine fx_getR X h (k := 159) (j := 54) (r := 188) sh_159 rfl fl_RX12_98 dX12_strings_43 ?_
      refine lv_iload hx hb dX12_strings_46 (lv_at hl 4 rfl) ?_
      obtain ⟨hi6, hT⟩ := hT
      refine fx_iald X h (k := 188) sh_188 hi6 dX12_strings_48 ?_
      refine lv_iload_n hx hb dX12_strings_49 rfl (lv_at hl 1 rfl) ?_
      refine lv_icmp_le (tgt := 55) hx hb dX12_strings_50 (by decide) (fun hc7 => ?_) (fun hc7 => ?_)
      · have hT := hT.1 hc7
        refine lv_iload_n hx hb dX12_strings_55 rfl (lv_at hl 3 rfl) ?_
        refine lv_aload_n hx hb dX12_strings_56 rfl (lv_at hl 0 rfl) ?_
        refine fx_getR X h (k := 159) (j := 54) (r := 188) sh_159 rfl fl_RX12_98 dX12_strings_57 ?_
        refine lv_iload hx hb dX12_strings_60 (lv_at hl 4 rfl) ?_
        obtain ⟨hi8, hT⟩ := hT
        refine fx_iald X h (k := 188) sh_188 hi8 dX12_strings_62 ?_
        refine lv_iadd hx hb dX12_strings_63 ?_
        refine lv_topi (fun y9 ey9 => ?_)
        have hT := hT y9 ey9
        refine lv_istore_n (lv' := [(3, .int y9), (0, .ref (G.2.2.2 + 159)), (1, .int x1), (2, .int x2), (4, .int x4)]) hx hb dX12_strings_64 rfl hl (by decide) rfl (fun ls hl => ?_)
        obtain ⟨y10, ey10⟩ : ∃ z : Int32, z = x4 + (1 : Int32) := ⟨_, rfl⟩
        have hT := hT y10 ey10
        refine lv_iinc (v := y10) (lv' := [(4, .int y10), (3, .int y9), (0, .ref (G.2.2.2 + 159)), (1, .int x1), (2, .int x2)]) hx hb dX12_strings_65 hl (k := 4) rfl (by rw [ey10]; rfl) (by decide) rfl (fun ls hl => ?_)
        refine lv_goto (tgt := 33) hx hb dX12_strings_68 (by decide) ?_
        exact ih x1 x2 y9 y10 M _ _ ls hT h (lv_sub hl [2, 3, 4, 1, 0] rfl)
      · have hT := hT.2 hc7
        refine lv_iconst (v := -1) hx hb dX12_strings_53 (by decide) ?_
        exact fx_iret X hr hk h hT dX12_strings_54
def T_X12_strings (x1 : Int32) (x2 : Int32) (M : Mm) (K : Int32 → Mm → Prop) : Prop := (∀ M11 : Mm, M11 = m_up M 159 0 (0 : Int32) → (T_X12_isIn x1 (1 : Int32) (99 : Int32) M11 (fun r14 M13 => ((r14 = 0 → (K (-1 : Int32) M13)) ∧ (¬ r14 = 0 → (T_X12_isIn x2 (0 : Int32) (1 : Int32) M13 (fun r18 M17 => ((r18 = 0 → (K (-1 : Int32) M17)) ∧ (¬ r18 = 0 → (T_X12_strings_33 5000 x1 x2 (0 : Int32) (0 : Int32) M17 K))))))))))
set_option maxHeartbeats 4000000 in
set_option maxRecDepth 100000 in
theorem c_X12_strings (l : Launch) (G : fx_G) {x1 : Int32} {x2 : Int32} {M : Mm} {K : Int32 → Mm → Prop} (hT : T_X12_strings x1 x2 M K) : Met l yX12_strings (fx_ws yX12_strings cX12_strings 5 (some .int)) (fx_rm (2)) (va_Pc [.ref (G.2.2.2 + 159), .int x1, .int x2] (fx_P G SH M)) (va_Qi K (fx_R G SH) (fx_A G)) 0 0 (fx_A G) := by
  refine fx_met (own := RX12) (by decide +kernel) rfl (Nat.le_of_ble_eq_true rfl) (fun p e s m below meth c X hr hk h ls hl => ?_)
  obtain ⟨⟨hx, hb, hml, hown, hts⟩, hK, hQ⟩ := id X
  have hl : lv_has ls 5 [(0, .ref (G.2.2.2 + 159)), (1, .int x1), (2, .int x2)] := hl
  unfold T_X12_strings at hT
  refine lv_aload_n hx hb dX12_strings_0 rfl (lv_at hl 0 rfl) ?_
  refine lv_iconst (v := 0) hx hb dX12_strings_1 (by decide) ?_
  refine fx_putI X h (k := 159) (j := 0) sh_159 rfl fl_RX12_134 dX12_strings_2 (fun H locs h => ?_)
  obtain ⟨M11, eM11⟩ : ∃ z : Mm, z = m_up M 159 0 (0 : Int32) := ⟨_, rfl⟩
  have hT := hT M11 eM11
  rw [← eM11] at h
  refine lv_aload_n hx hb dX12_strings_5 rfl (lv_at hl 0 rfl) ?_
  refine lv_iload_n hx hb dX12_strings_6 rfl (lv_at hl 1 rfl) ?_
  refine lv_iconst (v := 1) hx hb dX12_strings_7 (by decide) ?_
  refine lv_bipush (v := 99) hx hb dX12_strings_8 (by decide) ?_
  refine fx_vi X h ym_X12_isIn yi_X12_isIn ys_X12_isIn (fx_s7 (List.mem_of_getElem? (i := 77) rfl) rfl) sh_159 rfl (c_X12_isIn l G hT) (As := [.int x1, .int (1 : Int32), .int (99 : Int32)]) (rest := []) rfl rfl ⟨Nat.le_of_ble_eq_true rfl, Nat.le_of_ble_eq_true rfl⟩ ⟨Nat.le_refl _, Nat.le_refl _⟩ hl.1 (Nat.le_of_ble_eq_true rfl) dX12_strings_10 (fun r14 M13 H locs hT h => ?_)
  refine lv_if_eq (tgt := 26) hx hb dX12_strings_13 (by decide) (fun hc15 => ?_) (fun hc15 => ?_)
  · have hT := hT.1 hc15
    refine lv_iconst (v := -1) hx hb dX12_strings_26 (by decide) ?_
    exact fx_iret X hr hk h hT dX12_strings_27
  · have hT := hT.2 hc15
    refine lv_aload_n hx hb dX12_strings_16 rfl (lv_at hl 0 rfl) ?_
    refine lv_iload_n hx hb dX12_strings_17 rfl (lv_at hl 2 rfl) ?_
    refine lv_iconst (v := 0) hx hb dX12_strings_18 (by decide) ?_
    refine lv_iconst (v := 1) hx hb dX12_strings_19 (by decide) ?_
    refine fx_vi X h ym_X12_isIn yi_X12_isIn ys_X12_isIn (fx_s7 (List.mem_of_getElem? (i := 77) rfl) rfl) sh_159 rfl (c_X12_isIn l G hT) (As := [.int x2, .int (0 : Int32), .int (1 : Int32)]) (rest := []) rfl rfl ⟨Nat.le_of_ble_eq_true rfl, Nat.le_of_ble_eq_true rfl⟩ ⟨Nat.le_refl _, Nat.le_refl _⟩ hl.1 (Nat.le_of_ble_eq_true rfl) dX12_strings_20 (fun r18 M17 H locs hT h => ?_)
    refine lv_if_ne (tgt := 28) hx hb dX12_strings_23 (by decide) (fun hc19 => ?_) (fun hc19 => ?_)
    · have hT := hT.2 hc19
      refine lv_iconst (v := 0) hx hb dX12_strings_28 (by decide) ?_
      refine lv_istore_n (lv' := [(3, .int (0 : Int32)), (0, .ref (G.2.2.2 + 159)), (1, .int x1), (2, .int x2)]) hx hb dX12_strings_29 rfl hl (by decide) rfl (fun ls hl => ?_)
      refine lv_iconst (v := 0) hx hb dX12_strings_30 (by decide) ?_
      refine lv_istore (lv' := [(4, .int (0 : Int32)), (3, .int (0 : Int32)), (0, .ref (G.2.2.2 + 159)), (1, .int x1), (2, .int x2)]) hx hb dX12_strings_31 hl (by decide) rfl (fun ls hl => ?_)
      exact w_X12_strings_33 X hr hk 5000 x1 x2 (0 : Int32) (0 : Int32) M17 _ _ ls hT h (lv_sub hl [2, 3, 4, 1, 0] rfl)
    · have hT := hT.1 hc19
      refine lv_iconst (v := -1) hx hb dX12_strings_26 (by decide) ?_
      exact fx_iret X hr hk h hT dX12_strings_27
/-! MockParcelsModel.digitOf(II)I -/
theorem dX12_digitOf_0 : decode cX12_digitOf 0 = .ok (.iload_n 1, 1) := by decide +kernel
theorem dX12_digitOf_1 : decode cX12_digitOf 1 = .ok (.istore_n 3, 1) := by decide +kernel
theorem dX12_digitOf_2 : decode cX12_digitOf 2 = .ok (.bipush 7, 2) := by decide +kernel
theorem dX12_digitOf_4 : decode cX12_digitOf 4 = .ok (.istore 4, 2) := by decide +kernel
theorem dX12_digitOf_6 : decode cX12_digitOf 6 = .ok (.iload 4, 2) := by decide +kernel
theorem dX12_digitOf_8 : decode cX12_digitOf 8 = .ok (.iload_n 2, 1) := by decide +kernel
theorem dX12_digitOf_9 : decode cX12_digitOf 9 = .ok (.if_icmp .le 14, 3) := by decide +kernel
theorem dX12_digitOf_12 : decode cX12_digitOf 12 = .ok (.iload_n 3, 1) := by decide +kernel
theorem dX12_digitOf_13 : decode cX12_digitOf 13 = .ok (.bipush 10, 2) := by decide +kernel
theorem dX12_digitOf_15 : decode cX12_digitOf 15 = .ok (.idiv, 1) := by decide +kernel
theorem dX12_digitOf_16 : decode cX12_digitOf 16 = .ok (.istore_n 3, 1) := by decide +kernel
theorem dX12_digitOf_17 : decode cX12_digitOf 17 = .ok (.iinc 4 (-1), 3) := by decide +kernel
theorem dX12_digitOf_20 : decode cX12_digitOf 20 = .ok (.goto (-14), 3) := by decide +kernel
theorem dX12_digitOf_23 : decode cX12_digitOf 23 = .ok (.iload_n 3, 1) := by decide +kernel
theorem dX12_digitOf_24 : decode cX12_digitOf 24 = .ok (.bipush 10, 2) := by decide +kernel
theorem dX12_digitOf_26 : decode cX12_digitOf 26 = .ok (.irem, 1) := by decide +kernel
theorem dX12_digitOf_27 : decode cX12_digitOf 27 = .ok (.ireturn, 1) := by decide +kernel
def T_X12_digitOf_6 : Nat → Int32 → Int32 → Int32 → Mm → (Int32 → Mm → Prop) → Prop
  | 0, _, _, _, _, _ => False
  | n + 1, x2, x3, x4, M, K => ((x4 ≤ x2 → (K (x3 - x3 / (10 : Int32) * (10 : Int32)) M)) ∧ (¬ x4 ≤ x2 → (∀ y2 : Int32, y2 = (x3 / (10 : Int32)) → (∀ y3 : Int32, y3 = x4 + (-1 : Int32) → (T_X12_digitOf_6 n x2 y2 y3 M K)))))
set_option maxHeartbeats 4000000 in
set_option maxRecDepth 100000 in
theorem w_X12_digitOf_6 {p : Program} {l : Launch} {e : Env} {s : State} {m : MethodId} {args : Array Value} {below : List Frame} {meth : Method} {c : Code} {G : fx_G} {K : Int32 → Mm → Prop} (X : fx_C G p s m c args cX12_digitOf 5 RX12) (hr : meth.sig.returnType = (some .int)) (hk : meth.locks = false) : ∀ (n : Nat) (x2 : Int32) (x3 : Int32) (x4 : Int32) (M : Mm) (H : Heap) (locs : List Loc) (ls : Array Slot), T_X12_digitOf_6 n x2 x3 x4 M K → fx_H G SH M s H locs → lv_has ls 5 [(2, .int x2), (3, .int x3), (4, .int x4)] → W p l e (fx_rm (0)) s m args below meth c H locs 0 0 (MQ below (va_Qi K (fx_R G SH) (fx_A G)) args s 0 0 (fx_A G)) (F0 m 6 ls []) := by
  obtain ⟨⟨hx, hb, hml, hown, hts⟩, hK, hQ⟩ := id X
  intro n
  induction n with
  | zero =>
    intro x2 x3 x4 M H locs ls hT
    exact hT.elim
  | succ n ih =>
    intro x2 x3 x4 M H locs ls hT h hl
    rw [T_X12_digitOf_6] at hT
    refine lv_iload hx hb dX12_digitOf_6 (lv_at hl 2 rfl) ?_
    refine lv_iload_n hx hb dX12_digitOf_8 rfl (lv_at hl 0 rfl) ?_
    refine lv_icmp_le (tgt := 23) hx hb dX12_digitOf_9 (by decide) (fun hc1 => ?_) (fun hc1 => ?_)
    · have hT := hT.1 hc1
      refine lv_iload_n hx hb dX12_digitOf_23 rfl (lv_at hl 1 rfl) ?_
      refine lv_bipush (v := 10) hx hb dX12_digitOf_24 (by decide) ?_
      refine lv_irem hx hb dX12_digitOf_26 (by decide) ?_
      exact fx_iret X hr hk h hT dX12_digitOf_27
    · have hT := hT.2 hc1
      refine lv_iload_n hx hb dX12_digitOf_12 rfl (lv_at hl 1 rfl) ?_
      refine lv_bipush (v := 10) hx hb dX12_digitOf_13 (by decide) ?_
      refine lv_idiv hx hb dX12_digitOf_15 (by decide) ?_
      refine lv_topi (fun y2 ey2 => ?_)
      have hT := hT y2 ey2
      refine lv_istore_n (lv' := [(3, .int y2), (2, .int x2), (4, .int x4)]) hx hb dX12_digitOf_16 rfl hl (by decide) rfl (fun ls hl => ?_)
      obtain ⟨y3, ey3⟩ : ∃ z : Int32, z = x4 + (-1 : Int32) := ⟨_, rfl⟩
      have hT := hT y3 ey3
      refine lv_iinc (v := y3) (lv' := [(4, .int y3), (3, .int y2), (2, .int x2)]) hx hb dX12_digitOf_17 hl (k := 2) rfl (by rw [ey3]; rfl) (by decide) rfl (fun ls hl => ?_)
      refine lv_goto (tgt := 6) hx hb dX12_digitOf_20 (by decide) ?_
      exact ih x2 y2 y3 M _ _ ls hT h (lv_sub hl [2, 1, 0] rfl)
def T_X12_digitOf (x1 : Int32) (x2 : Int32) (M : Mm) (K : Int32 → Mm → Prop) : Prop := (T_X12_digitOf_6 5000 x2 x1 (7 : Int32) M K)
set_option maxHeartbeats 4000000 in
set_option maxRecDepth 100000 in
theorem c_X12_digitOf (l : Launch) (G : fx_G) {x1 : Int32} {x2 : Int32} {M : Mm} {K : Int32 → Mm → Prop} (hT : T_X12_digitOf x1 x2 M K) : Met l yX12_digitOf (fx_ws yX12_digitOf cX12_digitOf 5 (some .int)) (fx_rm (0)) (va_Pc [.ref (G.2.2.2 + 159), .int x1, .int x2] (fx_P G SH M)) (va_Qi K (fx_R G SH) (fx_A G)) 0 0 (fx_A G) := by
  refine fx_met (own := RX12) (by decide +kernel) rfl (Nat.le_of_ble_eq_true rfl) (fun p e s m below meth c X hr hk h ls hl => ?_)
  obtain ⟨⟨hx, hb, hml, hown, hts⟩, hK, hQ⟩ := id X
  have hl : lv_has ls 5 [(0, .ref (G.2.2.2 + 159)), (1, .int x1), (2, .int x2)] := hl
  unfold T_X12_digitOf at hT
  refine lv_iload_n hx hb dX12_digitOf_0 rfl (lv_at hl 1 rfl) ?_
  refine lv_istore_n (lv' := [(3, .int x1), (0, .ref (G.2.2.2 + 159)), (1, .int x1), (2, .int x2)]) hx hb dX12_digitOf_1 rfl hl (by decide) rfl (fun ls hl => ?_)
  refine lv_bipush (v := 7) hx hb dX12_digitOf_2 (by decide) ?_
  refine lv_istore (lv' := [(4, .int (7 : Int32)), (3, .int x1), (0, .ref (G.2.2.2 + 159)), (1, .int x1), (2, .int x2)]) hx hb dX12_digitOf_4 hl (by decide) rfl (fun ls hl => ?_)
  exact w_X12_digitOf_6 X hr hk 5000 x2 x1 (7 : Int32) M _ _ ls hT h (lv_sub hl [4, 1, 0] rfl)
/-! MockParcelsModel.rank(II)Z -/
theorem dX12_rank_0 : decode cX12_rank 0 = .ok (.aload_n 0, 1) := by decide +kernel
theorem dX12_rank_1 : decode cX12_rank 1 = .ok (.iconst 0, 1) := by decide +kernel
theorem dX12_rank_2 : decode cX12_rank 2 = .ok (.putfield 134, 3) := by decide +kernel
theorem dX12_rank_5 : decode cX12_rank 5 = .ok (.aload_n 0, 1) := by decide +kernel
theorem dX12_rank_6 : decode cX12_rank 6 = .ok (.iload_n 1, 1) := by decide +kernel
theorem dX12_rank_7 : decode cX12_rank 7 = .ok (.iconst 0, 1) := by decide +kernel
theorem dX12_rank_8 : decode cX12_rank 8 = .ok (.bipush 7, 2) := by decide +kernel
theorem dX12_rank_10 : decode cX12_rank 10 = .ok (.invokevirtual 157, 3) := by decide +kernel
theorem dX12_rank_13 : decode cX12_rank 13 = .ok (.ifCond .eq 15, 3) := by decide +kernel
theorem dX12_rank_16 : decode cX12_rank 16 = .ok (.aload_n 0, 1) := by decide +kernel
theorem dX12_rank_17 : decode cX12_rank 17 = .ok (.iload_n 2, 1) := by decide +kernel
theorem dX12_rank_18 : decode cX12_rank 18 = .ok (.iconst 0, 1) := by decide +kernel
theorem dX12_rank_19 : decode cX12_rank 19 = .ok (.ldc_w 452, 3) := by decide +kernel
theorem dX12_rank_22 : decode cX12_rank 22 = .ok (.invokevirtual 157, 3) := by decide +kernel
theorem dX12_rank_25 : decode cX12_rank 25 = .ok (.ifCond .ne 5, 3) := by decide +kernel
theorem dX12_rank_28 : decode cX12_rank 28 = .ok (.iconst 0, 1) := by decide +kernel
theorem dX12_rank_29 : decode cX12_rank 29 = .ok (.ireturn, 1) := by decide +kernel
theorem dX12_rank_30 : decode cX12_rank 30 = .ok (.iconst 0, 1) := by decide +kernel
theorem dX12_rank_31 : decode cX12_rank 31 = .ok (.istore_n 3, 1) := by decide +kernel
theorem dX12_rank_32 : decode cX12_rank 32 = .ok (.iconst 0, 1) := by decide +kernel
theorem dX12_rank_33 : decode cX12_rank 33 = .ok (.istore 4, 2) := by decide +kernel
theorem dX12_rank_35 : decode cX12_rank 35 = .ok (.iload 4, 2) := by decide +kernel
theorem dX12_rank_37 : decode cX12_rank 37 = .ok (.bipush 8, 2) := by decide +kernel
theorem dX12_rank_39 : decode cX12_rank 39 = .ok (.if_icmp .ge 21, 3) := by decide +kernel
theorem dX12_rank_42 : decode cX12_rank 42 = .ok (.iload_n 3, 1) := by decide +kernel
theorem dX12_rank_43 : decode cX12_rank 43 = .ok (.iconst 1, 1) := by decide +kernel
theorem dX12_rank_44 : decode cX12_rank 44 = .ok (.aload_n 0, 1) := by decide +kernel
theorem dX12_rank_45 : decode cX12_rank 45 = .ok (.iload_n 2, 1) := by decide +kernel
theorem dX12_rank_46 : decode cX12_rank 46 = .ok (.iload 4, 2) := by decide +kernel
theorem dX12_rank_48 : decode cX12_rank 48 = .ok (.invokevirtual 453, 3) := by decide +kernel
theorem dX12_rank_51 : decode cX12_rank 51 = .ok (.ishl, 1) := by decide +kernel
theorem dX12_rank_52 : decode cX12_rank 52 = .ok (.ior, 1) := by decide +kernel
theorem dX12_rank_53 : decode cX12_rank 53 = .ok (.istore_n 3, 1) := by decide +kernel
theorem dX12_rank_54 : decode cX12_rank 54 = .ok (.iinc 4 1, 3) := by decide +kernel
theorem dX12_rank_57 : decode cX12_rank 57 = .ok (.goto (-22), 3) := by decide +kernel
theorem dX12_rank_60 : decode cX12_rank 60 = .ok (.iload_n 3, 1) := by decide +kernel
theorem dX12_rank_61 : decode cX12_rank 61 = .ok (.sipush 255, 3) := by decide +kernel
theorem dX12_rank_64 : decode cX12_rank 64 = .ok (.if_icmp .eq 5, 3) := by decide +kernel
theorem dX12_rank_67 : decode cX12_rank 67 = .ok (.iconst 0, 1) := by decide +kernel
theorem dX12_rank_68 : decode cX12_rank 68 = .ok (.ireturn, 1) := by decide +kernel
theorem dX12_rank_69 : decode cX12_rank 69 = .ok (.iconst 0, 1) := by decide +kernel
theorem dX12_rank_70 : decode cX12_rank 70 = .ok (.istore 4, 2) := by decide +kernel
theorem dX12_rank_72 : decode cX12_rank 72 = .ok (.iload 4, 2) := by decide +kernel
theorem dX12_rank_74 : decode cX12_rank 74 = .ok (.bipush 8, 2) := by decide +kernel
theorem dX12_rank_76 : decode cX12_rank 76 = .ok (.if_icmp .ge 31, 3) := by decide +kernel
theorem dX12_rank_79 : decode cX12_rank 79 = .ok (.aload_n 0, 1) := by decide +kernel
theorem dX12_rank_80 : decode cX12_rank 80 = .ok (.getfield 104, 3) := by decide +kernel
theorem dX12_rank_83 : decode cX12_rank 83 = .ok (.bipush 8, 2) := by decide +kernel
theorem dX12_rank_85 : decode cX12_rank 85 = .ok (.iload_n 1, 1) := by decide +kernel
theorem dX12_rank_86 : decode cX12_rank 86 = .ok (.imul, 1) := by decide +kernel
theorem dX12_rank_87 : decode cX12_rank 87 = .ok (.iload 4, 2) := by decide +kernel
theorem dX12_rank_89 : decode cX12_rank 89 = .ok (.iadd, 1) := by decide +kernel
theorem dX12_rank_90 : decode cX12_rank 90 = .ok (.aload_n 0, 1) := by decide +kernel
theorem dX12_rank_91 : decode cX12_rank 91 = .ok (.iload_n 2, 1) := by decide +kernel
theorem dX12_rank_92 : decode cX12_rank 92 = .ok (.iload 4, 2) := by decide +kernel
theorem dX12_rank_94 : decode cX12_rank 94 = .ok (.invokevirtual 453, 3) := by decide +kernel
theorem dX12_rank_97 : decode cX12_rank 97 = .ok (.iload 4, 2) := by decide +kernel
theorem dX12_rank_99 : decode cX12_rank 99 = .ok (.isub, 1) := by decide +kernel
theorem dX12_rank_100 : decode cX12_rank 100 = .ok (.iastore, 1) := by decide +kernel
theorem dX12_rank_101 : decode cX12_rank 101 = .ok (.iinc 4 1, 3) := by decide +kernel
theorem dX12_rank_104 : decode cX12_rank 104 = .ok (.goto (-32), 3) := by decide +kernel
theorem dX12_rank_107 : decode cX12_rank 107 = .ok (.iconst 1, 1) := by decide +kernel
theorem dX12_rank_108 : decode cX12_rank 108 = .ok (.ireturn, 1) := by decide +kernel
def T_X12_rank_72 : Nat → Int32 → Int32 → Int32 → Mm → (Int32 → Mm → Prop) → Prop
  | 0, _, _, _, _, _ => False
  | n + 1, x1, x2, x4, M, K => (((8 : Int32) ≤ x4 → (K (1 : Int32) M)) ∧ (¬ (8 : Int32) ≤ x4 → (T_X12_digitOf x2 x4 M (fun r4 M3 => (vp_in (((8 : Int32) * x1) + x4) 64 ∧ (∀ M5 : Mm, M5 = m_up M3 190 ((((8 : Int32) * x1) + x4)).toNatClampNeg (r4 - x4) → (∀ y7 : Int32, y7 = x4 + (1 : Int32) → (T_X12_rank_72 n x1 x2 y7 M5 K))))))))
set_option maxHeartbeats 4000000 in
set_option maxRecDepth 100000 in
theorem w_X12_rank_72 {p : Program} {l : Launch} {e : Env} {s : State} {m : MethodId} {args : Array Value} {below : List Frame} {meth : Method} {c : Code} {G : fx_G} {K : Int32 → Mm → Prop} (X : fx_C G p s m c args cX12_rank 5 RX12) (hr : meth.sig.returnType = (some .boolean)) (hk : meth.locks = false) : ∀ (n : Nat) (x1 : Int32) (x2 : Int32) (x4 : Int32) (M : Mm) (H : Heap) (locs : List Loc) (ls : Array Slot), T_X12_rank_72 n x1 x2 x4 M K → fx_H G SH M s H locs → lv_has ls 5 [(0, .ref (G.2.2.2 + 159)), (1, .int x1), (2, .int x2), (4, .int x4)] → W p l e (fx_rm (1)) s m args below meth c H locs 0 0 (MQ below (va_Qi K (fx_R G SH) (fx_A G)) args s 0 0 (fx_A G)) (F0 m 72 ls []) := by
  obtain ⟨⟨hx, hb, hml, hown, hts⟩, hK, hQ⟩ := id X
  intro n
  induction n with
  | zero =>
    intro x1 x2 x4 M H locs ls hT
    exact hT.elim
  | succ n ih =>
    intro x1 x2 x4 M H locs ls hT h hl
    rw [T_X12_rank_72] at hT
    refine lv_iload hx hb dX12_rank_72 (lv_at hl 3 rfl) ?_
    refine lv_bipush (v := 8) hx hb dX12_rank_74 (by decide) ?_
    refine lv_icmp_ge (tgt := 107) hx hb dX12_rank_76 (by decide) (fun hc1 => ?_) (fun hc1 => ?_)
    · have hT := hT.1 hc1
      refine lv_iconst (v := 1) hx hb dX12_rank_107 (by decide) ?_
      exact fx_zret X hr hk h (Or.inr rfl) hT dX12_rank_108
    · have hT := hT.2 hc1
      refine lv_aload_n hx hb dX12_rank_79 rfl (lv_at hl 0 rfl) ?_
      refine fx_getR X h (k := 159) (j := 56) (r := 190) sh_159 rfl fl_RX12_104 dX12_rank_80 ?_
      refine lv_bipush (v := 8) hx hb dX12_rank_83 (by decide) ?_
      refine lv_iload_n hx hb dX12_rank_85 rfl (lv_at hl 1 rfl) ?_
      refine lv_imul hx hb dX12_rank_86 ?_
      refine lv_iload hx hb dX12_rank_87 (lv_at hl 3 rfl) ?_
      refine lv_iadd hx hb dX12_rank_89 ?_
      refine lv_aload_n hx hb dX12_rank_90 rfl (lv_at hl 0 rfl) ?_
      refine lv_iload_n hx hb dX12_rank_91 rfl (lv_at hl 2 rfl) ?_
      refine lv_iload hx hb dX12_rank_92 (lv_at hl 3 rfl) ?_
      refine fx_vi X h ym_X12_digitOf yi_X12_digitOf ys_X12_digitOf (fx_s8 (List.mem_of_getElem? (i := 234) rfl) rfl) sh_159 rfl (c_X12_digitOf l G hT) (As := [.int x2, .int x4]) (rest := [.int (((8 : Int32) * x1) + x4), .ref (G.2.2.2 + 190)]) rfl rfl ⟨Nat.le_of_ble_eq_true rfl, Nat.le_of_ble_eq_true rfl⟩ ⟨Nat.le_refl _, Nat.le_refl _⟩ hl.1 (Nat.le_of_ble_eq_true rfl) dX12_rank_94 (fun r4 M3 H locs hT h => ?_)
      refine lv_iload hx hb dX12_rank_97 (lv_at hl 3 rfl) ?_
      refine lv_isub hx hb dX12_rank_99 ?_
      obtain ⟨hi6, hT⟩ := hT
      refine fx_iast X h (k := 190) sh_190 hi6 dX12_rank_100 (fun H locs h => ?_)
      obtain ⟨M5, eM5⟩ : ∃ z : Mm, z = m_up M3 190 ((((8 : Int32) * x1) + x4)).toNatClampNeg (r4 - x4) := ⟨_, rfl⟩
      have hT := hT M5 eM5
      rw [← eM5] at h
      obtain ⟨y7, ey7⟩ : ∃ z : Int32, z = x4 + (1 : Int32) := ⟨_, rfl⟩
      have hT := hT y7 ey7
      refine lv_iinc (v := y7) (lv' := [(4, .int y7), (0, .ref (G.2.2.2 + 159)), (1, .int x1), (2, .int x2)]) hx hb dX12_rank_101 hl (k := 3) rfl (by rw [ey7]; rfl) (by decide) rfl (fun ls hl => ?_)
      refine lv_goto (tgt := 72) hx hb dX12_rank_104 (by decide) ?_
      exact ih x1 x2 y7 M5 _ _ ls hT h (lv_sub hl [1, 2, 3, 0] rfl)
def T_X12_rank_35 : Nat → Int32 → Int32 → Int32 → Int32 → Mm → (Int32 → Mm → Prop) → Prop
  | 0, _, _, _, _, _, _ => False
  | n + 1, x1, x2, x3, x4, M, K => (((8 : Int32) ≤ x4 → ((x3 = (255 : Int32) → (T_X12_rank_72 5000 x1 x2 (0 : Int32) M K)) ∧ (¬ x3 = (255 : Int32) → (K (0 : Int32) M)))) ∧ (¬ (8 : Int32) ≤ x4 → (T_X12_digitOf x2 x4 M (fun r12 M11 => (∀ y13 : Int32, y13 = (x3 ||| ((1 : Int32) <<< (r12 &&& 31))) → (∀ y14 : Int32, y14 = x4 + (1 : Int32) → (T_X12_rank_35 n x1 x2 y13 y14 M11 K)))))))
set_option maxHeartbeats 4000000 in
set_option maxRecDepth 100000 in
theorem w_X12_rank_35 {p : Program} {l : Launch} {e : Env} {s : State} {m : MethodId} {args : Array Value} {below : List Frame} {meth : Method} {c : Code} {G : fx_G} {K : Int32 → Mm → Prop} (X : fx_C G p s m c args cX12_rank 5 RX12) (hr : meth.sig.returnType = (some .boolean)) (hk : meth.locks = false) : ∀ (n : Nat) (x1 : Int32) (x2 : Int32) (x3 : Int32) (x4 : Int32) (M : Mm) (H : Heap) (locs : List Loc) (ls : Array Slot), T_X12_rank_35 n x1 x2 x3 x4 M K → fx_H G SH M s H locs → lv_has ls 5 [(0, .ref (G.2.2.2 + 159)), (1, .int x1), (2, .int x2), (3, .int x3), (4, .int x4)] → W p l e (fx_rm (1)) s m args below meth c H locs 0 0 (MQ below (va_Qi K (fx_R G SH) (fx_A G)) args s 0 0 (fx_A G)) (F0 m 35 ls []) := by
  obtain ⟨⟨hx, hb, hml, hown, hts⟩, hK, hQ⟩ := id X
  intro n
  induction n with
  | zero =>
    intro x1 x2 x3 x4 M H locs ls hT
    exact hT.elim
  | succ n ih =>
    intro x1 x2 x3 x4 M H locs ls hT h hl
    rw [T_X12_rank_35] at hT
    refine lv_iload hx hb dX12_rank_35 (lv_at hl 4 rfl) ?_
    refine lv_bipush (v := 8) hx hb dX12_rank_37 (by decide) ?_
    refine lv_icmp_ge (tgt := 60) hx hb dX12_rank_39 (by decide) (fun hc8 => ?_) (fun hc8 => ?_)
    · have hT := hT.1 hc8
      refine lv_iload_n hx hb dX12_rank_60 rfl (lv_at hl 3 rfl) ?_
      refine lv_sipush (v := 255) hx hb dX12_rank_61 (by decide) ?_
      refine lv_icmp_eq (tgt := 69) hx hb dX12_rank_64 (by decide) (fun hc9 => ?_) (fun hc9 => ?_)
      · have hT := hT.1 hc9
        refine lv_iconst (v := 0) hx hb dX12_rank_69 (by decide) ?_
        refine lv_istore (lv' := [(4, .int (0 : Int32)), (0, .ref (G.2.2.2 + 159)), (1, .int x1), (2, .int x2), (3, .int x3)]) hx hb dX12_rank_70 hl (by decide) rfl (fun ls hl => ?_)
        exact w_X12_rank_72 X hr hk 5000 x1 x2 (0 : Int32) M _ _ ls hT h (lv_sub hl [1, 2, 3, 0] rfl)
      · have hT := hT.2 hc9
        refine lv_iconst (v := 0) hx hb dX12_rank_67 (by decide) ?_
        exact fx_zret X hr hk h (Or.inl rfl) hT dX12_rank_68
    · have hT := hT.2 hc8
      refine lv_iload_n hx hb dX12_rank_42 rfl (lv_at hl 3 rfl) ?_
      refine lv_iconst (v := 1) hx hb dX12_rank_43 (by decide) ?_
      refine lv_aload_n hx hb dX12_rank_44 rfl (lv_at hl 0 rfl) ?_
      refine lv_iload_n hx hb dX12_rank_45 rfl (lv_at hl 2 rfl) ?_
      refine lv_iload hx hb dX12_rank_46 (lv_at hl 4 rfl) ?_
      refine fx_vi X h ym_X12_digitOf yi_X12_digitOf ys_X12_digitOf (fx_s8 (List.mem_of_getElem? (i := 234) rfl) rfl) sh_159 rfl (c_X12_digitOf l G hT) (As := [.int x2, .int x4]) (rest := [.int (1 : Int32), .int x3]) rfl rfl ⟨Nat.le_of_ble_eq_true rfl, Nat.le_of_ble_eq_true rfl⟩ ⟨Nat.le_refl _, Nat.le_refl _⟩ hl.1 (Nat.le_of_ble_eq_true rfl) dX12_rank_48 (fun r12 M11 H locs hT h => ?_)
      refine lv_ishl hx hb dX12_rank_51 ?_
      refine lv_ior hx hb dX12_rank_52 ?_
      refine lv_topi (fun y13 ey13 => ?_)
      have hT := hT y13 ey13
      refine lv_istore_n (lv' := [(3, .int y13), (0, .ref (G.2.2.2 + 159)), (1, .int x1), (2, .int x2), (4, .int x4)]) hx hb dX12_rank_53 rfl hl (by decide) rfl (fun ls hl => ?_)
      obtain ⟨y14, ey14⟩ : ∃ z : Int32, z = x4 + (1 : Int32) := ⟨_, rfl⟩
      have hT := hT y14 ey14
      refine lv_iinc (v := y14) (lv' := [(4, .int y14), (3, .int y13), (0, .ref (G.2.2.2 + 159)), (1, .int x1), (2, .int x2)]) hx hb dX12_rank_54 hl (k := 4) rfl (by rw [ey14]; rfl) (by decide) rfl (fun ls hl => ?_)
      refine lv_goto (tgt := 35) hx hb dX12_rank_57 (by decide) ?_
      exact ih x1 x2 y13 y14 M11 _ _ ls hT h (lv_sub hl [2, 3, 4, 1, 0] rfl)
def T_X12_rank (x1 : Int32) (x2 : Int32) (M : Mm) (K : Int32 → Mm → Prop) : Prop := (∀ M15 : Mm, M15 = m_up M 159 0 (0 : Int32) → (T_X12_isIn x1 (0 : Int32) (7 : Int32) M15 (fun r18 M17 => ((r18 = 0 → (K (0 : Int32) M17)) ∧ (¬ r18 = 0 → (T_X12_isIn x2 (0 : Int32) (76543210 : Int32) M17 (fun r22 M21 => ((r22 = 0 → (K (0 : Int32) M21)) ∧ (¬ r22 = 0 → (T_X12_rank_35 5000 x1 x2 (0 : Int32) (0 : Int32) M21 K))))))))))
set_option maxHeartbeats 4000000 in
set_option maxRecDepth 100000 in
theorem c_X12_rank (l : Launch) (G : fx_G) {x1 : Int32} {x2 : Int32} {M : Mm} {K : Int32 → Mm → Prop} (hT : T_X12_rank x1 x2 M K) : Met l yX12_rank (fx_ws yX12_rank cX12_rank 5 (some .boolean)) (fx_rm (1)) (va_Pc [.ref (G.2.2.2 + 159), .int x1, .int x2] (fx_P G SH M)) (va_Qi K (fx_R G SH) (fx_A G)) 0 0 (fx_A G) := by
  refine fx_met (own := RX12) (by decide +kernel) rfl (Nat.le_of_ble_eq_true rfl) (fun p e s m below meth c X hr hk h ls hl => ?_)
  obtain ⟨⟨hx, hb, hml, hown, hts⟩, hK, hQ⟩ := id X
  have hl : lv_has ls 5 [(0, .ref (G.2.2.2 + 159)), (1, .int x1), (2, .int x2)] := hl
  unfold T_X12_rank at hT
  refine lv_aload_n hx hb dX12_rank_0 rfl (lv_at hl 0 rfl) ?_
  refine lv_iconst (v := 0) hx hb dX12_rank_1 (by decide) ?_
  refine fx_putI X h (k := 159) (j := 0) sh_159 rfl fl_RX12_134 dX12_rank_2 (fun H locs h => ?_)
  obtain ⟨M15, eM15⟩ : ∃ z : Mm, z = m_up M 159 0 (0 : Int32) := ⟨_, rfl⟩
  have hT := hT M15 eM15
  rw [← eM15] at h
  refine lv_aload_n hx hb dX12_rank_5 rfl (lv_at hl 0 rfl) ?_
  refine lv_iload_n hx hb dX12_rank_6 rfl (lv_at hl 1 rfl) ?_
  refine lv_iconst (v := 0) hx hb dX12_rank_7 (by decide) ?_
  refine lv_bipush (v := 7) hx hb dX12_rank_8 (by decide) ?_
  refine fx_vi X h ym_X12_isIn yi_X12_isIn ys_X12_isIn (fx_s7 (List.mem_of_getElem? (i := 77) rfl) rfl) sh_159 rfl (c_X12_isIn l G hT) (As := [.int x1, .int (0 : Int32), .int (7 : Int32)]) (rest := []) rfl rfl ⟨Nat.le_of_ble_eq_true rfl, Nat.le_of_ble_eq_true rfl⟩ ⟨Nat.le_refl _, Nat.le_refl _⟩ hl.1 (Nat.le_of_ble_eq_true rfl) dX12_rank_10 (fun r18 M17 H locs hT h => ?_)
  refine lv_if_eq (tgt := 28) hx hb dX12_rank_13 (by decide) (fun hc19 => ?_) (fun hc19 => ?_)
  · have hT := hT.1 hc19
    refine lv_iconst (v := 0) hx hb dX12_rank_28 (by decide) ?_
    exact fx_zret X hr hk h (Or.inl rfl) hT dX12_rank_29
  · have hT := hT.2 hc19
    refine lv_aload_n hx hb dX12_rank_16 rfl (lv_at hl 0 rfl) ?_
    refine lv_iload_n hx hb dX12_rank_17 rfl (lv_at hl 2 rfl) ?_
    refine lv_iconst (v := 0) hx hb dX12_rank_18 (by decide) ?_
    refine lv_ldcw (v := 76543210) hx hb hown (hts _ (fx_s8 (List.mem_of_getElem? (i := 233) rfl) rfl)) dX12_rank_19 ?_
    refine fx_vi X h ym_X12_isIn yi_X12_isIn ys_X12_isIn (fx_s7 (List.mem_of_getElem? (i := 77) rfl) rfl) sh_159 rfl (c_X12_isIn l G hT) (As := [.int x2, .int (0 : Int32), .int (76543210 : Int32)]) (rest := []) rfl rfl ⟨Nat.le_of_ble_eq_true rfl, Nat.le_of_ble_eq_true rfl⟩ ⟨Nat.le_refl _, Nat.le_refl _⟩ hl.1 (Nat.le_of_ble_eq_true rfl) dX12_rank_22 (fun r22 M21 H locs hT h => ?_)
    refine lv_if_ne (tgt := 30) hx hb dX12_rank_25 (by decide) (fun hc23 => ?_) (fun hc23 => ?_)
    · have hT := hT.2 hc23
      refine lv_iconst (v := 0) hx hb dX12_rank_30 (by decide) ?_
      refine lv_istore_n (lv' := [(3, .int (0 : Int32)), (0, .ref (G.2.2.2 + 159)), (1, .int x1), (2, .int x2)]) hx hb dX12_rank_31 rfl hl (by decide) rfl (fun ls hl => ?_)
      refine lv_iconst (v := 0) hx hb dX12_rank_32 (by decide) ?_
      refine lv_istore (lv' := [(4, .int (0 : Int32)), (3, .int (0 : Int32)), (0, .ref (G.2.2.2 + 159)), (1, .int x1), (2, .int x2)]) hx hb dX12_rank_33 hl (by decide) rfl (fun ls hl => ?_)
      exact w_X12_rank_35 X hr hk 5000 x1 x2 (0 : Int32) (0 : Int32) M21 _ _ ls hT h (lv_sub hl [2, 3, 4, 1, 0] rfl)
    · have hT := hT.1 hc23
      refine lv_iconst (v := 0) hx hb dX12_rank_28 (by decide) ?_
      exact fx_zret X hr hk h (Or.inl rfl) hT dX12_rank_29
/-! MockParcelsModel.dearestOf(II)I -/
theorem dX12_dearestOf_0 : decode cX12_dearestOf 0 = .ok (.iconst 0, 1) := by decide +kernel
theorem dX12_dearestOf_1 : decode cX12_dearestOf 1 = .ok (.istore_n 3, 1) := by decide +kernel
theorem dX12_dearestOf_2 : decode cX12_dearestOf 2 = .ok (.aload_n 0, 1) := by decide +kernel
theorem dX12_dearestOf_3 : decode cX12_dearestOf 3 = .ok (.iload_n 2, 1) := by decide +kernel
theorem dX12_dearestOf_4 : decode cX12_dearestOf 4 = .ok (.aload_n 0, 1) := by decide +kernel
theorem dX12_dearestOf_5 : decode cX12_dearestOf 5 = .ok (.getfield 104, 3) := by decide +kernel
theorem dX12_dearestOf_8 : decode cX12_dearestOf 8 = .ok (.bipush 8, 2) := by decide +kernel
theorem dX12_dearestOf_10 : decode cX12_dearestOf 10 = .ok (.iload_n 1, 1) := by decide +kernel
theorem dX12_dearestOf_11 : decode cX12_dearestOf 11 = .ok (.imul, 1) := by decide +kernel
theorem dX12_dearestOf_12 : decode cX12_dearestOf 12 = .ok (.iload_n 3, 1) := by decide +kernel
theorem dX12_dearestOf_13 : decode cX12_dearestOf 13 = .ok (.iadd, 1) := by decide +kernel
theorem dX12_dearestOf_14 : decode cX12_dearestOf 14 = .ok (.iaload, 1) := by decide +kernel
theorem dX12_dearestOf_15 : decode cX12_dearestOf 15 = .ok (.iload_n 3, 1) := by decide +kernel
theorem dX12_dearestOf_16 : decode cX12_dearestOf 16 = .ok (.iadd, 1) := by decide +kernel
theorem dX12_dearestOf_17 : decode cX12_dearestOf 17 = .ok (.invokevirtual 442, 3) := by decide +kernel
theorem dX12_dearestOf_20 : decode cX12_dearestOf 20 = .ok (.ifCond .ne 10, 3) := by decide +kernel
theorem dX12_dearestOf_23 : decode cX12_dearestOf 23 = .ok (.iload_n 3, 1) := by decide +kernel
theorem dX12_dearestOf_24 : decode cX12_dearestOf 24 = .ok (.iconst 1, 1) := by decide +kernel
theorem dX12_dearestOf_25 : decode cX12_dearestOf 25 = .ok (.iadd, 1) := by decide +kernel
theorem dX12_dearestOf_26 : decode cX12_dearestOf 26 = .ok (.istore_n 3, 1) := by decide +kernel
theorem dX12_dearestOf_27 : decode cX12_dearestOf 27 = .ok (.goto (-25), 3) := by decide +kernel
theorem dX12_dearestOf_30 : decode cX12_dearestOf 30 = .ok (.aload_n 0, 1) := by decide +kernel
theorem dX12_dearestOf_31 : decode cX12_dearestOf 31 = .ok (.getfield 104, 3) := by decide +kernel
theorem dX12_dearestOf_34 : decode cX12_dearestOf 34 = .ok (.bipush 8, 2) := by decide +kernel
theorem dX12_dearestOf_36 : decode cX12_dearestOf 36 = .ok (.iload_n 1, 1) := by decide +kernel
theorem dX12_dearestOf_37 : decode cX12_dearestOf 37 = .ok (.imul, 1) := by decide +kernel
theorem dX12_dearestOf_38 : decode cX12_dearestOf 38 = .ok (.iload_n 3, 1) := by decide +kernel
theorem dX12_dearestOf_39 : decode cX12_dearestOf 39 = .ok (.iadd, 1) := by decide +kernel
theorem dX12_dearestOf_40 : decode cX12_dearestOf 40 = .ok (.iaload, 1) := by decide +kernel
theorem dX12_dearestOf_41 : decode cX12_dearestOf 41 = .ok (.iload_n 3, 1) := by decide +kernel
theorem dX12_dearestOf_42 : decode cX12_dearestOf 42 = .ok (.iadd, 1) := by decide +kernel
theorem dX12_dearestOf_43 : decode cX12_dearestOf 43 = .ok (.ireturn, 1) := by decide +kernel
def T_X12_dearestOf_2 : Nat → Int32 → Int32 → Int32 → Mm → (Int32 → Mm → Prop) → Prop
  | 0, _, _, _, _, _ => False
  | n + 1, x1, x2, x3, M, K => (vp_in (((8 : Int32) * x1) + x3) 64 ∧ (T_X12_has x2 ((M 190 ((((8 : Int32) * x1) + x3)).toNatClampNeg) + x3) M (fun r4 M3 => ((r4 = 0 → (∀ y7 : Int32, y7 = (x3 + (1 : Int32)) → (T_X12_dearestOf_2 n x1 x2 y7 M3 K))) ∧ (¬ r4 = 0 → (vp_in (((8 : Int32) * x1) + x3) 64 ∧ (K ((M3 190 ((((8 : Int32) * x1) + x3)).toNatClampNeg) + x3) M3)))))))
set_option maxHeartbeats 4000000 in
set_option maxRecDepth 100000 in
theorem w_X12_dearestOf_2 {p : Program} {l : Launch} {e : Env} {s : State} {m : MethodId} {args : Array Value} {below : List Frame} {meth : Method} {c : Code} {G : fx_G} {K : Int32 → Mm → Prop} (X : fx_C G p s m c args cX12_dearestOf 4 RX12) (hr : meth.sig.returnType = (some .int)) (hk : meth.locks = false) : ∀ (n : Nat) (x1 : Int32) (x2 : Int32) (x3 : Int32) (M : Mm) (H : Heap) (locs : List Loc) (ls : Array Slot), T_X12_dearestOf_2 n x1 x2 x3 M K → fx_H G SH M s H locs → lv_has ls 4 [(0, .ref (G.2.2.2 + 159)), (1, .int x1), (2, .int x2), (3, .int x3)] → W p l e (fx_rm (1)) s m args below meth c H locs 0 0 (MQ below (va_Qi K (fx_R G SH) (fx_A G)) args s 0 0 (fx_A G)) (F0 m 2 ls []) := by
  obtain ⟨⟨hx, hb, hml, hown, hts⟩, hK, hQ⟩ := id X
  intro n
  induction n with
  | zero =>
    intro x1 x2 x3 M H locs ls hT
    exact hT.elim
  | succ n ih =>
    intro x1 x2 x3 M H locs ls hT h hl
    rw [T_X12_dearestOf_2] at hT
    refine lv_aload_n hx hb dX12_dearestOf_2 rfl (lv_at hl 0 rfl) ?_
    refine lv_iload_n hx hb dX12_dearestOf_3 rfl (lv_at hl 2 rfl) ?_
    refine lv_aload_n hx hb dX12_dearestOf_4 rfl (lv_at hl 0 rfl) ?_
    refine fx_getR X h (k := 159) (j := 56) (r := 190) sh_159 rfl fl_RX12_104 dX12_dearestOf_5 ?_
    refine lv_bipush (v := 8) hx hb dX12_dearestOf_8 (by decide) ?_
    refine lv_iload_n hx hb dX12_dearestOf_10 rfl (lv_at hl 1 rfl) ?_
    refine lv_imul hx hb dX12_dearestOf_11 ?_
    refine lv_iload_n hx hb dX12_dearestOf_12 rfl (lv_at hl 3 rfl) ?_
    refine lv_iadd hx hb dX12_dearestOf_13 ?_
    obtain ⟨hi1, hT⟩ := hT
    refine fx_iald X h (k := 190) sh_190 hi1 dX12_dearestOf_14 ?_
    refine lv_iload_n hx hb dX12_dearestOf_15 rfl (lv_at hl 3 rfl) ?_
    refine lv_iadd hx hb dX12_dearestOf_16 ?_
    refine fx_vi X h ym_X12_has yi_X12_has ys_X12_has (fx_s8 (List.mem_of_getElem? (i := 221) rfl) rfl) sh_159 rfl (c_X12_has l G hT) (As := [.int x2, .int ((M 190 ((((8 : Int32) * x1) + x3)).toNatClampNeg) + x3)]) (rest := []) rfl rfl ⟨Nat.le_of_ble_eq_true rfl, Nat.le_of_ble_eq_true rfl⟩ ⟨Nat.le_refl _, Nat.le_refl _⟩ hl.1 (Nat.le_of_ble_eq_true rfl) dX12_dearestOf_17 (fun r4 M3 H locs hT h => ?_)
    refine lv_if_ne (tgt := 30) hx hb dX12_dearestOf_20 (by decide) (fun hc5 => ?_) (fun hc5 => ?_)
    · have hT := hT.2 hc5
      refine lv_aload_n hx hb dX12_dearestOf_30 rfl (lv_at hl 0 rfl) ?_
      refine fx_getR X h (k := 159) (j := 56) (r := 190) sh_159 rfl fl_RX12_104 dX12_dearestOf_31 ?_
      refine lv_bipush (v := 8) hx hb dX12_dearestOf_34 (by decide) ?_
      refine lv_iload_n hx hb dX12_dearestOf_36 rfl (lv_at hl 1 rfl) ?_
      refine lv_imul hx hb dX12_dearestOf_37 ?_
      refine lv_iload_n hx hb dX12_dearestOf_38 rfl (lv_at hl 3 rfl) ?_
      refine lv_iadd hx hb dX12_dearestOf_39 ?_
      obtain ⟨hi6, hT⟩ := hT
      refine fx_iald X h (k := 190) sh_190 hi6 dX12_dearestOf_40 ?_
      refine lv_iload_n hx hb dX12_dearestOf_41 rfl (lv_at hl 3 rfl) ?_
      refine lv_iadd hx hb dX12_dearestOf_42 ?_
      exact fx_iret X hr hk h hT dX12_dearestOf_43
    · have hT := hT.1 hc5
      refine lv_iload_n hx hb dX12_dearestOf_23 rfl (lv_at hl 3 rfl) ?_
      refine lv_iconst (v := 1) hx hb dX12_dearestOf_24 (by decide) ?_
      refine lv_iadd hx hb dX12_dearestOf_25 ?_
      refine lv_topi (fun y7 ey7 => ?_)
      have hT := hT y7 ey7
      refine lv_istore_n (lv' := [(3, .int y7), (0, .ref (G.2.2.2 + 159)), (1, .int x1), (2, .int x2)]) hx hb dX12_dearestOf_26 rfl hl (by decide) rfl (fun ls hl => ?_)
      refine lv_goto (tgt := 2) hx hb dX12_dearestOf_27 (by decide) ?_
      exact ih x1 x2 y7 M3 _ _ ls hT h (lv_sub hl [1, 2, 3, 0] rfl)
def T_X12_dearestOf (x1 : Int32) (x2 : Int32) (M : Mm) (K : Int32 → Mm → Prop) : Prop := (T_X12_dearestOf_2 5000 x1 x2 (0 : Int32) M K)
set_option maxHeartbeats 4000000 in
set_option maxRecDepth 100000 in
theorem c_X12_dearestOf (l : Launch) (G : fx_G) {x1 : Int32} {x2 : Int32} {M : Mm} {K : Int32 → Mm → Prop} (hT : T_X12_dearestOf x1 x2 M K) : Met l yX12_dearestOf (fx_ws yX12_dearestOf cX12_dearestOf 4 (some .int)) (fx_rm (1)) (va_Pc [.ref (G.2.2.2 + 159), .int x1, .int x2] (fx_P G SH M)) (va_Qi K (fx_R G SH) (fx_A G)) 0 0 (fx_A G) := by
  refine fx_met (own := RX12) (by decide +kernel) rfl (Nat.le_of_ble_eq_true rfl) (fun p e s m below meth c X hr hk h ls hl => ?_)
  obtain ⟨⟨hx, hb, hml, hown, hts⟩, hK, hQ⟩ := id X
  have hl : lv_has ls 4 [(0, .ref (G.2.2.2 + 159)), (1, .int x1), (2, .int x2)] := hl
  unfold T_X12_dearestOf at hT
  refine lv_iconst (v := 0) hx hb dX12_dearestOf_0 (by decide) ?_
  refine lv_istore_n (lv' := [(3, .int (0 : Int32)), (0, .ref (G.2.2.2 + 159)), (1, .int x1), (2, .int x2)]) hx hb dX12_dearestOf_1 rfl hl (by decide) rfl (fun ls hl => ?_)
  exact w_X12_dearestOf_2 X hr hk 5000 x1 x2 (0 : Int32) M _ _ ls hT h (lv_sub hl [1, 2, 3, 0] rfl)
/-! MockParcelsModel.goesRound(II)Z -/
theorem dX12_goesRound_0 : decode cX12_goesRound 0 = .ok (.aload_n 0, 1) := by decide +kernel
theorem dX12_goesRound_1 : decode cX12_goesRound 1 = .ok (.iload_n 1, 1) := by decide +kernel
theorem dX12_goesRound_2 : decode cX12_goesRound 2 = .ok (.iload_n 2, 1) := by decide +kernel
theorem dX12_goesRound_3 : decode cX12_goesRound 3 = .ok (.invokevirtual 456, 3) := by decide +kernel
theorem dX12_goesRound_6 : decode cX12_goesRound 6 = .ok (.istore_n 3, 1) := by decide +kernel
theorem dX12_goesRound_7 : decode cX12_goesRound 7 = .ok (.iconst 0, 1) := by decide +kernel
theorem dX12_goesRound_8 : decode cX12_goesRound 8 = .ok (.istore 4, 2) := by decide +kernel
theorem dX12_goesRound_10 : decode cX12_goesRound 10 = .ok (.iload 4, 2) := by decide +kernel
theorem dX12_goesRound_12 : decode cX12_goesRound 12 = .ok (.bipush 8, 2) := by decide +kernel
theorem dX12_goesRound_14 : decode cX12_goesRound 14 = .ok (.if_icmp .ge 23, 3) := by decide +kernel
theorem dX12_goesRound_17 : decode cX12_goesRound 17 = .ok (.iload_n 3, 1) := by decide +kernel
theorem dX12_goesRound_18 : decode cX12_goesRound 18 = .ok (.iload_n 1, 1) := by decide +kernel
theorem dX12_goesRound_19 : decode cX12_goesRound 19 = .ok (.if_icmp .ne 5, 3) := by decide +kernel
theorem dX12_goesRound_22 : decode cX12_goesRound 22 = .ok (.iconst 1, 1) := by decide +kernel
theorem dX12_goesRound_23 : decode cX12_goesRound 23 = .ok (.ireturn, 1) := by decide +kernel
theorem dX12_goesRound_24 : decode cX12_goesRound 24 = .ok (.aload_n 0, 1) := by decide +kernel
theorem dX12_goesRound_25 : decode cX12_goesRound 25 = .ok (.iload_n 3, 1) := by decide +kernel
theorem dX12_goesRound_26 : decode cX12_goesRound 26 = .ok (.iload_n 2, 1) := by decide +kernel
theorem dX12_goesRound_27 : decode cX12_goesRound 27 = .ok (.invokevirtual 456, 3) := by decide +kernel
theorem dX12_goesRound_30 : decode cX12_goesRound 30 = .ok (.istore_n 3, 1) := by decide +kernel
theorem dX12_goesRound_31 : decode cX12_goesRound 31 = .ok (.iinc 4 1, 3) := by decide +kernel
theorem dX12_goesRound_34 : decode cX12_goesRound 34 = .ok (.goto (-24), 3) := by decide +kernel
theorem dX12_goesRound_37 : decode cX12_goesRound 37 = .ok (.iconst 0, 1) := by decide +kernel
theorem dX12_goesRound_38 : decode cX12_goesRound 38 = .ok (.ireturn, 1) := by decide +kernel
def T_X12_goesRound_10 : Nat → Int32 → Int32 → Int32 → Int32 → Mm → (Int32 → Mm → Prop) → Prop
  | 0, _, _, _, _, _, _ => False
  | n + 1, x1, x2, x3, x4, M, K => (((8 : Int32) ≤ x4 → (K (0 : Int32) M)) ∧ (¬ (8 : Int32) ≤ x4 → ((x3 = x1 → (K (1 : Int32) M)) ∧ (¬ x3 = x1 → (T_X12_dearestOf x3 x2 M (fun r5 M4 => (∀ y6 : Int32, y6 = x4 + (1 : Int32) → (T_X12_goesRound_10 n x1 x2 r5 y6 M4 K))))))))
set_option maxHeartbeats 4000000 in
set_option maxRecDepth 100000 in
theorem w_X12_goesRound_10 {p : Program} {l : Launch} {e : Env} {s : State} {m : MethodId} {args : Array Value} {below : List Frame} {meth : Method} {c : Code} {G : fx_G} {K : Int32 → Mm → Prop} (X : fx_C G p s m c args cX12_goesRound 5 RX12) (hr : meth.sig.returnType = (some .boolean)) (hk : meth.locks = false) : ∀ (n : Nat) (x1 : Int32) (x2 : Int32) (x3 : Int32) (x4 : Int32) (M : Mm) (H : Heap) (locs : List Loc) (ls : Array Slot), T_X12_goesRound_10 n x1 x2 x3 x4 M K → fx_H G SH M s H locs → lv_has ls 5 [(0, .ref (G.2.2.2 + 159)), (1, .int x1), (2, .int x2), (3, .int x3), (4, .int x4)] → W p l e (fx_rm (2)) s m args below meth c H locs 0 0 (MQ below (va_Qi K (fx_R G SH) (fx_A G)) args s 0 0 (fx_A G)) (F0 m 10 ls []) := by
  obtain ⟨⟨hx, hb, hml, hown, hts⟩, hK, hQ⟩ := id X
  intro n
  induction n with
  | zero =>
    intro x1 x2 x3 x4 M H locs ls hT
    exact hT.elim
  | succ n ih =>
    intro x1 x2 x3 x4 M H locs ls hT h hl
    rw [T_X12_goesRound_10] at hT
    refine lv_iload hx hb dX12_goesRound_10 (lv_at hl 4 rfl) ?_
    refine lv_bipush (v := 8) hx hb dX12_goesRound_12 (by decide) ?_
    refine lv_icmp_ge (tgt := 37) hx hb dX12_goesRound_14 (by decide) (fun hc1 => ?_) (fun hc1 => ?_)
    · have hT := hT.1 hc1
      refine lv_iconst (v := 0) hx hb dX12_goesRound_37 (by decide) ?_
      exact fx_zret X hr hk h (Or.inl rfl) hT dX12_goesRound_38
    · have hT := hT.2 hc1
      refine lv_iload_n hx hb dX12_goesRound_17 rfl (lv_at hl 3 rfl) ?_
      refine lv_iload_n hx hb dX12_goesRound_18 rfl (lv_at hl 1 rfl) ?_
      refine lv_icmp_ne (tgt := 24) hx hb dX12_goesRound_19 (by decide) (fun hc2 => ?_) (fun hc2 => ?_)
      · have hT := hT.2 hc2
        refine lv_aload_n hx hb dX12_goesRound_24 rfl (lv_at hl 0 rfl) ?_
        refine lv_iload_n hx hb dX12_goesRound_25 rfl (lv_at hl 3 rfl) ?_
        refine lv_iload_n hx hb dX12_goesRound_26 rfl (lv_at hl 2 rfl) ?_
        refine fx_vi X h ym_X12_dearestOf yi_X12_dearestOf ys_X12_dearestOf (fx_s9 (List.mem_of_getElem? (i := 10) rfl) rfl) sh_159 rfl (c_X12_dearestOf l G hT) (As := [.int x3, .int x2]) (rest := []) rfl rfl ⟨Nat.le_of_ble_eq_true rfl, Nat.le_of_ble_eq_true rfl⟩ ⟨Nat.le_refl _, Nat.le_refl _⟩ hl.1 (Nat.le_of_ble_eq_true rfl) dX12_goesRound_27 (fun r5 M4 H locs hT h => ?_)
        refine lv_istore_n (lv' := [(3, .int r5), (0, .ref (G.2.2.2 + 159)), (1, .int x1), (2, .int x2), (4, .int x4)]) hx hb dX12_goesRound_30 rfl hl (by decide) rfl (fun ls hl => ?_)
        obtain ⟨y6, ey6⟩ : ∃ z : Int32, z = x4 + (1 : Int32) := ⟨_, rfl⟩
        have hT := hT y6 ey6
        refine lv_iinc (v := y6) (lv' := [(4, .int y6), (3, .int r5), (0, .ref (G.2.2.2 + 159)), (1, .int x1), (2, .int x2)]) hx hb dX12_goesRound_31 hl (k := 4) rfl (by rw [ey6]; rfl) (by decide) rfl (fun ls hl => ?_)
        refine lv_goto (tgt := 10) hx hb dX12_goesRound_34 (by decide) ?_
        exact ih x1 x2 r5 y6 M4 _ _ ls hT h (lv_sub hl [2, 3, 4, 1, 0] rfl)
      · have hT := hT.1 hc2
        refine lv_iconst (v := 1) hx hb dX12_goesRound_22 (by decide) ?_
        exact fx_zret X hr hk h (Or.inr rfl) hT dX12_goesRound_23
def T_X12_goesRound (x1 : Int32) (x2 : Int32) (M : Mm) (K : Int32 → Mm → Prop) : Prop := (T_X12_dearestOf x1 x2 M (fun r9 M8 => (T_X12_goesRound_10 5000 x1 x2 r9 (0 : Int32) M8 K)))
set_option maxHeartbeats 4000000 in
set_option maxRecDepth 100000 in
theorem c_X12_goesRound (l : Launch) (G : fx_G) {x1 : Int32} {x2 : Int32} {M : Mm} {K : Int32 → Mm → Prop} (hT : T_X12_goesRound x1 x2 M K) : Met l yX12_goesRound (fx_ws yX12_goesRound cX12_goesRound 5 (some .boolean)) (fx_rm (2)) (va_Pc [.ref (G.2.2.2 + 159), .int x1, .int x2] (fx_P G SH M)) (va_Qi K (fx_R G SH) (fx_A G)) 0 0 (fx_A G) := by
  refine fx_met (own := RX12) (by decide +kernel) rfl (Nat.le_of_ble_eq_true rfl) (fun p e s m below meth c X hr hk h ls hl => ?_)
  obtain ⟨⟨hx, hb, hml, hown, hts⟩, hK, hQ⟩ := id X
  have hl : lv_has ls 5 [(0, .ref (G.2.2.2 + 159)), (1, .int x1), (2, .int x2)] := hl
  unfold T_X12_goesRound at hT
  refine lv_aload_n hx hb dX12_goesRound_0 rfl (lv_at hl 0 rfl) ?_
  refine lv_iload_n hx hb dX12_goesRound_1 rfl (lv_at hl 1 rfl) ?_
  refine lv_iload_n hx hb dX12_goesRound_2 rfl (lv_at hl 2 rfl) ?_
  refine fx_vi X h ym_X12_dearestOf yi_X12_dearestOf ys_X12_dearestOf (fx_s9 (List.mem_of_getElem? (i := 10) rfl) rfl) sh_159 rfl (c_X12_dearestOf l G hT) (As := [.int x1, .int x2]) (rest := []) rfl rfl ⟨Nat.le_of_ble_eq_true rfl, Nat.le_of_ble_eq_true rfl⟩ ⟨Nat.le_refl _, Nat.le_refl _⟩ hl.1 (Nat.le_of_ble_eq_true rfl) dX12_goesRound_3 (fun r9 M8 H locs hT h => ?_)
  refine lv_istore_n (lv' := [(3, .int r9), (0, .ref (G.2.2.2 + 159)), (1, .int x1), (2, .int x2)]) hx hb dX12_goesRound_6 rfl hl (by decide) rfl (fun ls hl => ?_)
  refine lv_iconst (v := 0) hx hb dX12_goesRound_7 (by decide) ?_
  refine lv_istore (lv' := [(4, .int (0 : Int32)), (3, .int r9), (0, .ref (G.2.2.2 + 159)), (1, .int x1), (2, .int x2)]) hx hb dX12_goesRound_8 hl (by decide) rfl (fun ls hl => ?_)
  exact w_X12_goesRound_10 X hr hk 5000 x1 x2 r9 (0 : Int32) M8 _ _ ls hT h (lv_sub hl [2, 3, 4, 1, 0] rfl)
/-! MockParcelsModel.findsSwaps()I -/
theorem dX12_findsSwaps_0 : decode cX12_findsSwaps 0 = .ok (.sipush 255, 3) := by decide +kernel
theorem dX12_findsSwaps_3 : decode cX12_findsSwaps 3 = .ok (.istore_n 1, 1) := by decide +kernel
theorem dX12_findsSwaps_4 : decode cX12_findsSwaps 4 = .ok (.iconst 0, 1) := by decide +kernel
theorem dX12_findsSwaps_5 : decode cX12_findsSwaps 5 = .ok (.istore_n 2, 1) := by decide +kernel
theorem dX12_findsSwaps_6 : decode cX12_findsSwaps 6 = .ok (.iload_n 1, 1) := by decide +kernel
theorem dX12_findsSwaps_7 : decode cX12_findsSwaps 7 = .ok (.ifCond .eq 78, 3) := by decide +kernel
theorem dX12_findsSwaps_10 : decode cX12_findsSwaps 10 = .ok (.iconst 0, 1) := by decide +kernel
theorem dX12_findsSwaps_11 : decode cX12_findsSwaps 11 = .ok (.istore_n 3, 1) := by decide +kernel
theorem dX12_findsSwaps_12 : decode cX12_findsSwaps 12 = .ok (.iconst 0, 1) := by decide +kernel
theorem dX12_findsSwaps_13 : decode cX12_findsSwaps 13 = .ok (.istore 4, 2) := by decide +kernel
theorem dX12_findsSwaps_15 : decode cX12_findsSwaps 15 = .ok (.iload 4, 2) := by decide +kernel
theorem dX12_findsSwaps_17 : decode cX12_findsSwaps 17 = .ok (.bipush 8, 2) := by decide +kernel
theorem dX12_findsSwaps_19 : decode cX12_findsSwaps 19 = .ok (.if_icmp .ge 53, 3) := by decide +kernel
theorem dX12_findsSwaps_22 : decode cX12_findsSwaps 22 = .ok (.aload_n 0, 1) := by decide +kernel
theorem dX12_findsSwaps_23 : decode cX12_findsSwaps 23 = .ok (.iload_n 1, 1) := by decide +kernel
theorem dX12_findsSwaps_24 : decode cX12_findsSwaps 24 = .ok (.iload 4, 2) := by decide +kernel
theorem dX12_findsSwaps_26 : decode cX12_findsSwaps 26 = .ok (.invokevirtual 442, 3) := by decide +kernel
theorem dX12_findsSwaps_29 : decode cX12_findsSwaps 29 = .ok (.ifCond .eq 37, 3) := by decide +kernel
theorem dX12_findsSwaps_32 : decode cX12_findsSwaps 32 = .ok (.aload_n 0, 1) := by decide +kernel
theorem dX12_findsSwaps_33 : decode cX12_findsSwaps 33 = .ok (.iload 4, 2) := by decide +kernel
theorem dX12_findsSwaps_35 : decode cX12_findsSwaps 35 = .ok (.iload_n 1, 1) := by decide +kernel
theorem dX12_findsSwaps_36 : decode cX12_findsSwaps 36 = .ok (.invokevirtual 459, 3) := by decide +kernel
theorem dX12_findsSwaps_39 : decode cX12_findsSwaps 39 = .ok (.ifCond .ne 6, 3) := by decide +kernel
theorem dX12_findsSwaps_42 : decode cX12_findsSwaps 42 = .ok (.goto 24, 3) := by decide +kernel
theorem dX12_findsSwaps_45 : decode cX12_findsSwaps 45 = .ok (.aload_n 0, 1) := by decide +kernel
theorem dX12_findsSwaps_46 : decode cX12_findsSwaps 46 = .ok (.getfield 107, 3) := by decide +kernel
theorem dX12_findsSwaps_49 : decode cX12_findsSwaps 49 = .ok (.iload 4, 2) := by decide +kernel
theorem dX12_findsSwaps_51 : decode cX12_findsSwaps 51 = .ok (.aload_n 0, 1) := by decide +kernel
theorem dX12_findsSwaps_52 : decode cX12_findsSwaps 52 = .ok (.iload 4, 2) := by decide +kernel
theorem dX12_findsSwaps_54 : decode cX12_findsSwaps 54 = .ok (.iload_n 1, 1) := by decide +kernel
theorem dX12_findsSwaps_55 : decode cX12_findsSwaps 55 = .ok (.invokevirtual 456, 3) := by decide +kernel
theorem dX12_findsSwaps_58 : decode cX12_findsSwaps 58 = .ok (.iastore, 1) := by decide +kernel
theorem dX12_findsSwaps_59 : decode cX12_findsSwaps 59 = .ok (.iload_n 3, 1) := by decide +kernel
theorem dX12_findsSwaps_60 : decode cX12_findsSwaps 60 = .ok (.iconst 1, 1) := by decide +kernel
theorem dX12_findsSwaps_61 : decode cX12_findsSwaps 61 = .ok (.iload 4, 2) := by decide +kernel
theorem dX12_findsSwaps_63 : decode cX12_findsSwaps 63 = .ok (.ishl, 1) := by decide +kernel
theorem dX12_findsSwaps_64 : decode cX12_findsSwaps 64 = .ok (.ior, 1) := by decide +kernel
theorem dX12_findsSwaps_65 : decode cX12_findsSwaps 65 = .ok (.istore_n 3, 1) := by decide +kernel
theorem dX12_findsSwaps_66 : decode cX12_findsSwaps 66 = .ok (.iinc 4 1, 3) := by decide +kernel
theorem dX12_findsSwaps_69 : decode cX12_findsSwaps 69 = .ok (.goto (-54), 3) := by decide +kernel
theorem dX12_findsSwaps_72 : decode cX12_findsSwaps 72 = .ok (.iload_n 1, 1) := by decide +kernel
theorem dX12_findsSwaps_73 : decode cX12_findsSwaps 73 = .ok (.iload_n 3, 1) := by decide +kernel
theorem dX12_findsSwaps_74 : decode cX12_findsSwaps 74 = .ok (.iconst (-1), 1) := by decide +kernel
theorem dX12_findsSwaps_75 : decode cX12_findsSwaps 75 = .ok (.ixor, 1) := by decide +kernel
theorem dX12_findsSwaps_76 : decode cX12_findsSwaps 76 = .ok (.iand, 1) := by decide +kernel
theorem dX12_findsSwaps_77 : decode cX12_findsSwaps 77 = .ok (.istore_n 1, 1) := by decide +kernel
theorem dX12_findsSwaps_78 : decode cX12_findsSwaps 78 = .ok (.iload_n 2, 1) := by decide +kernel
theorem dX12_findsSwaps_79 : decode cX12_findsSwaps 79 = .ok (.iconst 1, 1) := by decide +kernel
theorem dX12_findsSwaps_80 : decode cX12_findsSwaps 80 = .ok (.iadd, 1) := by decide +kernel
theorem dX12_findsSwaps_81 : decode cX12_findsSwaps 81 = .ok (.istore_n 2, 1) := by decide +kernel
theorem dX12_findsSwaps_82 : decode cX12_findsSwaps 82 = .ok (.goto (-76), 3) := by decide +kernel
theorem dX12_findsSwaps_85 : decode cX12_findsSwaps 85 = .ok (.iload_n 2, 1) := by decide +kernel
theorem dX12_findsSwaps_86 : decode cX12_findsSwaps 86 = .ok (.ireturn, 1) := by decide +kernel
def T_X12_findsSwaps_66 (B6 : Int32 → Int32 → Mm → Prop) (B15 : Int32 → Int32 → Int32 → Int32 → Mm → Prop) (x1 : Int32) (x2 : Int32) (x3 : Int32) (x4 : Int32) (M : Mm) (K : Int32 → Mm → Prop) : Prop := (∀ y1 : Int32, y1 = x4 + (1 : Int32) → (B15 x1 x2 x3 y1 M))
set_option maxHeartbeats 4000000 in
set_option maxRecDepth 100000 in
theorem w_X12_findsSwaps_66 {p : Program} {l : Launch} {e : Env} {s : State} {m : MethodId} {args : Array Value} {below : List Frame} {meth : Method} {c : Code} {G : fx_G} {K : Int32 → Mm → Prop} {B6 : Int32 → Int32 → Mm → Prop} {B15 : Int32 → Int32 → Int32 → Int32 → Mm → Prop} (X : fx_C G p s m c args cX12_findsSwaps 5 RX12) (hr : meth.sig.returnType = (some .int)) (hk : meth.locks = false) (hB6 : ∀ (x1 : Int32) (x2 : Int32) (M : Mm) (H : Heap) (locs : List Loc) (ls : Array Slot), B6 x1 x2 M → fx_H G SH M s H locs → lv_has ls 5 [(0, .ref (G.2.2.2 + 159)), (1, .int x1), (2, .int x2)] → W p l e (fx_rm (3)) s m args below meth c H locs 0 0 (MQ below (va_Qi K (fx_R G SH) (fx_A G)) args s 0 0 (fx_A G)) (F0 m 6 ls [])) (hB15 : ∀ (x1 : Int32) (x2 : Int32) (x3 : Int32) (x4 : Int32) (M : Mm) (H : Heap) (locs : List Loc) (ls : Array Slot), B15 x1 x2 x3 x4 M → fx_H G SH M s H locs → lv_has ls 5 [(0, .ref (G.2.2.2 + 159)), (1, .int x1), (2, .int x2), (3, .int x3), (4, .int x4)] → W p l e (fx_rm (3)) s m args below meth c H locs 0 0 (MQ below (va_Qi K (fx_R G SH) (fx_A G)) args s 0 0 (fx_A G)) (F0 m 15 ls [])) : ∀ (x1 : Int32) (x2 : Int32) (x3 : Int32) (x4 : Int32) (M : Mm) (H : Heap) (locs : List Loc) (ls : Array Slot), T_X12_findsSwaps_66 B6 B15 x1 x2 x3 x4 M K → fx_H G SH M s H locs → lv_has ls 5 [(0, .ref (G.2.2.2 + 159)), (1, .int x1), (2, .int x2), (3, .int x3), (4, .int x4)] → W p l e (fx_rm (3)) s m args below meth c H locs 0 0 (MQ below (va_Qi K (fx_R G SH) (fx_A G)) args s 0 0 (fx_A G)) (F0 m 66 ls []) := by
  obtain ⟨⟨hx, hb, hml, hown, hts⟩, hK, hQ⟩ := id X
  intro x1 x2 x3 x4 M H locs ls hT h hl
  unfold T_X12_findsSwaps_66 at hT
  obtain ⟨y1, ey1⟩ : ∃ z : Int32, z = x4 + (1 : Int32) := ⟨_, rfl⟩
  have hT := hT y1 ey1
  refine lv_iinc (v := y1) (lv' := [(4, .int y1), (0, .ref (G.2.2.2 + 159)), (1, .int x1), (2, .int x2), (3, .int x3)]) hx hb dX12_findsSwaps_66 hl (k := 4) rfl (by rw [ey1]; rfl) (by decide) rfl (fun ls hl => ?_)
  refine lv_goto (tgt := 15) hx hb dX12_findsSwaps_69 (by decide) ?_
  exact hB15 x1 x2 x3 y1 M _ _ ls hT h (lv_sub hl [1, 2, 3, 4, 0] rfl)
def T_X12_findsSwaps_15 (B6 : Int32 → Int32 → Mm → Prop) : Nat → Int32 → Int32 → Int32 → Int32 → Mm → (Int32 → Mm → Prop) → Prop
  | 0, _, _, _, _, _, _ => False
  | n + 1, x1, x2, x3, x4, M, K => (((8 : Int32) ≤ x4 → (∀ y3 : Int32, y3 = (x1 &&& (x3 ^^^ (-1 : Int32))) → (∀ y4 : Int32, y4 = (x2 + (1 : Int32)) → (B6 y3 y4 M)))) ∧ (¬ (8 : Int32) ≤ x4 → (T_X12_has x1 x4 M (fun r7 M6 => ((r7 = 0 → (T_X12_findsSwaps_66 B6 (fun x1 x2 x3 x4 M => T_X12_findsSwaps_15 B6 n x1 x2 x3 x4 M K) x1 x2 x3 x4 M6 K)) ∧ (¬ r7 = 0 → (T_X12_goesRound x4 x1 M6 (fun r11 M10 => ((r11 = 0 → (T_X12_findsSwaps_66 B6 (fun x1 x2 x3 x4 M => T_X12_findsSwaps_15 B6 n x1 x2 x3 x4 M K) x1 x2 x3 x4 M10 K)) ∧ (¬ r11 = 0 → (T_X12_dearestOf x4 x1 M10 (fun r15 M14 => (vp_in x4 8 ∧ (∀ M16 : Mm, M16 = m_up M14 191 (x4).toNatClampNeg r15 → (∀ y18 : Int32, y18 = (x3 ||| ((1 : Int32) <<< (x4 &&& 31))) → (T_X12_findsSwaps_66 B6 (fun x1 x2 x3 x4 M => T_X12_findsSwaps_15 B6 n x1 x2 x3 x4 M K) x1 x2 y18 x4 M16 K))))))))))))))))
set_option maxHeartbeats 4000000 in
set_option maxRecDepth 100000 in
theorem w_X12_findsSwaps_15 {p : Program} {l : Launch} {e : Env} {s : State} {m : MethodId} {args : Array Value} {below : List Frame} {meth : Method} {c : Code} {G : fx_G} {K : Int32 → Mm → Prop} {B6 : Int32 → Int32 → Mm → Prop} (X : fx_C G p s m c args cX12_findsSwaps 5 RX12) (hr : meth.sig.returnType = (some .int)) (hk : meth.locks = false) (hB6 : ∀ (x1 : Int32) (x2 : Int32) (M : Mm) (H : Heap) (locs : List Loc) (ls : Array Slot), B6 x1 x2 M → fx_H G SH M s H locs → lv_has ls 5 [(0, .ref (G.2.2.2 + 159)), (1, .int x1), (2, .int x2)] → W p l e (fx_rm (3)) s m args below meth c H locs 0 0 (MQ below (va_Qi K (fx_R G SH) (fx_A G)) args s 0 0 (fx_A G)) (F0 m 6 ls [])) : ∀ (n : Nat) (x1 : Int32) (x2 : Int32) (x3 : Int32) (x4 : Int32) (M : Mm) (H : Heap) (locs : List Loc) (ls : Array Slot), T_X12_findsSwaps_15 B6 n x1 x2 x3 x4 M K → fx_H G SH M s H locs → lv_has ls 5 [(0, .ref (G.2.2.2 + 159)), (1, .int x1), (2, .int x2), (3, .int x3), (4, .int x4)] → W p l e (fx_rm (3)) s m args below meth c H locs 0 0 (MQ below (va_Qi K (fx_R G SH) (fx_A G)) args s 0 0 (fx_A G)) (F0 m 15 ls []) := by
  obtain ⟨⟨hx, hb, hml, hown, hts⟩, hK, hQ⟩ := id X
  intro n
  induction n with
  | zero =>
    intro x1 x2 x3 x4 M H locs ls hT
    exact hT.elim
  | succ n ih =>
    intro x1 x2 x3 x4 M H locs ls hT h hl
    rw [T_X12_findsSwaps_15] at hT
    refine lv_iload hx hb dX12_findsSwaps_15 (lv_at hl 4 rfl) ?_
    refine lv_bipush (v := 8) hx hb dX12_findsSwaps_17 (by decide) ?_
    refine lv_icmp_ge (tgt := 72) hx hb dX12_findsSwaps_19 (by decide) (fun hc2 => ?_) (fun hc2 => ?_)
    · have hT := hT.1 hc2
      refine lv_iload_n hx hb dX12_findsSwaps_72 rfl (lv_at hl 1 rfl) ?_
      refine lv_iload_n hx hb dX12_findsSwaps_73 rfl (lv_at hl 3 rfl) ?_
      refine lv_iconst (v := -1) hx hb dX12_findsSwaps_74 (by decide) ?_
      refine lv_ixor hx hb dX12_findsSwaps_75 ?_
      refine lv_iand hx hb dX12_findsSwaps_76 ?_
      refine lv_topi (fun y3 ey3 => ?_)
      have hT := hT y3 ey3
      refine lv_istore_n (lv' := [(1, .int y3), (0, .ref (G.2.2.2 + 159)), (2, .int x2), (3, .int x3), (4, .int x4)]) hx hb dX12_findsSwaps_77 rfl hl (by decide) rfl (fun ls hl => ?_)
      refine lv_iload_n hx hb dX12_findsSwaps_78 rfl (lv_at hl 2 rfl) ?_
      refine lv_iconst (v := 1) hx hb dX12_findsSwaps_79 (by decide) ?_
      refine lv_iadd hx hb dX12_findsSwaps_80 ?_
      refine lv_topi (fun y4 ey4 => ?_)
      have hT := hT y4 ey4
      refine lv_istore_n (lv' := [(2, .int y4), (1, .int y3), (0, .ref (G.2.2.2 + 159)), (3, .int x3), (4, .int x4)]) hx hb dX12_findsSwaps_81 rfl hl (by decide) rfl (fun ls hl => ?_)
      refine lv_goto (tgt := 6) hx hb dX12_findsSwaps_82 (by decide) ?_
      exact hB6 y3 y4 M _ _ ls hT h (lv_sub hl [2, 1, 0] rfl)
    · have hT := hT.2 hc2
      refine lv_aload_n hx hb dX12_findsSwaps_22 rfl (lv_at hl 0 rfl) ?_
      refine lv_iload_n hx hb dX12_findsSwaps_23 rfl (lv_at hl 1 rfl) ?_
      refine lv_iload hx hb dX12_findsSwaps_24 (lv_at hl 4 rfl) ?_
      refine fx_vi X h ym_X12_has yi_X12_has ys_X12_has (fx_s8 (List.mem_of_getElem? (i := 221) rfl) rfl) sh_159 rfl (c_X12_has l G hT) (As := [.int x1, .int x4]) (rest := []) rfl rfl ⟨Nat.le_of_ble_eq_true rfl, Nat.le_of_ble_eq_true rfl⟩ ⟨Nat.le_refl _, Nat.le_refl _⟩ hl.1 (Nat.le_of_ble_eq_true rfl) dX12_findsSwaps_26 (fun r7 M6 H locs hT h => ?_)
      refine lv_if_eq (tgt := 66) hx hb dX12_findsSwaps_29 (by decide) (fun hc8 => ?_) (fun hc8 => ?_)
      · have hT := hT.1 hc8
        exact w_X12_findsSwaps_66 X hr hk (B6 := B6) hB6 (B15 := (fun x1 x2 x3 x4 M => T_X12_findsSwaps_15 B6 n x1 x2 x3 x4 M K)) ih x1 x2 x3 x4 M6 _ _ ls hT h (lv_sub hl [0, 1, 2, 3, 4] rfl)
      · have hT := hT.2 hc8
        refine lv_aload_n hx hb dX12_findsSwaps_32 rfl (lv_at hl 0 rfl) ?_
        refine lv_iload hx hb dX12_findsSwaps_33 (lv_at hl 4 rfl) ?_
        refine lv_iload_n hx hb dX12_findsSwaps_35 rfl (lv_at hl 1 rfl) ?_
        refine fx_vi X h ym_X12_goesRound yi_X12_goesRound ys_X12_goesRound (fx_s9 (List.mem_of_getElem? (i := 6) rfl) rfl) sh_159 rfl (c_X12_goesRound l G hT) (As := [.int x4, .int x1]) (rest := []) rfl rfl ⟨Nat.le_of_ble_eq_true rfl, Nat.le_of_ble_eq_true rfl⟩ ⟨Nat.le_refl _, Nat.le_refl _⟩ hl.1 (Nat.le_of_ble_eq_true rfl) dX12_findsSwaps_36 (fun r11 M10 H locs hT h => ?_)
        refine lv_if_ne (tgt := 45) hx hb dX12_findsSwaps_39 (by decide) (fun hc12 => ?_) (fun hc12 => ?_)
        · have hT := hT.2 hc12
          refine lv_aload_n hx hb dX12_findsSwaps_45 rfl (lv_at hl 0 rfl) ?_
          refine fx_getR X h (k := 159) (j := 57) (r := 191) sh_159 rfl fl_RX12_107 dX12_findsSwaps_46 ?_
          refine lv_iload hx hb dX12_findsSwaps_49 (lv_at hl 4 rfl) ?_
          refine lv_aload_n hx hb dX12_findsSwaps_51 rfl (lv_at hl 0 rfl) ?_
          refine lv_iload hx hb dX12_findsSwaps_52 (lv_at hl 4 rfl) ?_
          refine lv_iload_n hx hb dX12_findsSwaps_54 rfl (lv_at hl 1 rfl) ?_
          refine fx_vi X h ym_X12_dearestOf yi_X12_dearestOf ys_X12_dearestOf (fx_s9 (List.mem_of_getElem? (i := 10) rfl) rfl) sh_159 rfl (c_X12_dearestOf l G hT) (As := [.int x4, .int x1]) (rest := [.int x4, .ref (G.2.2.2 + 191)]) rfl rfl ⟨Nat.le_of_ble_eq_true rfl, Nat.le_of_ble_eq_true rfl⟩ ⟨Nat.le_refl _, Nat.le_refl _⟩ hl.1 (Nat.le_of_ble_eq_true rfl) dX12_findsSwaps_55 (fun r15 M14 H locs hT h => ?_)
          obtain ⟨hi17, hT⟩ := hT
          refine fx_iast X h (k := 191) sh_191 hi17 dX12_findsSwaps_58 (fun H locs h => ?_)
          obtain ⟨M16, eM16⟩ : ∃ z : Mm, z = m_up M14 191 (x4).toNatClampNeg r15 := ⟨_, rfl⟩
          have hT := hT M16 eM16
          rw [← eM16] at h
          refine lv_iload_n hx hb dX12_findsSwaps_59 rfl (lv_at hl 3 rfl) ?_
          refine lv_iconst (v := 1) hx hb dX12_findsSwaps_60 (by decide) ?_
          refine lv_iload hx hb dX12_findsSwaps_61 (lv_at hl 4 rfl) ?_
          refine lv_ishl hx hb dX12_findsSwaps_63 ?_
          refine lv_ior hx hb dX12_findsSwaps_64 ?_
          refine lv_topi (fun y18 ey18 => ?_)
          have hT := hT y18 ey18
          refine lv_istore_n (lv' := [(3, .int y18), (0, .ref (G.2.2.2 + 159)), (1, .int x1), (2, .int x2), (4, .int x4)]) hx hb dX12_findsSwaps_65 rfl hl (by decide) rfl (fun ls hl => ?_)
          exact w_X12_findsSwaps_66 X hr hk (B6 := B6) hB6 (B15 := (fun x1 x2 x3 x4 M => T_X12_findsSwaps_15 B6 n x1 x2 x3 x4 M K)) ih x1 x2 y18 x4 M16 _ _ ls hT h (lv_sub hl [1, 2, 3, 0, 4] rfl)
        · have hT := hT.1 hc12
          refine lv_goto (tgt := 66) hx hb dX12_findsSwaps_42 (by decide) ?_
          exact w_X12_findsSwaps_66 X hr hk (B6 := B6) hB6 (B15 := (fun x1 x2 x3 x4 M => T_X12_findsSwaps_15 B6 n x1 x2 x3 x4 M K)) ih x1 x2 x3 x4 M10 _ _ ls hT h (lv_sub hl [0, 1, 2, 3, 4] rfl)
def T_X12_findsSwaps_6 : Nat → Int32 → Int32 → Mm → (Int32 → Mm → Prop) → Prop
  | 0, _, _, _, _ => False
  | n + 1, x1, x2, M, K => ((x1 = 0 → (K x2 M)) ∧ (¬ x1 = 0 → (T_X12_findsSwaps_15 (fun x1 x2 M => T_X12_findsSwaps_6 n x1 x2 M K) 5000 x1 x2 (0 : Int32) (0 : Int32) M K)))
set_option maxHeartbeats 4000000 in
set_option maxRecDepth 100000 in
theorem w_X12_findsSwaps_6 {p : Program} {l : Launch} {e : Env} {s : State} {m : MethodId} {args : Array Value} {below : List Frame} {meth : Method} {c : Code} {G : fx_G} {K : Int32 → Mm → Prop} (X : fx_C G p s m c args cX12_findsSwaps 5 RX12) (hr : meth.sig.returnType = (some .int)) (hk : meth.locks = false) : ∀ (n : Nat) (x1 : Int32) (x2 : Int32) (M : Mm) (H : Heap) (locs : List Loc) (ls : Array Slot), T_X12_findsSwaps_6 n x1 x2 M K → fx_H G SH M s H locs → lv_has ls 5 [(0, .ref (G.2.2.2 + 159)), (1, .int x1), (2, .int x2)] → W p l e (fx_rm (3)) s m args below meth c H locs 0 0 (MQ below (va_Qi K (fx_R G SH) (fx_A G)) args s 0 0 (fx_A G)) (F0 m 6 ls []) := by
  obtain ⟨⟨hx, hb, hml, hown, hts⟩, hK, hQ⟩ := id X
  intro n
  induction n with
  | zero =>
    intro x1 x2 M H locs ls hT
    exact hT.elim
  | succ n ih =>
    intro x1 x2 M H locs ls hT h hl
    rw [T_X12_findsSwaps_6] at hT
    refine lv_iload_n hx hb dX12_findsSwaps_6 rfl (lv_at hl 1 rfl) ?_
    refine lv_if_eq (tgt := 85) hx hb dX12_findsSwaps_7 (by decide) (fun hc19 => ?_) (fun hc19 => ?_)
    · have hT := hT.1 hc19
      refine lv_iload_n hx hb dX12_findsSwaps_85 rfl (lv_at hl 2 rfl) ?_
      exact fx_iret X hr hk h hT dX12_findsSwaps_86
    · have hT := hT.2 hc19
      refine lv_iconst (v := 0) hx hb dX12_findsSwaps_10 (by decide) ?_
      refine lv_istore_n (lv' := [(3, .int (0 : Int32)), (0, .ref (G.2.2.2 + 159)), (1, .int x1), (2, .int x2)]) hx hb dX12_findsSwaps_11 rfl hl (by decide) rfl (fun ls hl => ?_)
      refine lv_iconst (v := 0) hx hb dX12_findsSwaps_12 (by decide) ?_
      refine lv_istore (lv' := [(4, .int (0 : Int32)), (3, .int (0 : Int32)), (0, .ref (G.2.2.2 + 159)), (1, .int x1), (2, .int x2)]) hx hb dX12_findsSwaps_13 hl (by decide) rfl (fun ls hl => ?_)
      exact w_X12_findsSwaps_15 X hr hk (B6 := (fun x1 x2 M => T_X12_findsSwaps_6 n x1 x2 M K)) ih 5000 x1 x2 (0 : Int32) (0 : Int32) M _ _ ls hT h (lv_sub hl [2, 3, 4, 1, 0] rfl)
def T_X12_findsSwaps (M : Mm) (K : Int32 → Mm → Prop) : Prop := (T_X12_findsSwaps_6 5000 (255 : Int32) (0 : Int32) M K)
set_option maxHeartbeats 4000000 in
set_option maxRecDepth 100000 in
theorem c_X12_findsSwaps (l : Launch) (G : fx_G) {M : Mm} {K : Int32 → Mm → Prop} (hT : T_X12_findsSwaps M K) : Met l yX12_findsSwaps (fx_ws yX12_findsSwaps cX12_findsSwaps 5 (some .int)) (fx_rm (3)) (va_Pc [.ref (G.2.2.2 + 159)] (fx_P G SH M)) (va_Qi K (fx_R G SH) (fx_A G)) 0 0 (fx_A G) := by
  refine fx_met (own := RX12) (by decide +kernel) rfl (Nat.le_of_ble_eq_true rfl) (fun p e s m below meth c X hr hk h ls hl => ?_)
  obtain ⟨⟨hx, hb, hml, hown, hts⟩, hK, hQ⟩ := id X
  have hl : lv_has ls 5 [(0, .ref (G.2.2.2 + 159))] := hl
  unfold T_X12_findsSwaps at hT
  refine lv_sipush (v := 255) hx hb dX12_findsSwaps_0 (by decide) ?_
  refine lv_istore_n (lv' := [(1, .int (255 : Int32)), (0, .ref (G.2.2.2 + 159))]) hx hb dX12_findsSwaps_3 rfl hl (by decide) rfl (fun ls hl => ?_)
  refine lv_iconst (v := 0) hx hb dX12_findsSwaps_4 (by decide) ?_
  refine lv_istore_n (lv' := [(2, .int (0 : Int32)), (1, .int (255 : Int32)), (0, .ref (G.2.2.2 + 159))]) hx hb dX12_findsSwaps_5 rfl hl (by decide) rfl (fun ls hl => ?_)
  exact w_X12_findsSwaps_6 X hr hk 5000 (255 : Int32) (0 : Int32) M _ _ ls hT h (lv_sub hl [2, 1, 0] rfl)
/-! MockParcelsModel.swaps(I)I -/
theorem dX12_swaps_0 : decode cX12_swaps 0 = .ok (.aload_n 0, 1) := by decide +kernel
theorem dX12_swaps_1 : decode cX12_swaps 1 = .ok (.iconst 0, 1) := by decide +kernel
theorem dX12_swaps_2 : decode cX12_swaps 2 = .ok (.putfield 134, 3) := by decide +kernel
theorem dX12_swaps_5 : decode cX12_swaps 5 = .ok (.aload_n 0, 1) := by decide +kernel
theorem dX12_swaps_6 : decode cX12_swaps 6 = .ok (.iload_n 1, 1) := by decide +kernel
theorem dX12_swaps_7 : decode cX12_swaps 7 = .ok (.iconst (-1), 1) := by decide +kernel
theorem dX12_swaps_8 : decode cX12_swaps 8 = .ok (.bipush 7, 2) := by decide +kernel
theorem dX12_swaps_10 : decode cX12_swaps 10 = .ok (.invokevirtual 157, 3) := by decide +kernel
theorem dX12_swaps_13 : decode cX12_swaps 13 = .ok (.ifCond .ne 5, 3) := by decide +kernel
theorem dX12_swaps_16 : decode cX12_swaps 16 = .ok (.iconst (-1), 1) := by decide +kernel
theorem dX12_swaps_17 : decode cX12_swaps 17 = .ok (.ireturn, 1) := by decide +kernel
theorem dX12_swaps_18 : decode cX12_swaps 18 = .ok (.aload_n 0, 1) := by decide +kernel
theorem dX12_swaps_19 : decode cX12_swaps 19 = .ok (.invokevirtual 462, 3) := by decide +kernel
theorem dX12_swaps_22 : decode cX12_swaps 22 = .ok (.istore_n 2, 1) := by decide +kernel
theorem dX12_swaps_23 : decode cX12_swaps 23 = .ok (.iload_n 1, 1) := by decide +kernel
theorem dX12_swaps_24 : decode cX12_swaps 24 = .ok (.iconst (-1), 1) := by decide +kernel
theorem dX12_swaps_25 : decode cX12_swaps 25 = .ok (.if_icmp .ne 7, 3) := by decide +kernel
theorem dX12_swaps_28 : decode cX12_swaps 28 = .ok (.iload_n 2, 1) := by decide +kernel
theorem dX12_swaps_29 : decode cX12_swaps 29 = .ok (.goto 9, 3) := by decide +kernel
theorem dX12_swaps_32 : decode cX12_swaps 32 = .ok (.aload_n 0, 1) := by decide +kernel
theorem dX12_swaps_33 : decode cX12_swaps 33 = .ok (.getfield 107, 3) := by decide +kernel
theorem dX12_swaps_36 : decode cX12_swaps 36 = .ok (.iload_n 1, 1) := by decide +kernel
theorem dX12_swaps_37 : decode cX12_swaps 37 = .ok (.iaload, 1) := by decide +kernel
theorem dX12_swaps_38 : decode cX12_swaps 38 = .ok (.ireturn, 1) := by decide +kernel
def T_X12_swaps (x1 : Int32) (M : Mm) (K : Int32 → Mm → Prop) : Prop := (∀ M1 : Mm, M1 = m_up M 159 0 (0 : Int32) → (T_X12_isIn x1 (-1 : Int32) (7 : Int32) M1 (fun r4 M3 => ((r4 = 0 → (K (-1 : Int32) M3)) ∧ (¬ r4 = 0 → (T_X12_findsSwaps M3 (fun r8 M7 => ((x1 = (-1 : Int32) → (K r8 M7)) ∧ (¬ x1 = (-1 : Int32) → (vp_in x1 8 ∧ (K (M7 191 (x1).toNatClampNeg) M7)))))))))))
set_option maxHeartbeats 4000000 in
set_option maxRecDepth 100000 in
theorem c_X12_swaps (l : Launch) (G : fx_G) {x1 : Int32} {M : Mm} {K : Int32 → Mm → Prop} (hT : T_X12_swaps x1 M K) : Met l yX12_swaps (fx_ws yX12_swaps cX12_swaps 3 (some .int)) (fx_rm (4)) (va_Pc [.ref (G.2.2.2 + 159), .int x1] (fx_P G SH M)) (va_Qi K (fx_R G SH) (fx_A G)) 0 0 (fx_A G) := by
  refine fx_met (own := RX12) (by decide +kernel) rfl (Nat.le_of_ble_eq_true rfl) (fun p e s m below meth c X hr hk h ls hl => ?_)
  obtain ⟨⟨hx, hb, hml, hown, hts⟩, hK, hQ⟩ := id X
  have hl : lv_has ls 3 [(0, .ref (G.2.2.2 + 159)), (1, .int x1)] := hl
  unfold T_X12_swaps at hT
  refine lv_aload_n hx hb dX12_swaps_0 rfl (lv_at hl 0 rfl) ?_
  refine lv_iconst (v := 0) hx hb dX12_swaps_1 (by decide) ?_
  refine fx_putI X h (k := 159) (j := 0) sh_159 rfl fl_RX12_134 dX12_swaps_2 (fun H locs h => ?_)
  obtain ⟨M1, eM1⟩ : ∃ z : Mm, z = m_up M 159 0 (0 : Int32) := ⟨_, rfl⟩
  have hT := hT M1 eM1
  rw [← eM1] at h
  refine lv_aload_n hx hb dX12_swaps_5 rfl (lv_at hl 0 rfl) ?_
  refine lv_iload_n hx hb dX12_swaps_6 rfl (lv_at hl 1 rfl) ?_
  refine lv_iconst (v := -1) hx hb dX12_swaps_7 (by decide) ?_
  refine lv_bipush (v := 7) hx hb dX12_swaps_8 (by decide) ?_
  refine fx_vi X h ym_X12_isIn yi_X12_isIn ys_X12_isIn (fx_s7 (List.mem_of_getElem? (i := 77) rfl) rfl) sh_159 rfl (c_X12_isIn l G hT) (As := [.int x1, .int (-1 : Int32), .int (7 : Int32)]) (rest := []) rfl rfl ⟨Nat.le_of_ble_eq_true rfl, Nat.le_of_ble_eq_true rfl⟩ ⟨Nat.le_refl _, Nat.le_refl _⟩ hl.1 (Nat.le_of_ble_eq_true rfl) dX12_swaps_10 (fun r4 M3 H locs hT h => ?_)
  refine lv_if_ne (tgt := 18) hx hb dX12_swaps_13 (by decide) (fun hc5 => ?_) (fun hc5 => ?_)
  · have hT := hT.2 hc5
    refine lv_aload_n hx hb dX12_swaps_18 rfl (lv_at hl 0 rfl) ?_
    refine fx_vi X h ym_X12_findsSwaps yi_X12_findsSwaps ys_X12_findsSwaps (fx_s9 (List.mem_of_getElem? (i := 2) rfl) rfl) sh_159 rfl (c_X12_findsSwaps l G hT) (As := []) (rest := []) rfl rfl ⟨Nat.le_of_ble_eq_true rfl, Nat.le_of_ble_eq_true rfl⟩ ⟨Nat.le_refl _, Nat.le_refl _⟩ hl.1 (Nat.le_of_ble_eq_true rfl) dX12_swaps_19 (fun r8 M7 H locs hT h => ?_)
    refine lv_istore_n (lv' := [(2, .int r8), (0, .ref (G.2.2.2 + 159)), (1, .int x1)]) hx hb dX12_swaps_22 rfl hl (by decide) rfl (fun ls hl => ?_)
    refine lv_iload_n hx hb dX12_swaps_23 rfl (lv_at hl 2 rfl) ?_
    refine lv_iconst (v := -1) hx hb dX12_swaps_24 (by decide) ?_
    refine lv_icmp_ne (tgt := 32) hx hb dX12_swaps_25 (by decide) (fun hc9 => ?_) (fun hc9 => ?_)
    · have hT := hT.2 hc9
      refine lv_aload_n hx hb dX12_swaps_32 rfl (lv_at hl 1 rfl) ?_
      refine fx_getR X h (k := 159) (j := 57) (r := 191) sh_159 rfl fl_RX12_107 dX12_swaps_33 ?_
      refine lv_iload_n hx hb dX12_swaps_36 rfl (lv_at hl 2 rfl) ?_
      obtain ⟨hi10, hT⟩ := hT
      refine fx_iald X h (k := 191) sh_191 hi10 dX12_swaps_37 ?_
      exact fx_iret X hr hk h hT dX12_swaps_38
    · have hT := hT.1 hc9
      refine lv_iload_n hx hb dX12_swaps_28 rfl (lv_at hl 0 rfl) ?_
      refine lv_goto (tgt := 38) hx hb dX12_swaps_29 (by decide) ?_
      exact fx_iret X hr hk h hT dX12_swaps_38
  · have hT := hT.1 hc5
    refine lv_iconst (v := -1) hx hb dX12_swaps_16 (by decide) ?_
    exact fx_iret X hr hk h hT dX12_swaps_17
/-! MockParcelsModel.wishedBy(III)I -/
theorem dX12_wishedBy_0 : decode cX12_wishedBy 0 = .ok (.iload_n 2, 1) := by decide +kernel
theorem dX12_wishedBy_1 : decode cX12_wishedBy 1 = .ok (.ifCond .ne 20, 3) := by decide +kernel
theorem dX12_wishedBy_4 : decode cX12_wishedBy 4 = .ok (.aload_n 0, 1) := by decide +kernel
theorem dX12_wishedBy_5 : decode cX12_wishedBy 5 = .ok (.getfield 110, 3) := by decide +kernel
theorem dX12_wishedBy_8 : decode cX12_wishedBy 8 = .ok (.sipush 128, 3) := by decide +kernel
theorem dX12_wishedBy_11 : decode cX12_wishedBy 11 = .ok (.iload_n 1, 1) := by decide +kernel
theorem dX12_wishedBy_12 : decode cX12_wishedBy 12 = .ok (.iconst 1, 1) := by decide +kernel
theorem dX12_wishedBy_13 : decode cX12_wishedBy 13 = .ok (.iadd, 1) := by decide +kernel
theorem dX12_wishedBy_14 : decode cX12_wishedBy 14 = .ok (.imul, 1) := by decide +kernel
theorem dX12_wishedBy_15 : decode cX12_wishedBy 15 = .ok (.iload_n 3, 1) := by decide +kernel
theorem dX12_wishedBy_16 : decode cX12_wishedBy 16 = .ok (.iadd, 1) := by decide +kernel
theorem dX12_wishedBy_17 : decode cX12_wishedBy 17 = .ok (.iaload, 1) := by decide +kernel
theorem dX12_wishedBy_18 : decode cX12_wishedBy 18 = .ok (.goto 35, 3) := by decide +kernel
theorem dX12_wishedBy_21 : decode cX12_wishedBy 21 = .ok (.aload_n 0, 1) := by decide +kernel
theorem dX12_wishedBy_22 : decode cX12_wishedBy 22 = .ok (.getfield 77, 3) := by decide +kernel
theorem dX12_wishedBy_25 : decode cX12_wishedBy 25 = .ok (.bipush 8, 2) := by decide +kernel
theorem dX12_wishedBy_27 : decode cX12_wishedBy 27 = .ok (.iload_n 1, 1) := by decide +kernel
theorem dX12_wishedBy_28 : decode cX12_wishedBy 28 = .ok (.imul, 1) := by decide +kernel
theorem dX12_wishedBy_29 : decode cX12_wishedBy 29 = .ok (.iload_n 2, 1) := by decide +kernel
theorem dX12_wishedBy_30 : decode cX12_wishedBy 30 = .ok (.iadd, 1) := by decide +kernel
theorem dX12_wishedBy_31 : decode cX12_wishedBy 31 = .ok (.iaload, 1) := by decide +kernel
theorem dX12_wishedBy_32 : decode cX12_wishedBy 32 = .ok (.aload_n 0, 1) := by decide +kernel
theorem dX12_wishedBy_33 : decode cX12_wishedBy 33 = .ok (.getfield 110, 3) := by decide +kernel
theorem dX12_wishedBy_36 : decode cX12_wishedBy 36 = .ok (.sipush 128, 3) := by decide +kernel
theorem dX12_wishedBy_39 : decode cX12_wishedBy 39 = .ok (.iload_n 1, 1) := by decide +kernel
theorem dX12_wishedBy_40 : decode cX12_wishedBy 40 = .ok (.iconst 1, 1) := by decide +kernel
theorem dX12_wishedBy_41 : decode cX12_wishedBy 41 = .ok (.iadd, 1) := by decide +kernel
theorem dX12_wishedBy_42 : decode cX12_wishedBy 42 = .ok (.imul, 1) := by decide +kernel
theorem dX12_wishedBy_43 : decode cX12_wishedBy 43 = .ok (.iload_n 3, 1) := by decide +kernel
theorem dX12_wishedBy_44 : decode cX12_wishedBy 44 = .ok (.iconst 1, 1) := by decide +kernel
theorem dX12_wishedBy_45 : decode cX12_wishedBy 45 = .ok (.iload_n 2, 1) := by decide +kernel
theorem dX12_wishedBy_46 : decode cX12_wishedBy 46 = .ok (.iconst 1, 1) := by decide +kernel
theorem dX12_wishedBy_47 : decode cX12_wishedBy 47 = .ok (.isub, 1) := by decide +kernel
theorem dX12_wishedBy_48 : decode cX12_wishedBy 48 = .ok (.ishl, 1) := by decide +kernel
theorem dX12_wishedBy_49 : decode cX12_wishedBy 49 = .ok (.ior, 1) := by decide +kernel
theorem dX12_wishedBy_50 : decode cX12_wishedBy 50 = .ok (.iadd, 1) := by decide +kernel
theorem dX12_wishedBy_51 : decode cX12_wishedBy 51 = .ok (.iaload, 1) := by decide +kernel
theorem dX12_wishedBy_52 : decode cX12_wishedBy 52 = .ok (.iadd, 1) := by decide +kernel
theorem dX12_wishedBy_53 : decode cX12_wishedBy 53 = .ok (.ireturn, 1) := by decide +kernel
def T_X12_wishedBy (x1 : Int32) (x2 : Int32) (x3 : Int32) (M : Mm) (K : Int32 → Mm → Prop) : Prop := ((x2 = 0 → (vp_in (((128 : Int32) * (x1 + (1 : Int32))) + x3) 1152 ∧ (K (M 192 ((((128 : Int32) * (x1 + (1 : Int32))) + x3)).toNatClampNeg) M))) ∧ (¬ x2 = 0 → (vp_in (((8 : Int32) * x1) + x2) 128 ∧ (vp_in (((128 : Int32) * (x1 + (1 : Int32))) + (x3 ||| ((1 : Int32) <<< ((x2 - (1 : Int32)) &&& 31)))) 1152 ∧ (K ((M 181 ((((8 : Int32) * x1) + x2)).toNatClampNeg) + (M 192 ((((128 : Int32) * (x1 + (1 : Int32))) + (x3 ||| ((1 : Int32) <<< ((x2 - (1 : Int32)) &&& 31))))).toNatClampNeg)) M)))))
set_option maxHeartbeats 4000000 in
set_option maxRecDepth 100000 in
theorem c_X12_wishedBy (l : Launch) (G : fx_G) {x1 : Int32} {x2 : Int32} {x3 : Int32} {M : Mm} {K : Int32 → Mm → Prop} (hT : T_X12_wishedBy x1 x2 x3 M K) : Met l yX12_wishedBy (fx_ws yX12_wishedBy cX12_wishedBy 4 (some .int)) (fx_rm (0)) (va_Pc [.ref (G.2.2.2 + 159), .int x1, .int x2, .int x3] (fx_P G SH M)) (va_Qi K (fx_R G SH) (fx_A G)) 0 0 (fx_A G) := by
  refine fx_met (own := RX12) (by decide +kernel) rfl (Nat.le_of_ble_eq_true rfl) (fun p e s m below meth c X hr hk h ls hl => ?_)
  obtain ⟨⟨hx, hb, hml, hown, hts⟩, hK, hQ⟩ := id X
  have hl : lv_has ls 4 [(0, .ref (G.2.2.2 + 159)), (1, .int x1), (2, .int x2), (3, .int x3)] := hl
  unfold T_X12_wishedBy at hT
  refine lv_iload_n hx hb dX12_wishedBy_0 rfl (lv_at hl 2 rfl) ?_
  refine lv_if_ne (tgt := 21) hx hb dX12_wishedBy_1 (by decide) (fun hc1 => ?_) (fun hc1 => ?_)
  · have hT := hT.2 hc1
    refine lv_aload_n hx hb dX12_wishedBy_21 rfl (lv_at hl 0 rfl) ?_
    refine fx_getR X h (k := 159) (j := 42) (r := 181) sh_159 rfl fl_RX12_77 dX12_wishedBy_22 ?_
    refine lv_bipush (v := 8) hx hb dX12_wishedBy_25 (by decide) ?_
    refine lv_iload_n hx hb dX12_wishedBy_27 rfl (lv_at hl 1 rfl) ?_
    refine lv_imul hx hb dX12_wishedBy_28 ?_
    refine lv_iload_n hx hb dX12_wishedBy_29 rfl (lv_at hl 2 rfl) ?_
    refine lv_iadd hx hb dX12_wishedBy_30 ?_
    obtain ⟨hi2, hT⟩ := hT
    refine fx_iald X h (k := 181) sh_181 hi2 dX12_wishedBy_31 ?_
    refine lv_aload_n hx hb dX12_wishedBy_32 rfl (lv_at hl 0 rfl) ?_
    refine fx_getR X h (k := 159) (j := 58) (r := 192) sh_159 rfl fl_RX12_110 dX12_wishedBy_33 ?_
    refine lv_sipush (v := 128) hx hb dX12_wishedBy_36 (by decide) ?_
    refine lv_iload_n hx hb dX12_wishedBy_39 rfl (lv_at hl 1 rfl) ?_
    refine lv_iconst (v := 1) hx hb dX12_wishedBy_40 (by decide) ?_
    refine lv_iadd hx hb dX12_wishedBy_41 ?_
    refine lv_imul hx hb dX12_wishedBy_42 ?_
    refine lv_iload_n hx hb dX12_wishedBy_43 rfl (lv_at hl 3 rfl) ?_
    refine lv_iconst (v := 1) hx hb dX12_wishedBy_44 (by decide) ?_
    refine lv_iload_n hx hb dX12_wishedBy_45 rfl (lv_at hl 2 rfl) ?_
    refine lv_iconst (v := 1) hx hb dX12_wishedBy_46 (by decide) ?_
    refine lv_isub hx hb dX12_wishedBy_47 ?_
    refine lv_ishl hx hb dX12_wishedBy_48 ?_
    refine lv_ior hx hb dX12_wishedBy_49 ?_
    refine lv_iadd hx hb dX12_wishedBy_50 ?_
    obtain ⟨hi3, hT⟩ := hT
    refine fx_iald X h (k := 192) sh_192 hi3 dX12_wishedBy_51 ?_
    refine lv_iadd hx hb dX12_wishedBy_52 ?_
    exact fx_iret X hr hk h hT dX12_wishedBy_53
  · have hT := hT.1 hc1
    refine lv_aload_n hx hb dX12_wishedBy_4 rfl (lv_at hl 0 rfl) ?_
    refine fx_getR X h (k := 159) (j := 58) (r := 192) sh_159 rfl fl_RX12_110 dX12_wishedBy_5 ?_
    refine lv_sipush (v := 128) hx hb dX12_wishedBy_8 (by decide) ?_
    refine lv_iload_n hx hb dX12_wishedBy_11 rfl (lv_at hl 1 rfl) ?_
    refine lv_iconst (v := 1) hx hb dX12_wishedBy_12 (by decide) ?_
    refine lv_iadd hx hb dX12_wishedBy_13 ?_
    refine lv_imul hx hb dX12_wishedBy_14 ?_
    refine lv_iload_n hx hb dX12_wishedBy_15 rfl (lv_at hl 3 rfl) ?_
    refine lv_iadd hx hb dX12_wishedBy_16 ?_
    obtain ⟨hi4, hT⟩ := hT
    refine fx_iald X h (k := 192) sh_192 hi4 dX12_wishedBy_17 ?_
    refine lv_goto (tgt := 53) hx hb dX12_wishedBy_18 (by decide) ?_
    exact fx_iret X hr hk h hT dX12_wishedBy_53
/-! MockParcelsModel.canHave(II)Z -/
theorem dX12_canHave_0 : decode cX12_canHave 0 = .ok (.iload_n 1, 1) := by decide +kernel
theorem dX12_canHave_1 : decode cX12_canHave 1 = .ok (.ifCond .eq 14, 3) := by decide +kernel
theorem dX12_canHave_4 : decode cX12_canHave 4 = .ok (.aload_n 0, 1) := by decide +kernel
theorem dX12_canHave_5 : decode cX12_canHave 5 = .ok (.iload_n 2, 1) := by decide +kernel
theorem dX12_canHave_6 : decode cX12_canHave 6 = .ok (.iload_n 1, 1) := by decide +kernel
theorem dX12_canHave_7 : decode cX12_canHave 7 = .ok (.iconst 1, 1) := by decide +kernel
theorem dX12_canHave_8 : decode cX12_canHave 8 = .ok (.isub, 1) := by decide +kernel
theorem dX12_canHave_9 : decode cX12_canHave 9 = .ok (.invokevirtual 442, 3) := by decide +kernel
theorem dX12_canHave_12 : decode cX12_canHave 12 = .ok (.ifCond .ne 7, 3) := by decide +kernel
theorem dX12_canHave_15 : decode cX12_canHave 15 = .ok (.iconst 1, 1) := by decide +kernel
theorem dX12_canHave_16 : decode cX12_canHave 16 = .ok (.goto 4, 3) := by decide +kernel
theorem dX12_canHave_19 : decode cX12_canHave 19 = .ok (.iconst 0, 1) := by decide +kernel
theorem dX12_canHave_20 : decode cX12_canHave 20 = .ok (.ireturn, 1) := by decide +kernel
def T_X12_canHave_15 (M : Mm) (K : Int32 → Mm → Prop) : Prop := (K (1 : Int32) M)
set_option maxHeartbeats 4000000 in
set_option maxRecDepth 100000 in
theorem w_X12_canHave_15 {p : Program} {l : Launch} {e : Env} {s : State} {m : MethodId} {args : Array Value} {below : List Frame} {meth : Method} {c : Code} {G : fx_G} {K : Int32 → Mm → Prop} (X : fx_C G p s m c args cX12_canHave 3 RX12) (hr : meth.sig.returnType = (some .boolean)) (hk : meth.locks = false) : ∀ (M : Mm) (H : Heap) (locs : List Loc) (ls : Array Slot), T_X12_canHave_15  M K → fx_H G SH M s H locs → lv_has ls 3 [] → W p l e (fx_rm (1)) s m args below meth c H locs 0 0 (MQ below (va_Qi K (fx_R G SH) (fx_A G)) args s 0 0 (fx_A G)) (F0 m 15 ls []) := by
  obtain ⟨⟨hx, hb, hml, hown, hts⟩, hK, hQ⟩ := id X
  intro  M H locs ls hT h hl
  unfold T_X12_canHave_15 at hT
  refine lv_iconst (v := 1) hx hb dX12_canHave_15 (by decide) ?_
  refine lv_goto (tgt := 20) hx hb dX12_canHave_16 (by decide) ?_
  exact fx_zret X hr hk h (Or.inr rfl) hT dX12_canHave_20
def T_X12_canHave (x1 : Int32) (x2 : Int32) (M : Mm) (K : Int32 → Mm → Prop) : Prop := ((x1 = 0 → (T_X12_canHave_15 M K)) ∧ (¬ x1 = 0 → (T_X12_has x2 (x1 - (1 : Int32)) M (fun r4 M3 => ((r4 = 0 → (T_X12_canHave_15 M3 K)) ∧ (¬ r4 = 0 → (K (0 : Int32) M3)))))))
set_option maxHeartbeats 4000000 in
set_option maxRecDepth 100000 in
theorem c_X12_canHave (l : Launch) (G : fx_G) {x1 : Int32} {x2 : Int32} {M : Mm} {K : Int32 → Mm → Prop} (hT : T_X12_canHave x1 x2 M K) : Met l yX12_canHave (fx_ws yX12_canHave cX12_canHave 3 (some .boolean)) (fx_rm (1)) (va_Pc [.ref (G.2.2.2 + 159), .int x1, .int x2] (fx_P G SH M)) (va_Qi K (fx_R G SH) (fx_A G)) 0 0 (fx_A G) := by
  refine fx_met (own := RX12) (by decide +kernel) rfl (Nat.le_of_ble_eq_true rfl) (fun p e s m below meth c X hr hk h ls hl => ?_)
  obtain ⟨⟨hx, hb, hml, hown, hts⟩, hK, hQ⟩ := id X
  have hl : lv_has ls 3 [(0, .ref (G.2.2.2 + 159)), (1, .int x1), (2, .int x2)] := hl
  unfold T_X12_canHave at hT
  refine lv_iload_n hx hb dX12_canHave_0 rfl (lv_at hl 1 rfl) ?_
  refine lv_if_eq (tgt := 15) hx hb dX12_canHave_1 (by decide) (fun hc1 => ?_) (fun hc1 => ?_)
  · have hT := hT.1 hc1
    exact w_X12_canHave_15 X hr hk M _ _ ls hT h (lv_sub hl [] rfl)
  · have hT := hT.2 hc1
    refine lv_aload_n hx hb dX12_canHave_4 rfl (lv_at hl 0 rfl) ?_
    refine lv_iload_n hx hb dX12_canHave_5 rfl (lv_at hl 2 rfl) ?_
    refine lv_iload_n hx hb dX12_canHave_6 rfl (lv_at hl 1 rfl) ?_
    refine lv_iconst (v := 1) hx hb dX12_canHave_7 (by decide) ?_
    refine lv_isub hx hb dX12_canHave_8 ?_
    refine fx_vi X h ym_X12_has yi_X12_has ys_X12_has (fx_s8 (List.mem_of_getElem? (i := 221) rfl) rfl) sh_159 rfl (c_X12_has l G hT) (As := [.int x2, .int (x1 - (1 : Int32))]) (rest := []) rfl rfl ⟨Nat.le_of_ble_eq_true rfl, Nat.le_of_ble_eq_true rfl⟩ ⟨Nat.le_refl _, Nat.le_refl _⟩ hl.1 (Nat.le_of_ble_eq_true rfl) dX12_canHave_9 (fun r4 M3 H locs hT h => ?_)
    refine lv_if_ne (tgt := 19) hx hb dX12_canHave_12 (by decide) (fun hc5 => ?_) (fun hc5 => ?_)
    · have hT := hT.2 hc5
      refine lv_iconst (v := 0) hx hb dX12_canHave_19 (by decide) ?_
      exact fx_zret X hr hk h (Or.inl rfl) hT dX12_canHave_20
    · have hT := hT.1 hc5
      exact w_X12_canHave_15 X hr hk M3 _ _ ls hT h (lv_sub hl [] rfl)
/-! MockParcelsModel.findsWishes()V -/
theorem dX12_findsWishes_0 : decode cX12_findsWishes 0 = .ok (.aload_n 0, 1) := by decide +kernel
theorem dX12_findsWishes_1 : decode cX12_findsWishes 1 = .ok (.getfield 150, 3) := by decide +kernel
theorem dX12_findsWishes_4 : decode cX12_findsWishes 4 = .ok (.istore_n 1, 1) := by decide +kernel
theorem dX12_findsWishes_5 : decode cX12_findsWishes 5 = .ok (.iload_n 1, 1) := by decide +kernel
theorem dX12_findsWishes_6 : decode cX12_findsWishes 6 = .ok (.ifCond .lt 87, 3) := by decide +kernel
theorem dX12_findsWishes_9 : decode cX12_findsWishes 9 = .ok (.iconst 0, 1) := by decide +kernel
theorem dX12_findsWishes_10 : decode cX12_findsWishes 10 = .ok (.istore_n 2, 1) := by decide +kernel
theorem dX12_findsWishes_11 : decode cX12_findsWishes 11 = .ok (.iload_n 2, 1) := by decide +kernel
theorem dX12_findsWishes_12 : decode cX12_findsWishes 12 = .ok (.sipush 128, 3) := by decide +kernel
theorem dX12_findsWishes_15 : decode cX12_findsWishes 15 = .ok (.if_icmp .ge 72, 3) := by decide +kernel
theorem dX12_findsWishes_18 : decode cX12_findsWishes 18 = .ok (.iconst 0, 1) := by decide +kernel
theorem dX12_findsWishes_19 : decode cX12_findsWishes 19 = .ok (.istore_n 3, 1) := by decide +kernel
theorem dX12_findsWishes_20 : decode cX12_findsWishes 20 = .ok (.iconst 0, 1) := by decide +kernel
theorem dX12_findsWishes_21 : decode cX12_findsWishes 21 = .ok (.istore 4, 2) := by decide +kernel
theorem dX12_findsWishes_23 : decode cX12_findsWishes 23 = .ok (.iload 4, 2) := by decide +kernel
theorem dX12_findsWishes_25 : decode cX12_findsWishes 25 = .ok (.bipush 8, 2) := by decide +kernel
theorem dX12_findsWishes_27 : decode cX12_findsWishes 27 = .ok (.if_icmp .ge 41, 3) := by decide +kernel
theorem dX12_findsWishes_30 : decode cX12_findsWishes 30 = .ok (.iload_n 1, 1) := by decide +kernel
theorem dX12_findsWishes_31 : decode cX12_findsWishes 31 = .ok (.aload_n 0, 1) := by decide +kernel
theorem dX12_findsWishes_32 : decode cX12_findsWishes 32 = .ok (.getfield 150, 3) := by decide +kernel
theorem dX12_findsWishes_35 : decode cX12_findsWishes 35 = .ok (.if_icmp .ge 33, 3) := by decide +kernel
theorem dX12_findsWishes_38 : decode cX12_findsWishes 38 = .ok (.aload_n 0, 1) := by decide +kernel
theorem dX12_findsWishes_39 : decode cX12_findsWishes 39 = .ok (.iload 4, 2) := by decide +kernel
theorem dX12_findsWishes_41 : decode cX12_findsWishes 41 = .ok (.iload_n 2, 1) := by decide +kernel
theorem dX12_findsWishes_42 : decode cX12_findsWishes 42 = .ok (.invokevirtual 465, 3) := by decide +kernel
theorem dX12_findsWishes_45 : decode cX12_findsWishes 45 = .ok (.ifCond .eq 17, 3) := by decide +kernel
theorem dX12_findsWishes_48 : decode cX12_findsWishes 48 = .ok (.aload_n 0, 1) := by decide +kernel
theorem dX12_findsWishes_49 : decode cX12_findsWishes 49 = .ok (.iload_n 3, 1) := by decide +kernel
theorem dX12_findsWishes_50 : decode cX12_findsWishes 50 = .ok (.aload_n 0, 1) := by decide +kernel
theorem dX12_findsWishes_51 : decode cX12_findsWishes 51 = .ok (.iload_n 1, 1) := by decide +kernel
theorem dX12_findsWishes_52 : decode cX12_findsWishes 52 = .ok (.iload 4, 2) := by decide +kernel
theorem dX12_findsWishes_54 : decode cX12_findsWishes 54 = .ok (.iload_n 2, 1) := by decide +kernel
theorem dX12_findsWishes_55 : decode cX12_findsWishes 55 = .ok (.invokevirtual 468, 3) := by decide +kernel
theorem dX12_findsWishes_58 : decode cX12_findsWishes 58 = .ok (.invokevirtual 405, 3) := by decide +kernel
theorem dX12_findsWishes_61 : decode cX12_findsWishes 61 = .ok (.istore_n 3, 1) := by decide +kernel
theorem dX12_findsWishes_62 : decode cX12_findsWishes 62 = .ok (.iinc 4 1, 3) := by decide +kernel
theorem dX12_findsWishes_65 : decode cX12_findsWishes 65 = .ok (.goto (-42), 3) := by decide +kernel
theorem dX12_findsWishes_68 : decode cX12_findsWishes 68 = .ok (.aload_n 0, 1) := by decide +kernel
theorem dX12_findsWishes_69 : decode cX12_findsWishes 69 = .ok (.getfield 110, 3) := by decide +kernel
theorem dX12_findsWishes_72 : decode cX12_findsWishes 72 = .ok (.sipush 128, 3) := by decide +kernel
theorem dX12_findsWishes_75 : decode cX12_findsWishes 75 = .ok (.iload_n 1, 1) := by decide +kernel
theorem dX12_findsWishes_76 : decode cX12_findsWishes 76 = .ok (.imul, 1) := by decide +kernel
theorem dX12_findsWishes_77 : decode cX12_findsWishes 77 = .ok (.iload_n 2, 1) := by decide +kernel
theorem dX12_findsWishes_78 : decode cX12_findsWishes 78 = .ok (.iadd, 1) := by decide +kernel
theorem dX12_findsWishes_79 : decode cX12_findsWishes 79 = .ok (.iload_n 3, 1) := by decide +kernel
theorem dX12_findsWishes_80 : decode cX12_findsWishes 80 = .ok (.iastore, 1) := by decide +kernel
theorem dX12_findsWishes_81 : decode cX12_findsWishes 81 = .ok (.iinc 2 1, 3) := by decide +kernel
theorem dX12_findsWishes_84 : decode cX12_findsWishes 84 = .ok (.goto (-73), 3) := by decide +kernel
theorem dX12_findsWishes_87 : decode cX12_findsWishes 87 = .ok (.iinc 1 (-1), 3) := by decide +kernel
theorem dX12_findsWishes_90 : decode cX12_findsWishes 90 = .ok (.goto (-85), 3) := by decide +kernel
theorem dX12_findsWishes_93 : decode cX12_findsWishes 93 = .ok (.return_, 1) := by decide +kernel
def T_X12_findsWishes_68 (B5 : Int32 → Mm → Prop) (B11 : Int32 → Int32 → Mm → Prop) (x1 : Int32) (x2 : Int32) (x3 : Int32) (M : Mm) (K : Mm → Prop) : Prop := (vp_in (((128 : Int32) * x1) + x2) 1152 ∧ (∀ M1 : Mm, M1 = m_up M 192 ((((128 : Int32) * x1) + x2)).toNatClampNeg x3 → (∀ y3 : Int32, y3 = x2 + (1 : Int32) → (B11 x1 y3 M1))))
set_option maxHeartbeats 4000000 in
set_option maxRecDepth 100000 in
theorem w_X12_findsWishes_68 {p : Program} {l : Launch} {e : Env} {s : State} {m : MethodId} {args : Array Value} {below : List Frame} {meth : Method} {c : Code} {G : fx_G} {K : Mm → Prop} {B5 : Int32 → Mm → Prop} {B11 : Int32 → Int32 → Mm → Prop} (X : fx_C G p s m c args cX12_findsWishes 5 RX12) (hr : meth.sig.returnType = none) (hk : meth.locks = false) (hB5 : ∀ (x1 : Int32) (M : Mm) (H : Heap) (locs : List Loc) (ls : Array Slot), B5 x1 M → fx_H G SH M s H locs → lv_has ls 5 [(0, .ref (G.2.2.2 + 159)), (1, .int x1)] → W p l e (fx_rm (2)) s m args below meth c H locs 0 0 (MQ below (va_Qv K (fx_R G SH) (fx_A G)) args s 0 0 (fx_A G)) (F0 m 5 ls [])) (hB11 : ∀ (x1 : Int32) (x2 : Int32) (M : Mm) (H : Heap) (locs : List Loc) (ls : Array Slot), B11 x1 x2 M → fx_H G SH M s H locs → lv_has ls 5 [(0, .ref (G.2.2.2 + 159)), (1, .int x1), (2, .int x2)] → W p l e (fx_rm (2)) s m args below meth c H locs 0 0 (MQ below (va_Qv K (fx_R G SH) (fx_A G)) args s 0 0 (fx_A G)) (F0 m 11 ls [])) : ∀ (x1 : Int32) (x2 : Int32) (x3 : Int32) (M : Mm) (H : Heap) (locs : List Loc) (ls : Array Slot), T_X12_findsWishes_68 B5 B11 x1 x2 x3 M K → fx_H G SH M s H locs → lv_has ls 5 [(0, .ref (G.2.2.2 + 159)), (1, .int x1), (2, .int x2), (3, .int x3)] → W p l e (fx_rm (2)) s m args below meth c H locs 0 0 (MQ below (va_Qv K (fx_R G SH) (fx_A G)) args s 0 0 (fx_A G)) (F0 m 68 ls []) := by
  obtain ⟨⟨hx, hb, hml, hown, hts⟩, hK, hQ⟩ := id X
  intro x1 x2 x3 M H locs ls hT h hl
  unfold T_X12_findsWishes_68 at hT
  refine lv_aload_n hx hb dX12_findsWishes_68 rfl (lv_at hl 0 rfl) ?_
  refine fx_getR X h (k := 159) (j := 58) (r := 192) sh_159 rfl fl_RX12_110 dX12_findsWishes_69 ?_
  refine lv_sipush (v := 128) hx hb dX12_findsWishes_72 (by decide) ?_
  refine lv_iload_n hx hb dX12_findsWishes_75 rfl (lv_at hl 1 rfl) ?_
  refine lv_imul hx hb dX12_findsWishes_76 ?_
  refine lv_iload_n hx hb dX12_findsWishes_77 rfl (lv_at hl 2 rfl) ?_
  refine lv_iadd hx hb dX12_findsWishes_78 ?_
  refine lv_iload_n hx hb dX12_findsWishes_79 rfl (lv_at hl 3 rfl) ?_
  obtain ⟨hi2, hT⟩ := hT
  refine fx_iast X h (k := 192) sh_192 hi2 dX12_findsWishes_80 (fun H locs h => ?_)
  obtain ⟨M1, eM1⟩ : ∃ z : Mm, z = m_up M 192 ((((128 : Int32) * x1) + x2)).toNatClampNeg x3 := ⟨_, rfl⟩
  have hT := hT M1 eM1
  rw [← eM1] at h
  obtain ⟨y3, ey3⟩ : ∃ z : Int32, z = x2 + (1 : Int32) := ⟨_, rfl⟩
  have hT := hT y3 ey3
  refine lv_iinc (v := y3) (lv' := [(2, .int y3), (0, .ref (G.2.2.2 + 159)), (1, .int x1), (3, .int x3)]) hx hb dX12_findsWishes_81 hl (k := 2) rfl (by rw [ey3]; rfl) (by decide) rfl (fun ls hl => ?_)
  refine lv_goto (tgt := 11) hx hb dX12_findsWishes_84 (by decide) ?_
  exact hB11 x1 y3 M1 _ _ ls hT h (lv_sub hl [1, 2, 0] rfl)
def T_X12_findsWishes_62 (B5 : Int32 → Mm → Prop) (B11 : Int32 → Int32 → Mm → Prop) (B23 : Int32 → Int32 → Int32 → Int32 → Mm → Prop) (x1 : Int32) (x2 : Int32) (x3 : Int32) (x4 : Int32) (M : Mm) (K : Mm → Prop) : Prop := (∀ y4 : Int32, y4 = x4 + (1 : Int32) → (B23 x1 x2 x3 y4 M))
set_option maxHeartbeats 4000000 in
set_option maxRecDepth 100000 in
theorem w_X12_findsWishes_62 {p : Program} {l : Launch} {e : Env} {s : State} {m : MethodId} {args : Array Value} {below : List Frame} {meth : Method} {c : Code} {G : fx_G} {K : Mm → Prop} {B5 : Int32 → Mm → Prop} {B11 : Int32 → Int32 → Mm → Prop} {B23 : Int32 → Int32 → Int32 → Int32 → Mm → Prop} (X : fx_C G p s m c args cX12_findsWishes 5 RX12) (hr : meth.sig.returnType = none) (hk : meth.locks = false) (hB5 : ∀ (x1 : Int32) (M : Mm) (H : Heap) (locs : List Loc) (ls : Array Slot), B5 x1 M → fx_H G SH M s H locs → lv_has ls 5 [(0, .ref (G.2.2.2 + 159)), (1, .int x1)] → W p l e (fx_rm (2)) s m args below meth c H locs 0 0 (MQ below (va_Qv K (fx_R G SH) (fx_A G)) args s 0 0 (fx_A G)) (F0 m 5 ls [])) (hB11 : ∀ (x1 : Int32) (x2 : Int32) (M : Mm) (H : Heap) (locs : List Loc) (ls : Array Slot), B11 x1 x2 M → fx_H G SH M s H locs → lv_has ls 5 [(0, .ref (G.2.2.2 + 159)), (1, .int x1), (2, .int x2)] → W p l e (fx_rm (2)) s m args below meth c H locs 0 0 (MQ below (va_Qv K (fx_R G SH) (fx_A G)) args s 0 0 (fx_A G)) (F0 m 11 ls [])) (hB23 : ∀ (x1 : Int32) (x2 : Int32) (x3 : Int32) (x4 : Int32) (M : Mm) (H : Heap) (locs : List Loc) (ls : Array Slot), B23 x1 x2 x3 x4 M → fx_H G SH M s H locs → lv_has ls 5 [(0, .ref (G.2.2.2 + 159)), (1, .int x1), (2, .int x2), (3, .int x3), (4, .int x4)] → W p l e (fx_rm (2)) s m args below meth c H locs 0 0 (MQ below (va_Qv K (fx_R G SH) (fx_A G)) args s 0 0 (fx_A G)) (F0 m 23 ls [])) : ∀ (x1 : Int32) (x2 : Int32) (x3 : Int32) (x4 : Int32) (M : Mm) (H : Heap) (locs : List Loc) (ls : Array Slot), T_X12_findsWishes_62 B5 B11 B23 x1 x2 x3 x4 M K → fx_H G SH M s H locs → lv_has ls 5 [(0, .ref (G.2.2.2 + 159)), (1, .int x1), (2, .int x2), (3, .int x3), (4, .int x4)] → W p l e (fx_rm (2)) s m args below meth c H locs 0 0 (MQ below (va_Qv K (fx_R G SH) (fx_A G)) args s 0 0 (fx_A G)) (F0 m 62 ls []) := by
  obtain ⟨⟨hx, hb, hml, hown, hts⟩, hK, hQ⟩ := id X
  intro x1 x2 x3 x4 M H locs ls hT h hl
  unfold T_X12_findsWishes_62 at hT
  obtain ⟨y4, ey4⟩ : ∃ z : Int32, z = x4 + (1 : Int32) := ⟨_, rfl⟩
  have hT := hT y4 ey4
  refine lv_iinc (v := y4) (lv' := [(4, .int y4), (0, .ref (G.2.2.2 + 159)), (1, .int x1), (2, .int x2), (3, .int x3)]) hx hb dX12_findsWishes_62 hl (k := 4) rfl (by rw [ey4]; rfl) (by decide) rfl (fun ls hl => ?_)
  refine lv_goto (tgt := 23) hx hb dX12_findsWishes_65 (by decide) ?_
  exact hB23 x1 x2 x3 y4 M _ _ ls hT h (lv_sub hl [1, 2, 3, 4, 0] rfl)
def T_X12_findsWishes_23 (B5 : Int32 → Mm → Prop) (B11 : Int32 → Int32 → Mm → Prop) : Nat → Int32 → Int32 → Int32 → Int32 → Mm → (Mm → Prop) → Prop
  | 0, _, _, _, _, _, _ => False
  | n + 1, x1, x2, x3, x4, M, K => (((8 : Int32) ≤ x4 → (T_X12_findsWishes_68 B5 B11 x1 x2 x3 M K)) ∧ (¬ (8 : Int32) ≤ x4 → (((M 159 7) ≤ x1 → (T_X12_findsWishes_68 B5 B11 x1 x2 x3 M K)) ∧ (¬ (M 159 7) ≤ x1 → (T_X12_canHave x4 x2 M (fun r9 M8 => ((r9 = 0 → (T_X12_findsWishes_62 B5 B11 (fun x1 x2 x3 x4 M => T_X12_findsWishes_23 B5 B11 n x1 x2 x3 x4 M K) x1 x2 x3 x4 M8 K)) ∧ (¬ r9 = 0 → (T_X12_wishedBy x1 x4 x2 M8 (fun r13 M12 => (T_X12_greater x3 r13 M12 (fun r16 M15 => (T_X12_findsWishes_62 B5 B11 (fun x1 x2 x3 x4 M => T_X12_findsWishes_23 B5 B11 n x1 x2 x3 x4 M K) x1 x2 r16 x4 M15 K)))))))))))))
set_option maxHeartbeats 4000000 in
set_option maxRecDepth 100000 in
theorem w_X12_findsWishes_23 {p : Program} {l : Launch} {e : Env} {s : State} {m : MethodId} {args : Array Value} {below : List Frame} {meth : Method} {c : Code} {G : fx_G} {K : Mm → Prop} {B5 : Int32 → Mm → Prop} {B11 : Int32 → Int32 → Mm → Prop} (X : fx_C G p s m c args cX12_findsWishes 5 RX12) (hr : meth.sig.returnType = none) (hk : meth.locks = false) (hB5 : ∀ (x1 : Int32) (M : Mm) (H : Heap) (locs : List Loc) (ls : Array Slot), B5 x1 M → fx_H G SH M s H locs → lv_has ls 5 [(0, .ref (G.2.2.2 + 159)), (1, .int x1)] → W p l e (fx_rm (2)) s m args below meth c H locs 0 0 (MQ below (va_Qv K (fx_R G SH) (fx_A G)) args s 0 0 (fx_A G)) (F0 m 5 ls [])) (hB11 : ∀ (x1 : Int32) (x2 : Int32) (M : Mm) (H : Heap) (locs : List Loc) (ls : Array Slot), B11 x1 x2 M → fx_H G SH M s H locs → lv_has ls 5 [(0, .ref (G.2.2.2 + 159)), (1, .int x1), (2, .int x2)] → W p l e (fx_rm (2)) s m args below meth c H locs 0 0 (MQ below (va_Qv K (fx_R G SH) (fx_A G)) args s 0 0 (fx_A G)) (F0 m 11 ls [])) : ∀ (n : Nat) (x1 : Int32) (x2 : Int32) (x3 : Int32) (x4 : Int32) (M : Mm) (H : Heap) (locs : List Loc) (ls : Array Slot), T_X12_findsWishes_23 B5 B11 n x1 x2 x3 x4 M K → fx_H G SH M s H locs → lv_has ls 5 [(0, .ref (G.2.2.2 + 159)), (1, .int x1), (2, .int x2), (3, .int x3), (4, .int x4)] → W p l e (fx_rm (2)) s m args below meth c H locs 0 0 (MQ below (va_Qv K (fx_R G SH) (fx_A G)) args s 0 0 (fx_A G)) (F0 m 23 ls []) := by
  obtain ⟨⟨hx, hb, hml, hown, hts⟩, hK, hQ⟩ := id X
  intro n
  induction n with
  | zero =>
    intro x1 x2 x3 x4 M H locs ls hT
    exact hT.elim
  | succ n ih =>
    intro x1 x2 x3 x4 M H locs ls hT h hl
    rw [T_X12_findsWishes_23] at hT
    refine lv_iload hx hb dX12_findsWishes_23 (lv_at hl 4 rfl) ?_
    refine lv_bipush (v := 8) hx hb dX12_findsWishes_25 (by decide) ?_
    refine lv_icmp_ge (tgt := 68) hx hb dX12_findsWishes_27 (by decide) (fun hc5 => ?_) (fun hc5 => ?_)
    · have hT := hT.1 hc5
      exact w_X12_findsWishes_68 X hr hk (B5 := B5) hB5 (B11 := B11) hB11 x1 x2 x3 M _ _ ls hT h (lv_sub hl [0, 1, 2, 3] rfl)
    · have hT := hT.2 hc5
      refine lv_iload_n hx hb dX12_findsWishes_30 rfl (lv_at hl 1 rfl) ?_
      refine lv_aload_n hx hb dX12_findsWishes_31 rfl (lv_at hl 0 rfl) ?_
      refine fx_getI X h (k := 159) (j := 7) sh_159 rfl fl_RX12_150 dX12_findsWishes_32 ?_
      refine lv_icmp_ge (tgt := 68) hx hb dX12_findsWishes_35 (by decide) (fun hc6 => ?_) (fun hc6 => ?_)
      · have hT := hT.1 hc6
        exact w_X12_findsWishes_68 X hr hk (B5 := B5) hB5 (B11 := B11) hB11 x1 x2 x3 M _ _ ls hT h (lv_sub hl [0, 1, 2, 3] rfl)
      · have hT := hT.2 hc6
        refine lv_aload_n hx hb dX12_findsWishes_38 rfl (lv_at hl 0 rfl) ?_
        refine lv_iload hx hb dX12_findsWishes_39 (lv_at hl 4 rfl) ?_
        refine lv_iload_n hx hb dX12_findsWishes_41 rfl (lv_at hl 2 rfl) ?_
        refine fx_vi X h ym_X12_canHave yi_X12_canHave ys_X12_canHave (fx_s9 (List.mem_of_getElem? (i := 22) rfl) rfl) sh_159 rfl (c_X12_canHave l G hT) (As := [.int x4, .int x2]) (rest := []) rfl rfl ⟨Nat.le_of_ble_eq_true rfl, Nat.le_of_ble_eq_true rfl⟩ ⟨Nat.le_refl _, Nat.le_refl _⟩ hl.1 (Nat.le_of_ble_eq_true rfl) dX12_findsWishes_42 (fun r9 M8 H locs hT h => ?_)
        refine lv_if_eq (tgt := 62) hx hb dX12_findsWishes_45 (by decide) (fun hc10 => ?_) (fun hc10 => ?_)
        · have hT := hT.1 hc10
          exact w_X12_findsWishes_62 X hr hk (B5 := B5) hB5 (B11 := B11) hB11 (B23 := (fun x1 x2 x3 x4 M => T_X12_findsWishes_23 B5 B11 n x1 x2 x3 x4 M K)) ih x1 x2 x3 x4 M8 _ _ ls hT h (lv_sub hl [0, 1, 2, 3, 4] rfl)
        · have hT := hT.2 hc10
          refine lv_aload_n hx hb dX12_findsWishes_48 rfl (lv_at hl 0 rfl) ?_
          refine lv_iload_n hx hb dX12_findsWishes_49 rfl (lv_at hl 3 rfl) ?_
          refine lv_aload_n hx hb dX12_findsWishes_50 rfl (lv_at hl 0 rfl) ?_
          refine lv_iload_n hx hb dX12_findsWishes_51 rfl (lv_at hl 1 rfl) ?_
          refine lv_iload hx hb dX12_findsWishes_52 (lv_at hl 4 rfl) ?_
          refine lv_iload_n hx hb dX12_findsWishes_54 rfl (lv_at hl 2 rfl) ?_
          refine fx_vi X h ym_X12_wishedBy yi_X12_wishedBy ys_X12_wishedBy (fx_s9 (List.mem_of_getElem? (i := 26) rfl) rfl) sh_159 rfl (c_X12_wishedBy l G hT) (As := [.int x1, .int x4, .int x2]) (rest := [.int x3, .ref (G.2.2.2 + 159)]) rfl rfl ⟨Nat.le_of_ble_eq_true rfl, Nat.le_of_ble_eq_true rfl⟩ ⟨Nat.le_refl _, Nat.le_refl _⟩ hl.1 (Nat.le_of_ble_eq_true rfl) dX12_findsWishes_55 (fun r13 M12 H locs hT h => ?_)
          refine fx_vi X h ym_X12_greater yi_X12_greater ys_X12_greater (fx_s8 (List.mem_of_getElem? (i := 135) rfl) rfl) sh_159 rfl (c_X12_greater l G hT) (As := [.int x3, .int r13]) (rest := []) rfl rfl ⟨Nat.le_of_ble_eq_true rfl, Nat.le_of_ble_eq_true rfl⟩ ⟨Nat.le_refl _, Nat.le_refl _⟩ hl.1 (Nat.le_of_ble_eq_true rfl) dX12_findsWishes_58 (fun r16 M15 H locs hT h => ?_)
          refine lv_istore_n (lv' := [(3, .int r16), (0, .ref (G.2.2.2 + 159)), (1, .int x1), (2, .int x2), (4, .int x4)]) hx hb dX12_findsWishes_61 rfl hl (by decide) rfl (fun ls hl => ?_)
          exact w_X12_findsWishes_62 X hr hk (B5 := B5) hB5 (B11 := B11) hB11 (B23 := (fun x1 x2 x3 x4 M => T_X12_findsWishes_23 B5 B11 n x1 x2 x3 x4 M K)) ih x1 x2 r16 x4 M15 _ _ ls hT h (lv_sub hl [1, 2, 3, 0, 4] rfl)
def T_X12_findsWishes_11 (B5 : Int32 → Mm → Prop) : Nat → Int32 → Int32 → Mm → (Mm → Prop) → Prop
  | 0, _, _, _, _ => False
  | n + 1, x1, x2, M, K => (((128 : Int32) ≤ x2 → (∀ y18 : Int32, y18 = x1 + (-1 : Int32) → (B5 y18 M))) ∧ (¬ (128 : Int32) ≤ x2 → (T_X12_findsWishes_23 B5 (fun x1 x2 M => T_X12_findsWishes_11 B5 n x1 x2 M K) 5000 x1 x2 (0 : Int32) (0 : Int32) M K)))
set_option maxHeartbeats 4000000 in
set_option maxRecDepth 100000 in
theorem w_X12_findsWishes_11 {p : Program} {l : Launch} {e : Env} {s : State} {m : MethodId} {args : Array Value} {below : List Frame} {meth : Method} {c : Code} {G : fx_G} {K : Mm → Prop} {B5 : Int32 → Mm → Prop} (X : fx_C G p s m c args cX12_findsWishes 5 RX12) (hr : meth.sig.returnType = none) (hk : meth.locks = false) (hB5 : ∀ (x1 : Int32) (M : Mm) (H : Heap) (locs : List Loc) (ls : Array Slot), B5 x1 M → fx_H G SH M s H locs → lv_has ls 5 [(0, .ref (G.2.2.2 + 159)), (1, .int x1)] → W p l e (fx_rm (2)) s m args below meth c H locs 0 0 (MQ below (va_Qv K (fx_R G SH) (fx_A G)) args s 0 0 (fx_A G)) (F0 m 5 ls [])) : ∀ (n : Nat) (x1 : Int32) (x2 : Int32) (M : Mm) (H : Heap) (locs : List Loc) (ls : Array Slot), T_X12_findsWishes_11 B5 n x1 x2 M K → fx_H G SH M s H locs → lv_has ls 5 [(0, .ref (G.2.2.2 + 159)), (1, .int x1), (2, .int x2)] → W p l e (fx_rm (2)) s m args below meth c H locs 0 0 (MQ below (va_Qv K (fx_R G SH) (fx_A G)) args s 0 0 (fx_A G)) (F0 m 11 ls []) := by
  obtain ⟨⟨hx, hb, hml, hown, hts⟩, hK, hQ⟩ := id X
  intro n
  induction n with
  | zero =>
    intro x1 x2 M H locs ls hT
    exact hT.elim
  | succ n ih =>
    intro x1 x2 M H locs ls hT h hl
    rw [T_X12_findsWishes_11] at hT
    refine lv_iload_n hx hb dX12_findsWishes_11 rfl (lv_at hl 2 rfl) ?_
    refine lv_sipush (v := 128) hx hb dX12_findsWishes_12 (by decide) ?_
    refine lv_icmp_ge (tgt := 87) hx hb dX12_findsWishes_15 (by decide) (fun hc17 => ?_) (fun hc17 => ?_)
    · have hT := hT.1 hc17
      obtain ⟨y18, ey18⟩ : ∃ z : Int32, z = x1 + (-1 : Int32) := ⟨_, rfl⟩
      have hT := hT y18 ey18
      refine lv_iinc (v := y18) (lv' := [(1, .int y18), (0, .ref (G.2.2.2 + 159)), (2, .int x2)]) hx hb dX12_findsWishes_87 hl (k := 1) rfl (by rw [ey18]; rfl) (by decide) rfl (fun ls hl => ?_)
      refine lv_goto (tgt := 5) hx hb dX12_findsWishes_90 (by decide) ?_
      exact hB5 y18 M _ _ ls hT h (lv_sub hl [1, 0] rfl)
    · have hT := hT.2 hc17
      refine lv_iconst (v := 0) hx hb dX12_findsWishes_18 (by decide) ?_
      refine lv_istore_n (lv' := [(3, .int (0 : Int32)), (0, .ref (G.2.2.2 + 159)), (1, .int x1), (2, .int x2)]) hx hb dX12_findsWishes_19 rfl hl (by decide) rfl (fun ls hl => ?_)
      refine lv_iconst (v := 0) hx hb dX12_findsWishes_20 (by decide) ?_
      refine lv_istore (lv' := [(4, .int (0 : Int32)), (3, .int (0 : Int32)), (0, .ref (G.2.2.2 + 159)), (1, .int x1), (2, .int x2)]) hx hb dX12_findsWishes_21 hl (by decide) rfl (fun ls hl => ?_)
      exact w_X12_findsWishes_23 X hr hk (B5 := B5) hB5 (B11 := (fun x1 x2 M => T_X12_findsWishes_11 B5 n x1 x2 M K)) ih 5000 x1 x2 (0 : Int32) (0 : Int32) M _ _ ls hT h (lv_sub hl [2, 3, 4, 1, 0] rfl)
def T_X12_findsWishes_5 : Nat → Int32 → Mm → (Mm → Prop) → Prop
  | 0, _, _, _ => False
  | n + 1, x1, M, K => ((x1 < 0 → (K M)) ∧ (¬ x1 < 0 → (T_X12_findsWishes_11 (fun x1 M => T_X12_findsWishes_5 n x1 M K) 5000 x1 (0 : Int32) M K)))
set_option maxHeartbeats 4000000 in
set_option maxRecDepth 100000 in
theorem w_X12_findsWishes_5 {p : Program} {l : Launch} {e : Env} {s : State} {m : MethodId} {args : Array Value} {below : List Frame} {meth : Method} {c : Code} {G : fx_G} {K : Mm → Prop} (X : fx_C G p s m c args cX12_findsWishes 5 RX12) (hr : meth.sig.returnType = none) (hk : meth.locks = false) : ∀ (n : Nat) (x1 : Int32) (M : Mm) (H : Heap) (locs : List Loc) (ls : Array Slot), T_X12_findsWishes_5 n x1 M K → fx_H G SH M s H locs → lv_has ls 5 [(0, .ref (G.2.2.2 + 159)), (1, .int x1)] → W p l e (fx_rm (2)) s m args below meth c H locs 0 0 (MQ below (va_Qv K (fx_R G SH) (fx_A G)) args s 0 0 (fx_A G)) (F0 m 5 ls []) := by
  obtain ⟨⟨hx, hb, hml, hown, hts⟩, hK, hQ⟩ := id X
  intro n
  induction n with
  | zero =>
    intro x1 M H locs ls hT
    exact hT.elim
  | succ n ih =>
    intro x1 M H locs ls hT h hl
    rw [T_X12_findsWishes_5] at hT
    refine lv_iload_n hx hb dX12_findsWishes_5 rfl (lv_at hl 1 rfl) ?_
    refine lv_if_lt (tgt := 93) hx hb dX12_findsWishes_6 (by decide) (fun hc19 => ?_) (fun hc19 => ?_)
    · have hT := hT.1 hc19
      exact fx_vret X hr hk h hT dX12_findsWishes_93
    · have hT := hT.2 hc19
      refine lv_iconst (v := 0) hx hb dX12_findsWishes_9 (by decide) ?_
      refine lv_istore_n (lv' := [(2, .int (0 : Int32)), (0, .ref (G.2.2.2 + 159)), (1, .int x1)]) hx hb dX12_findsWishes_10 rfl hl (by decide) rfl (fun ls hl => ?_)
      exact w_X12_findsWishes_11 X hr hk (B5 := (fun x1 M => T_X12_findsWishes_5 n x1 M K)) ih 5000 x1 (0 : Int32) M _ _ ls hT h (lv_sub hl [1, 2, 0] rfl)
def T_X12_findsWishes (M : Mm) (K : Mm → Prop) : Prop := (∀ y20 : Int32, y20 = (M 159 7) → (T_X12_findsWishes_5 5000 y20 M K))
set_option maxHeartbeats 4000000 in
set_option maxRecDepth 100000 in
theorem c_X12_findsWishes (l : Launch) (G : fx_G) {M : Mm} {K : Mm → Prop} (hT : T_X12_findsWishes M K) : Met l yX12_findsWishes (fx_ws yX12_findsWishes cX12_findsWishes 5 none) (fx_rm (2)) (va_Pc [.ref (G.2.2.2 + 159)] (fx_P G SH M)) (va_Qv K (fx_R G SH) (fx_A G)) 0 0 (fx_A G) := by
  refine fx_met (own := RX12) (by decide +kernel) rfl (Nat.le_of_ble_eq_true rfl) (fun p e s m below meth c X hr hk h ls hl => ?_)
  obtain ⟨⟨hx, hb, hml, hown, hts⟩, hK, hQ⟩ := id X
  have hl : lv_has ls 5 [(0, .ref (G.2.2.2 + 159))] := hl
  unfold T_X12_findsWishes at hT
  refine lv_aload_n hx hb dX12_findsWishes_0 rfl (lv_at hl 0 rfl) ?_
  refine fx_getI X h (k := 159) (j := 7) sh_159 rfl fl_RX12_150 dX12_findsWishes_1 ?_
  refine lv_topi (fun y20 ey20 => ?_)
  have hT := hT y20 ey20
  refine lv_istore_n (lv' := [(1, .int y20), (0, .ref (G.2.2.2 + 159))]) hx hb dX12_findsWishes_4 rfl hl (by decide) rfl (fun ls hl => ?_)
  exact w_X12_findsWishes_5 X hr hk 5000 y20 M _ _ ls hT h (lv_sub hl [1, 0] rfl)
/-! MockParcelsModel.wishes(I)I -/
theorem dX12_wishes_0 : decode cX12_wishes 0 = .ok (.aload_n 0, 1) := by decide +kernel
theorem dX12_wishes_1 : decode cX12_wishes 1 = .ok (.iconst 0, 1) := by decide +kernel
theorem dX12_wishes_2 : decode cX12_wishes 2 = .ok (.putfield 134, 3) := by decide +kernel
theorem dX12_wishes_5 : decode cX12_wishes 5 = .ok (.iload_n 1, 1) := by decide +kernel
theorem dX12_wishes_6 : decode cX12_wishes 6 = .ok (.ifCond .eq 22, 3) := by decide +kernel
theorem dX12_wishes_9 : decode cX12_wishes 9 = .ok (.aload_n 0, 1) := by decide +kernel
theorem dX12_wishes_10 : decode cX12_wishes 10 = .ok (.iload_n 1, 1) := by decide +kernel
theorem dX12_wishes_11 : decode cX12_wishes 11 = .ok (.bipush 10, 2) := by decide +kernel
theorem dX12_wishes_13 : decode cX12_wishes 13 = .ok (.bipush 9, 2) := by decide +kernel
theorem dX12_wishes_15 : decode cX12_wishes 15 = .ok (.aload_n 0, 1) := by decide +kernel
theorem dX12_wishes_16 : decode cX12_wishes 16 = .ok (.getfield 150, 3) := by decide +kernel
theorem dX12_wishes_19 : decode cX12_wishes 19 = .ok (.iadd, 1) := by decide +kernel
theorem dX12_wishes_20 : decode cX12_wishes 20 = .ok (.invokevirtual 157, 3) := by decide +kernel
theorem dX12_wishes_23 : decode cX12_wishes 23 = .ok (.ifCond .ne 5, 3) := by decide +kernel
theorem dX12_wishes_26 : decode cX12_wishes 26 = .ok (.iconst (-1), 1) := by decide +kernel
theorem dX12_wishes_27 : decode cX12_wishes 27 = .ok (.ireturn, 1) := by decide +kernel
theorem dX12_wishes_28 : decode cX12_wishes 28 = .ok (.aload_n 0, 1) := by decide +kernel
theorem dX12_wishes_29 : decode cX12_wishes 29 = .ok (.invokevirtual 471, 3) := by decide +kernel
theorem dX12_wishes_32 : decode cX12_wishes 32 = .ok (.iload_n 1, 1) := by decide +kernel
theorem dX12_wishes_33 : decode cX12_wishes 33 = .ok (.ifCond .ne 10, 3) := by decide +kernel
theorem dX12_wishes_36 : decode cX12_wishes 36 = .ok (.aload_n 0, 1) := by decide +kernel
theorem dX12_wishes_37 : decode cX12_wishes 37 = .ok (.getfield 110, 3) := by decide +kernel
theorem dX12_wishes_40 : decode cX12_wishes 40 = .ok (.iconst 0, 1) := by decide +kernel
theorem dX12_wishes_41 : decode cX12_wishes 41 = .ok (.iaload, 1) := by decide +kernel
theorem dX12_wishes_42 : decode cX12_wishes 42 = .ok (.ireturn, 1) := by decide +kernel
theorem dX12_wishes_43 : decode cX12_wishes 43 = .ok (.iconst 0, 1) := by decide +kernel
theorem dX12_wishes_44 : decode cX12_wishes 44 = .ok (.istore_n 2, 1) := by decide +kernel
theorem dX12_wishes_45 : decode cX12_wishes 45 = .ok (.iconst 0, 1) := by decide +kernel
theorem dX12_wishes_46 : decode cX12_wishes 46 = .ok (.istore_n 3, 1) := by decide +kernel
theorem dX12_wishes_47 : decode cX12_wishes 47 = .ok (.iconst 0, 1) := by decide +kernel
theorem dX12_wishes_48 : decode cX12_wishes 48 = .ok (.istore 4, 2) := by decide +kernel
theorem dX12_wishes_50 : decode cX12_wishes 50 = .ok (.iload 4, 2) := by decide +kernel
theorem dX12_wishes_52 : decode cX12_wishes 52 = .ok (.iload_n 1, 1) := by decide +kernel
theorem dX12_wishes_53 : decode cX12_wishes 53 = .ok (.bipush 10, 2) := by decide +kernel
theorem dX12_wishes_55 : decode cX12_wishes 55 = .ok (.isub, 1) := by decide +kernel
theorem dX12_wishes_56 : decode cX12_wishes 56 = .ok (.if_icmp .gt 63, 3) := by decide +kernel
theorem dX12_wishes_59 : decode cX12_wishes 59 = .ok (.iconst 0, 1) := by decide +kernel
theorem dX12_wishes_60 : decode cX12_wishes 60 = .ok (.istore_n 3, 1) := by decide +kernel
theorem dX12_wishes_61 : decode cX12_wishes 61 = .ok (.aload_n 0, 1) := by decide +kernel
theorem dX12_wishes_62 : decode cX12_wishes 62 = .ok (.iload_n 3, 1) := by decide +kernel
theorem dX12_wishes_63 : decode cX12_wishes 63 = .ok (.iload_n 2, 1) := by decide +kernel
theorem dX12_wishes_64 : decode cX12_wishes 64 = .ok (.invokevirtual 465, 3) := by decide +kernel
theorem dX12_wishes_67 : decode cX12_wishes 67 = .ok (.ifCond .eq 27, 3) := by decide +kernel
theorem dX12_wishes_70 : decode cX12_wishes 70 = .ok (.aload_n 0, 1) := by decide +kernel
theorem dX12_wishes_71 : decode cX12_wishes 71 = .ok (.iload 4, 2) := by decide +kernel
theorem dX12_wishes_73 : decode cX12_wishes 73 = .ok (.iload_n 3, 1) := by decide +kernel
theorem dX12_wishes_74 : decode cX12_wishes 74 = .ok (.iload_n 2, 1) := by decide +kernel
theorem dX12_wishes_75 : decode cX12_wishes 75 = .ok (.invokevirtual 468, 3) := by decide +kernel
theorem dX12_wishes_78 : decode cX12_wishes 78 = .ok (.aload_n 0, 1) := by decide +kernel
theorem dX12_wishes_79 : decode cX12_wishes 79 = .ok (.getfield 110, 3) := by decide +kernel
theorem dX12_wishes_82 : decode cX12_wishes 82 = .ok (.sipush 128, 3) := by decide +kernel
theorem dX12_wishes_85 : decode cX12_wishes 85 = .ok (.iload 4, 2) := by decide +kernel
theorem dX12_wishes_87 : decode cX12_wishes 87 = .ok (.imul, 1) := by decide +kernel
theorem dX12_wishes_88 : decode cX12_wishes 88 = .ok (.iload_n 2, 1) := by decide +kernel
theorem dX12_wishes_89 : decode cX12_wishes 89 = .ok (.iadd, 1) := by decide +kernel
theorem dX12_wishes_90 : decode cX12_wishes 90 = .ok (.iaload, 1) := by decide +kernel
theorem dX12_wishes_91 : decode cX12_wishes 91 = .ok (.if_icmp .eq 10, 3) := by decide +kernel
theorem dX12_wishes_94 : decode cX12_wishes 94 = .ok (.iload_n 3, 1) := by decide +kernel
theorem dX12_wishes_95 : decode cX12_wishes 95 = .ok (.iconst 1, 1) := by decide +kernel
theorem dX12_wishes_96 : decode cX12_wishes 96 = .ok (.iadd, 1) := by decide +kernel
theorem dX12_wishes_97 : decode cX12_wishes 97 = .ok (.istore_n 3, 1) := by decide +kernel
theorem dX12_wishes_98 : decode cX12_wishes 98 = .ok (.goto (-37), 3) := by decide +kernel
theorem dX12_wishes_101 : decode cX12_wishes 101 = .ok (.iload_n 3, 1) := by decide +kernel
theorem dX12_wishes_102 : decode cX12_wishes 102 = .ok (.ifCond .le 11, 3) := by decide +kernel
theorem dX12_wishes_105 : decode cX12_wishes 105 = .ok (.iload_n 2, 1) := by decide +kernel
theorem dX12_wishes_106 : decode cX12_wishes 106 = .ok (.iconst 1, 1) := by decide +kernel
theorem dX12_wishes_107 : decode cX12_wishes 107 = .ok (.iload_n 3, 1) := by decide +kernel
theorem dX12_wishes_108 : decode cX12_wishes 108 = .ok (.iconst 1, 1) := by decide +kernel
theorem dX12_wishes_109 : decode cX12_wishes 109 = .ok (.isub, 1) := by decide +kernel
theorem dX12_wishes_110 : decode cX12_wishes 110 = .ok (.ishl, 1) := by decide +kernel
theorem dX12_wishes_111 : decode cX12_wishes 111 = .ok (.ior, 1) := by decide +kernel
theorem dX12_wishes_112 : decode cX12_wishes 112 = .ok (.istore_n 2, 1) := by decide +kernel
theorem dX12_wishes_113 : decode cX12_wishes 113 = .ok (.iinc 4 1, 3) := by decide +kernel
theorem dX12_wishes_116 : decode cX12_wishes 116 = .ok (.goto (-66), 3) := by decide +kernel
theorem dX12_wishes_119 : decode cX12_wishes 119 = .ok (.iload_n 3, 1) := by decide +kernel
theorem dX12_wishes_120 : decode cX12_wishes 120 = .ok (.ireturn, 1) := by decide +kernel
def T_X12_wishes_94 (B50 : Int32 → Int32 → Int32 → Int32 → Mm → Prop) (B61 : Int32 → Int32 → Int32 → Int32 → Mm → Prop) (x1 : Int32) (x2 : Int32) (x3 : Int32) (x4 : Int32) (M : Mm) (K : Int32 → Mm → Prop) : Prop := (∀ y1 : Int32, y1 = (x3 + (1 : Int32)) → (B61 x1 x2 y1 x4 M))
set_option maxHeartbeats 4000000 in
set_option maxRecDepth 100000 in
theorem w_X12_wishes_94 {p : Program} {l : Launch} {e : Env} {s : State} {m : MethodId} {args : Array Value} {below : List Frame} {meth : Method} {c : Code} {G : fx_G} {K : Int32 → Mm → Prop} {B50 : Int32 → Int32 → Int32 → Int32 → Mm → Prop} {B61 : Int32 → Int32 → Int32 → Int32 → Mm → Prop} (X : fx_C G p s m c args cX12_wishes 5 RX12) (hr : meth.sig.returnType = (some .int)) (hk : meth.locks = false) (hB50 : ∀ (x1 : Int32) (x2 : Int32) (x3 : Int32) (x4 : Int32) (M : Mm) (H : Heap) (locs : List Loc) (ls : Array Slot), B50 x1 x2 x3 x4 M → fx_H G SH M s H locs → lv_has ls 5 [(0, .ref (G.2.2.2 + 159)), (1, .int x1), (2, .int x2), (3, .int x3), (4, .int x4)] → W p l e (fx_rm (3)) s m args below meth c H locs 0 0 (MQ below (va_Qi K (fx_R G SH) (fx_A G)) args s 0 0 (fx_A G)) (F0 m 50 ls [])) (hB61 : ∀ (x1 : Int32) (x2 : Int32) (x3 : Int32) (x4 : Int32) (M : Mm) (H : Heap) (locs : List Loc) (ls : Array Slot), B61 x1 x2 x3 x4 M → fx_H G SH M s H locs → lv_has ls 5 [(0, .ref (G.2.2.2 + 159)), (1, .int x1), (2, .int x2), (3, .int x3), (4, .int x4)] → W p l e (fx_rm (3)) s m args below meth c H locs 0 0 (MQ below (va_Qi K (fx_R G SH) (fx_A G)) args s 0 0 (fx_A G)) (F0 m 61 ls [])) : ∀ (x1 : Int32) (x2 : Int32) (x3 : Int32) (x4 : Int32) (M : Mm) (H : Heap) (locs : List Loc) (ls : Array Slot), T_X12_wishes_94 B50 B61 x1 x2 x3 x4 M K → fx_H G SH M s H locs → lv_has ls 5 [(0, .ref (G.2.2.2 + 159)), (1, .int x1), (2, .int x2), (3, .int x3), (4, .int x4)] → W p l e (fx_rm (3)) s m args below meth c H locs 0 0 (MQ below (va_Qi K (fx_R G SH) (fx_A G)) args s 0 0 (fx_A G)) (F0 m 94 ls []) := by
  obtain ⟨⟨hx, hb, hml, hown, hts⟩, hK, hQ⟩ := id X
  intro x1 x2 x3 x4 M H locs ls hT h hl
  unfold T_X12_wishes_94 at hT
  refine lv_iload_n hx hb dX12_wishes_94 rfl (lv_at hl 3 rfl) ?_
  refine lv_iconst (v := 1) hx hb dX12_wishes_95 (by decide) ?_
  refine lv_iadd hx hb dX12_wishes_96 ?_
  refine lv_topi (fun y1 ey1 => ?_)
  have hT := hT y1 ey1
  refine lv_istore_n (lv' := [(3, .int y1), (0, .ref (G.2.2.2 + 159)), (1, .int x1), (2, .int x2), (4, .int x4)]) hx hb dX12_wishes_97 rfl hl (by decide) rfl (fun ls hl => ?_)
  refine lv_goto (tgt := 61) hx hb dX12_wishes_98 (by decide) ?_
  exact hB61 x1 x2 y1 x4 M _ _ ls hT h (lv_sub hl [1, 2, 3, 0, 4] rfl)
def T_X12_wishes_113 (B50 : Int32 → Int32 → Int32 → Int32 → Mm → Prop) (x1 : Int32) (x2 : Int32) (x3 : Int32) (x4 : Int32) (M : Mm) (K : Int32 → Mm → Prop) : Prop := (∀ y2 : Int32, y2 = x4 + (1 : Int32) → (B50 x1 x2 x3 y2 M))
set_option maxHeartbeats 4000000 in
set_option maxRecDepth 100000 in
theorem w_X12_wishes_113 {p : Program} {l : Launch} {e : Env} {s : State} {m : MethodId} {args : Array Value} {below : List Frame} {meth : Method} {c : Code} {G : fx_G} {K : Int32 → Mm → Prop} {B50 : Int32 → Int32 → Int32 → Int32 → Mm → Prop} (X : fx_C G p s m c args cX12_wishes 5 RX12) (hr : meth.sig.returnType = (some .int)) (hk : meth.locks = false) (hB50 : ∀ (x1 : Int32) (x2 : Int32) (x3 : Int32) (x4 : Int32) (M : Mm) (H : Heap) (locs : List Loc) (ls : Array Slot), B50 x1 x2 x3 x4 M → fx_H G SH M s H locs → lv_has ls 5 [(0, .ref (G.2.2.2 + 159)), (1, .int x1), (2, .int x2), (3, .int x3), (4, .int x4)] → W p l e (fx_rm (3)) s m args below meth c H locs 0 0 (MQ below (va_Qi K (fx_R G SH) (fx_A G)) args s 0 0 (fx_A G)) (F0 m 50 ls [])) : ∀ (x1 : Int32) (x2 : Int32) (x3 : Int32) (x4 : Int32) (M : Mm) (H : Heap) (locs : List Loc) (ls : Array Slot), T_X12_wishes_113 B50 x1 x2 x3 x4 M K → fx_H G SH M s H locs → lv_has ls 5 [(0, .ref (G.2.2.2 + 159)), (1, .int x1), (2, .int x2), (3, .int x3), (4, .int x4)] → W p l e (fx_rm (3)) s m args below meth c H locs 0 0 (MQ below (va_Qi K (fx_R G SH) (fx_A G)) args s 0 0 (fx_A G)) (F0 m 113 ls []) := by
  obtain ⟨⟨hx, hb, hml, hown, hts⟩, hK, hQ⟩ := id X
  intro x1 x2 x3 x4 M H locs ls hT h hl
  unfold T_X12_wishes_113 at hT
  obtain ⟨y2, ey2⟩ : ∃ z : Int32, z = x4 + (1 : Int32) := ⟨_, rfl⟩
  have hT := hT y2 ey2
  refine lv_iinc (v := y2) (lv' := [(4, .int y2), (0, .ref (G.2.2.2 + 159)), (1, .int x1), (2, .int x2), (3, .int x3)]) hx hb dX12_wishes_113 hl (k := 4) rfl (by rw [ey2]; rfl) (by decide) rfl (fun ls hl => ?_)
  refine lv_goto (tgt := 50) hx hb dX12_wishes_116 (by decide) ?_
  exact hB50 x1 x2 x3 y2 M _ _ ls hT h (lv_sub hl [1, 2, 3, 4, 0] rfl)
def T_X12_wishes_61 (B50 : Int32 → Int32 → Int32 → Int32 → Mm → Prop) : Nat → Int32 → Int32 → Int32 → Int32 → Mm → (Int32 → Mm → Prop) → Prop
  | 0, _, _, _, _, _, _ => False
  | n + 1, x1, x2, x3, x4, M, K => (T_X12_canHave x3 x2 M (fun r5 M4 => ((r5 = 0 → (T_X12_wishes_94 B50 (fun x1 x2 x3 x4 M => T_X12_wishes_61 B50 n x1 x2 x3 x4 M K) x1 x2 x3 x4 M4 K)) ∧ (¬ r5 = 0 → (T_X12_wishedBy x4 x3 x2 M4 (fun r9 M8 => (vp_in (((128 : Int32) * x4) + x2) 1152 ∧ ((r9 = (M8 192 ((((128 : Int32) * x4) + x2)).toNatClampNeg) → ((x3 ≤ 0 → (T_X12_wishes_113 B50 x1 x2 x3 x4 M8 K)) ∧ (¬ x3 ≤ 0 → (∀ y13 : Int32, y13 = (x2 ||| ((1 : Int32) <<< ((x3 - (1 : Int32)) &&& 31))) → (T_X12_wishes_113 B50 x1 y13 x3 x4 M8 K))))) ∧ (¬ r9 = (M8 192 ((((128 : Int32) * x4) + x2)).toNatClampNeg) → (T_X12_wishes_94 B50 (fun x1 x2 x3 x4 M => T_X12_wishes_61 B50 n x1 x2 x3 x4 M K) x1 x2 x3 x4 M8 K))))))))))
set_option maxHeartbeats 4000000 in
set_option maxRecDepth 100000 in
theorem w_X12_wishes_61 {p : Program} {l : Launch} {e : Env} {s : State} {m : MethodId} {args : Array Value} {below : List Frame} {meth : Method} {c : Code} {G : fx_G} {K : Int32 → Mm → Prop} {B50 : Int32 → Int32 → Int32 → Int32 → Mm → Prop} (X : fx_C G p s m c args cX12_wishes 5 RX12) (hr : meth.sig.returnType = (some .int)) (hk : meth.locks = false) (hB50 : ∀ (x1 : Int32) (x2 : Int32) (x3 : Int32) (x4 : Int32) (M : Mm) (H : Heap) (locs : List Loc) (ls : Array Slot), B50 x1 x2 x3 x4 M → fx_H G SH M s H locs → lv_has ls 5 [(0, .ref (G.2.2.2 + 159)), (1, .int x1), (2, .int x2), (3, .int x3), (4, .int x4)] → W p l e (fx_rm (3)) s m args below meth c H locs 0 0 (MQ below (va_Qi K (fx_R G SH) (fx_A G)) args s 0 0 (fx_A G)) (F0 m 50 ls [])) : ∀ (n : Nat) (x1 : Int32) (x2 : Int32) (x3 : Int32) (x4 : Int32) (M : Mm) (H : Heap) (locs : List Loc) (ls : Array Slot), T_X12_wishes_61 B50 n x1 x2 x3 x4 M K → fx_H G SH M s H locs → lv_has ls 5 [(0, .ref (G.2.2.2 + 159)), (1, .int x1), (2, .int x2), (3, .int x3), (4, .int x4)] → W p l e (fx_rm (3)) s m args below meth c H locs 0 0 (MQ below (va_Qi K (fx_R G SH) (fx_A G)) args s 0 0 (fx_A G)) (F0 m 61 ls []) := by
  obtain ⟨⟨hx, hb, hml, hown, hts⟩, hK, hQ⟩ := id X
  intro n
  induction n with
  | zero =>
    intro x1 x2 x3 x4 M H locs ls hT
    exact hT.elim
  | succ n ih =>
    intro x1 x2 x3 x4 M H locs ls hT h hl
    rw [T_X12_wishes_61] at hT
    refine lv_aload_n hx hb dX12_wishes_61 rfl (lv_at hl 0 rfl) ?_
    refine lv_iload_n hx hb dX12_wishes_62 rfl (lv_at hl 3 rfl) ?_
    refine lv_iload_n hx hb dX12_wishes_63 rfl (lv_at hl 2 rfl) ?_
    refine fx_vi X h ym_X12_canHave yi_X12_canHave ys_X12_canHave (fx_s9 (List.mem_of_getElem? (i := 22) rfl) rfl) sh_159 rfl (c_X12_canHave l G hT) (As := [.int x3, .int x2]) (rest := []) rfl rfl ⟨Nat.le_of_ble_eq_true rfl, Nat.le_of_ble_eq_true rfl⟩ ⟨Nat.le_refl _, Nat.le_refl _⟩ hl.1 (Nat.le_of_ble_eq_true rfl) dX12_wishes_64 (fun r5 M4 H locs hT h => ?_)
    refine lv_if_eq (tgt := 94) hx hb dX12_wishes_67 (by decide) (fun hc6 => ?_) (fun hc6 => ?_)
    · have hT := hT.1 hc6
      exact w_X12_wishes_94 X hr hk (B50 := B50) hB50 (B61 := (fun x1 x2 x3 x4 M => T_X12_wishes_61 B50 n x1 x2 x3 x4 M K)) ih x1 x2 x3 x4 M4 _ _ ls hT h (lv_sub hl [0, 1, 2, 3, 4] rfl)
    · have hT := hT.2 hc6
      refine lv_aload_n hx hb dX12_wishes_70 rfl (lv_at hl 0 rfl) ?_
      refine lv_iload hx hb dX12_wishes_71 (lv_at hl 4 rfl) ?_
      refine lv_iload_n hx hb dX12_wishes_73 rfl (lv_at hl 3 rfl) ?_
      refine lv_iload_n hx hb dX12_wishes_74 rfl (lv_at hl 2 rfl) ?_
      refine fx_vi X h ym_X12_wishedBy yi_X12_wishedBy ys_X12_wishedBy (fx_s9 (List.mem_of_getElem? (i := 26) rfl) rfl) sh_159 rfl (c_X12_wishedBy l G hT) (As := [.int x4, .int x3, .int x2]) (rest := []) rfl rfl ⟨Nat.le_of_ble_eq_true rfl, Nat.le_of_ble_eq_true rfl⟩ ⟨Nat.le_refl _, Nat.le_refl _⟩ hl.1 (Nat.le_of_ble_eq_true rfl) dX12_wishes_75 (fun r9 M8 H locs hT h => ?_)
      refine lv_aload_n hx hb dX12_wishes_78 rfl (lv_at hl 0 rfl) ?_
      refine fx_getR X h (k := 159) (j := 58) (r := 192) sh_159 rfl fl_RX12_110 dX12_wishes_79 ?_
      refine lv_sipush (v := 128) hx hb dX12_wishes_82 (by decide) ?_
      refine lv_iload hx hb dX12_wishes_85 (lv_at hl 4 rfl) ?_
      refine lv_imul hx hb dX12_wishes_87 ?_
      refine lv_iload_n hx hb dX12_wishes_88 rfl (lv_at hl 2 rfl) ?_
      refine lv_iadd hx hb dX12_wishes_89 ?_
      obtain ⟨hi10, hT⟩ := hT
      refine fx_iald X h (k := 192) sh_192 hi10 dX12_wishes_90 ?_
      refine lv_icmp_eq (tgt := 101) hx hb dX12_wishes_91 (by decide) (fun hc11 => ?_) (fun hc11 => ?_)
      · have hT := hT.1 hc11
        refine lv_iload_n hx hb dX12_wishes_101 rfl (lv_at hl 3 rfl) ?_
        refine lv_if_le (tgt := 113) hx hb dX12_wishes_102 (by decide) (fun hc12 => ?_) (fun hc12 => ?_)
        · have hT := hT.1 hc12
          exact w_X12_wishes_113 X hr hk (B50 := B50) hB50 x1 x2 x3 x4 M8 _ _ ls hT h (lv_sub hl [0, 1, 2, 3, 4] rfl)
        · have hT := hT.2 hc12
          refine lv_iload_n hx hb dX12_wishes_105 rfl (lv_at hl 2 rfl) ?_
          refine lv_iconst (v := 1) hx hb dX12_wishes_106 (by decide) ?_
          refine lv_iload_n hx hb dX12_wishes_107 rfl (lv_at hl 3 rfl) ?_
          refine lv_iconst (v := 1) hx hb dX12_wishes_108 (by decide) ?_
          refine lv_isub hx hb dX12_wishes_109 ?_
          refine lv_ishl hx hb dX12_wishes_110 ?_
          refine lv_ior hx hb dX12_wishes_111 ?_
          refine lv_topi (fun y13 ey13 => ?_)
          have hT := hT y13 ey13
          refine lv_istore_n (lv' := [(2, .int y13), (0, .ref (G.2.2.2 + 159)), (1, .int x1), (3, .int x3), (4, .int x4)]) hx hb dX12_wishes_112 rfl hl (by decide) rfl (fun ls hl => ?_)
          exact w_X12_wishes_113 X hr hk (B50 := B50) hB50 x1 y13 x3 x4 M8 _ _ ls hT h (lv_sub hl [1, 2, 0, 3, 4] rfl)
      · have hT := hT.2 hc11
        exact w_X12_wishes_94 X hr hk (B50 := B50) hB50 (B61 := (fun x1 x2 x3 x4 M => T_X12_wishes_61 B50 n x1 x2 x3 x4 M K)) ih x1 x2 x3 x4 M8 _ _ ls hT h (lv_sub hl [0, 1, 2, 3, 4] rfl)
def T_X12_wishes_50 : Nat → Int32 → Int32 → Int32 → Int32 → Mm → (Int32 → Mm → Prop) → Prop
  | 0, _, _, _, _, _, _ => False
  | n + 1, x1, x2, x3, x4, M, K => (((x1 - (10 : Int32)) < x4 → (K x3 M)) ∧ (¬ (x1 - (10 : Int32)) < x4 → (T_X12_wishes_61 (fun x1 x2 x3 x4 M => T_X12_wishes_50 n x1 x2 x3 x4 M K) 5000 x1 x2 (0 : Int32) x4 M K)))
set_option maxHeartbeats 4000000 in
set_option maxRecDepth 100000 in
theorem w_X12_wishes_50 {p : Program} {l : Launch} {e : Env} {s : State} {m : MethodId} {args : Array Value} {below : List Frame} {meth : Method} {c : Code} {G : fx_G} {K : Int32 → Mm → Prop} (X : fx_C G p s m c args cX12_wishes 5 RX12) (hr : meth.sig.returnType = (some .int)) (hk : meth.locks = false) : ∀ (n : Nat) (x1 : Int32) (x2 : Int32) (x3 : Int32) (x4 : Int32) (M : Mm) (H : Heap) (locs : List Loc) (ls : Array Slot), T_X12_wishes_50 n x1 x2 x3 x4 M K → fx_H G SH M s H locs → lv_has ls 5 [(0, .ref (G.2.2.2 + 159)), (1, .int x1), (2, .int x2), (3, .int x3), (4, .int x4)] → W p l e (fx_rm (3)) s m args below meth c H locs 0 0 (MQ below (va_Qi K (fx_R G SH) (fx_A G)) args s 0 0 (fx_A G)) (F0 m 50 ls []) := by
  obtain ⟨⟨hx, hb, hml, hown, hts⟩, hK, hQ⟩ := id X
  intro n
  induction n with
  | zero =>
    intro x1 x2 x3 x4 M H locs ls hT
    exact hT.elim
  | succ n ih =>
    intro x1 x2 x3 x4 M H locs ls hT h hl
    rw [T_X12_wishes_50] at hT
    refine lv_iload hx hb dX12_wishes_50 (lv_at hl 4 rfl) ?_
    refine lv_iload_n hx hb dX12_wishes_52 rfl (lv_at hl 1 rfl) ?_
    refine lv_bipush (v := 10) hx hb dX12_wishes_53 (by decide) ?_
    refine lv_isub hx hb dX12_wishes_55 ?_
    refine lv_icmp_gt (tgt := 119) hx hb dX12_wishes_56 (by decide) (fun hc14 => ?_) (fun hc14 => ?_)
    · have hT := hT.1 hc14
      refine lv_iload_n hx hb dX12_wishes_119 rfl (lv_at hl 3 rfl) ?_
      exact fx_iret X hr hk h hT dX12_wishes_120
    · have hT := hT.2 hc14
      refine lv_iconst (v := 0) hx hb dX12_wishes_59 (by decide) ?_
      refine lv_istore_n (lv' := [(3, .int (0 : Int32)), (0, .ref (G.2.2.2 + 159)), (1, .int x1), (2, .int x2), (4, .int x4)]) hx hb dX12_wishes_60 rfl hl (by decide) rfl (fun ls hl => ?_)
      exact w_X12_wishes_61 X hr hk (B50 := (fun x1 x2 x3 x4 M => T_X12_wishes_50 n x1 x2 x3 x4 M K)) ih 5000 x1 x2 (0 : Int32) x4 M _ _ ls hT h (lv_sub hl [1, 2, 3, 0, 4] rfl)
def T_X12_wishes_28 (x1 : Int32) (M : Mm) (K : Int32 → Mm → Prop) : Prop := (T_X12_findsWishes M (fun M16 => ((x1 = 0 → (K (M16 192 0) M16)) ∧ (¬ x1 = 0 → (T_X12_wishes_50 5000 x1 (0 : Int32) (0 : Int32) (0 : Int32) M16 K)))))
set_option maxHeartbeats 4000000 in
set_option maxRecDepth 100000 in
theorem w_X12_wishes_28 {p : Program} {l : Launch} {e : Env} {s : State} {m : MethodId} {args : Array Value} {below : List Frame} {meth : Method} {c : Code} {G : fx_G} {K : Int32 → Mm → Prop} (X : fx_C G p s m c args cX12_wishes 5 RX12) (hr : meth.sig.returnType = (some .int)) (hk : meth.locks = false) : ∀ (x1 : Int32) (M : Mm) (H : Heap) (locs : List Loc) (ls : Array Slot), T_X12_wishes_28 x1 M K → fx_H G SH M s H locs → lv_has ls 5 [(0, .ref (G.2.2.2 + 159)), (1, .int x1)] → W p l e (fx_rm (3)) s m args below meth c H locs 0 0 (MQ below (va_Qi K (fx_R G SH) (fx_A G)) args s 0 0 (fx_A G)) (F0 m 28 ls []) := by
  obtain ⟨⟨hx, hb, hml, hown, hts⟩, hK, hQ⟩ := id X
  intro x1 M H locs ls hT h hl
  unfold T_X12_wishes_28 at hT
  refine lv_aload_n hx hb dX12_wishes_28 rfl (lv_at hl 0 rfl) ?_
  refine fx_vv X h ym_X12_findsWishes yi_X12_findsWishes ys_X12_findsWishes (fx_s9 (List.mem_of_getElem? (i := 18) rfl) rfl) sh_159 rfl (c_X12_findsWishes l G hT) (As := []) (rest := []) rfl rfl ⟨Nat.le_of_ble_eq_true rfl, Nat.le_of_ble_eq_true rfl⟩ ⟨Nat.le_refl _, Nat.le_refl _⟩ hl.1 (Nat.le_of_ble_eq_true rfl) dX12_wishes_29 (fun M16 H locs hT h => ?_)
  refine lv_iload_n hx hb dX12_wishes_32 rfl (lv_at hl 1 rfl) ?_
  refine lv_if_ne (tgt := 43) hx hb dX12_wishes_33 (by decide) (fun hc17 => ?_) (fun hc17 => ?_)
  · have hT := hT.2 hc17
    refine lv_iconst (v := 0) hx hb dX12_wishes_43 (by decide) ?_
    refine lv_istore_n (lv' := [(2, .int (0 : Int32)), (0, .ref (G.2.2.2 + 159)), (1, .int x1)]) hx hb dX12_wishes_44 rfl hl (by decide) rfl (fun ls hl => ?_)
    refine lv_iconst (v := 0) hx hb dX12_wishes_45 (by decide) ?_
    refine lv_istore_n (lv' := [(3, .int (0 : Int32)), (2, .int (0 : Int32)), (0, .ref (G.2.2.2 + 159)), (1, .int x1)]) hx hb dX12_wishes_46 rfl hl (by decide) rfl (fun ls hl => ?_)
    refine lv_iconst (v := 0) hx hb dX12_wishes_47 (by decide) ?_
    refine lv_istore (lv' := [(4, .int (0 : Int32)), (3, .int (0 : Int32)), (2, .int (0 : Int32)), (0, .ref (G.2.2.2 + 159)), (1, .int x1)]) hx hb dX12_wishes_48 hl (by decide) rfl (fun ls hl => ?_)
    exact w_X12_wishes_50 X hr hk 5000 x1 (0 : Int32) (0 : Int32) (0 : Int32) M16 _ _ ls hT h (lv_sub hl [3, 4, 2, 1, 0] rfl)
  · have hT := hT.1 hc17
    refine lv_aload_n hx hb dX12_wishes_36 rfl (lv_at hl 0 rfl) ?_
    refine fx_getR X h (k := 159) (j := 58) (r := 192) sh_159 rfl fl_RX12_110 dX12_wishes_37 ?_
    refine lv_iconst (v := 0) hx hb dX12_wishes_40 (by decide) ?_
    refine fx_iald X h (k := 192) sh_192 (by unfold vp_in; decide) dX12_wishes_41 ?_
    rw [show ((0 : Int32)).toNatClampNeg = 0 by decide]
    exact fx_iret X hr hk h hT dX12_wishes_42
def T_X12_wishes (x1 : Int32) (M : Mm) (K : Int32 → Mm → Prop) : Prop := (∀ M18 : Mm, M18 = m_up M 159 0 (0 : Int32) → ((x1 = 0 → (T_X12_wishes_28 x1 M18 K)) ∧ (¬ x1 = 0 → (T_X12_isIn x1 (10 : Int32) ((9 : Int32) + (M18 159 7)) M18 (fun r22 M21 => ((r22 = 0 → (K (-1 : Int32) M21)) ∧ (¬ r22 = 0 → (T_X12_wishes_28 x1 M21 K))))))))
set_option maxHeartbeats 4000000 in
set_option maxRecDepth 100000 in
theorem c_X12_wishes (l : Launch) (G : fx_G) {x1 : Int32} {M : Mm} {K : Int32 → Mm → Prop} (hT : T_X12_wishes x1 M K) : Met l yX12_wishes (fx_ws yX12_wishes cX12_wishes 5 (some .int)) (fx_rm (3)) (va_Pc [.ref (G.2.2.2 + 159), .int x1] (fx_P G SH M)) (va_Qi K (fx_R G SH) (fx_A G)) 0 0 (fx_A G) := by
  refine fx_met (own := RX12) (by decide +kernel) rfl (Nat.le_of_ble_eq_true rfl) (fun p e s m below meth c X hr hk h ls hl => ?_)
  obtain ⟨⟨hx, hb, hml, hown, hts⟩, hK, hQ⟩ := id X
  have hl : lv_has ls 5 [(0, .ref (G.2.2.2 + 159)), (1, .int x1)] := hl
  unfold T_X12_wishes at hT
  refine lv_aload_n hx hb dX12_wishes_0 rfl (lv_at hl 0 rfl) ?_
  refine lv_iconst (v := 0) hx hb dX12_wishes_1 (by decide) ?_
  refine fx_putI X h (k := 159) (j := 0) sh_159 rfl fl_RX12_134 dX12_wishes_2 (fun H locs h => ?_)
  obtain ⟨M18, eM18⟩ : ∃ z : Mm, z = m_up M 159 0 (0 : Int32) := ⟨_, rfl⟩
  have hT := hT M18 eM18
  rw [← eM18] at h
  refine lv_iload_n hx hb dX12_wishes_5 rfl (lv_at hl 1 rfl) ?_
  refine lv_if_eq (tgt := 28) hx hb dX12_wishes_6 (by decide) (fun hc19 => ?_) (fun hc19 => ?_)
  · have hT := hT.1 hc19
    exact w_X12_wishes_28 X hr hk x1 M18 _ _ ls hT h (lv_sub hl [0, 1] rfl)
  · have hT := hT.2 hc19
    refine lv_aload_n hx hb dX12_wishes_9 rfl (lv_at hl 0 rfl) ?_
    refine lv_iload_n hx hb dX12_wishes_10 rfl (lv_at hl 1 rfl) ?_
    refine lv_bipush (v := 10) hx hb dX12_wishes_11 (by decide) ?_
    refine lv_bipush (v := 9) hx hb dX12_wishes_13 (by decide) ?_
    refine lv_aload_n hx hb dX12_wishes_15 rfl (lv_at hl 0 rfl) ?_
    refine fx_getI X h (k := 159) (j := 7) sh_159 rfl fl_RX12_150 dX12_wishes_16 ?_
    refine lv_iadd hx hb dX12_wishes_19 ?_
    refine fx_vi X h ym_X12_isIn yi_X12_isIn ys_X12_isIn (fx_s7 (List.mem_of_getElem? (i := 77) rfl) rfl) sh_159 rfl (c_X12_isIn l G hT) (As := [.int x1, .int (10 : Int32), .int ((9 : Int32) + (M18 159 7))]) (rest := []) rfl rfl ⟨Nat.le_of_ble_eq_true rfl, Nat.le_of_ble_eq_true rfl⟩ ⟨Nat.le_refl _, Nat.le_refl _⟩ hl.1 (Nat.le_of_ble_eq_true rfl) dX12_wishes_20 (fun r22 M21 H locs hT h => ?_)
    refine lv_if_ne (tgt := 28) hx hb dX12_wishes_23 (by decide) (fun hc23 => ?_) (fun hc23 => ?_)
    · have hT := hT.2 hc23
      exact w_X12_wishes_28 X hr hk x1 M21 _ _ ls hT h (lv_sub hl [0, 1] rfl)
    · have hT := hT.1 hc23
      refine lv_iconst (v := -1) hx hb dX12_wishes_26 (by decide) ?_
      exact fx_iret X hr hk h hT dX12_wishes_27
/-! MockParcelsModel.put(II)I -/
theorem dX12_put_0 : decode cX12_put 0 = .ok (.aload_n 0, 1) := by decide +kernel
theorem dX12_put_1 : decode cX12_put 1 = .ok (.iconst 0, 1) := by decide +kernel
theorem dX12_put_2 : decode cX12_put 2 = .ok (.putfield 134, 3) := by decide +kernel
theorem dX12_put_5 : decode cX12_put 5 = .ok (.iload_n 1, 1) := by decide +kernel
theorem dX12_put_6 : decode cX12_put 6 = .ok (.iconst (-1), 1) := by decide +kernel
theorem dX12_put_7 : decode cX12_put 7 = .ok (.if_icmp .ne 10, 3) := by decide +kernel
theorem dX12_put_10 : decode cX12_put 10 = .ok (.aload_n 0, 1) := by decide +kernel
theorem dX12_put_11 : decode cX12_put 11 = .ok (.iconst 0, 1) := by decide +kernel
theorem dX12_put_12 : decode cX12_put 12 = .ok (.putfield 474, 3) := by decide +kernel
theorem dX12_put_15 : decode cX12_put 15 = .ok (.iconst 0, 1) := by decide +kernel
theorem dX12_put_16 : decode cX12_put 16 = .ok (.ireturn, 1) := by decide +kernel
theorem dX12_put_17 : decode cX12_put 17 = .ok (.aload_n 0, 1) := by decide +kernel
theorem dX12_put_18 : decode cX12_put 18 = .ok (.iload_n 1, 1) := by decide +kernel
theorem dX12_put_19 : decode cX12_put 19 = .ok (.iconst 0, 1) := by decide +kernel
theorem dX12_put_20 : decode cX12_put 20 = .ok (.bipush 99, 2) := by decide +kernel
theorem dX12_put_22 : decode cX12_put 22 = .ok (.invokevirtual 157, 3) := by decide +kernel
theorem dX12_put_25 : decode cX12_put 25 = .ok (.ifCond .eq 23, 3) := by decide +kernel
theorem dX12_put_28 : decode cX12_put 28 = .ok (.aload_n 0, 1) := by decide +kernel
theorem dX12_put_29 : decode cX12_put 29 = .ok (.iload_n 2, 1) := by decide +kernel
theorem dX12_put_30 : decode cX12_put 30 = .ok (.iconst 0, 1) := by decide +kernel
theorem dX12_put_31 : decode cX12_put 31 = .ok (.bipush 9, 2) := by decide +kernel
theorem dX12_put_33 : decode cX12_put 33 = .ok (.invokevirtual 157, 3) := by decide +kernel
theorem dX12_put_36 : decode cX12_put 36 = .ok (.ifCond .eq 12, 3) := by decide +kernel
theorem dX12_put_39 : decode cX12_put 39 = .ok (.aload_n 0, 1) := by decide +kernel
theorem dX12_put_40 : decode cX12_put 40 = .ok (.getfield 474, 3) := by decide +kernel
theorem dX12_put_43 : decode cX12_put 43 = .ok (.bipush 7, 2) := by decide +kernel
theorem dX12_put_45 : decode cX12_put 45 = .ok (.if_icmp .ne 5, 3) := by decide +kernel
theorem dX12_put_48 : decode cX12_put 48 = .ok (.iconst (-1), 1) := by decide +kernel
theorem dX12_put_49 : decode cX12_put 49 = .ok (.ireturn, 1) := by decide +kernel
theorem dX12_put_50 : decode cX12_put 50 = .ok (.aload_n 0, 1) := by decide +kernel
theorem dX12_put_51 : decode cX12_put 51 = .ok (.getfield 113, 3) := by decide +kernel
theorem dX12_put_54 : decode cX12_put 54 = .ok (.aload_n 0, 1) := by decide +kernel
theorem dX12_put_55 : decode cX12_put 55 = .ok (.getfield 474, 3) := by decide +kernel
theorem dX12_put_58 : decode cX12_put 58 = .ok (.iload_n 1, 1) := by decide +kernel
theorem dX12_put_59 : decode cX12_put 59 = .ok (.iastore, 1) := by decide +kernel
theorem dX12_put_60 : decode cX12_put 60 = .ok (.aload_n 0, 1) := by decide +kernel
theorem dX12_put_61 : decode cX12_put 61 = .ok (.getfield 116, 3) := by decide +kernel
theorem dX12_put_64 : decode cX12_put 64 = .ok (.aload_n 0, 1) := by decide +kernel
theorem dX12_put_65 : decode cX12_put 65 = .ok (.getfield 474, 3) := by decide +kernel
theorem dX12_put_68 : decode cX12_put 68 = .ok (.iload_n 2, 1) := by decide +kernel
theorem dX12_put_69 : decode cX12_put 69 = .ok (.iastore, 1) := by decide +kernel
theorem dX12_put_70 : decode cX12_put 70 = .ok (.aload_n 0, 1) := by decide +kernel
theorem dX12_put_71 : decode cX12_put 71 = .ok (.aload_n 0, 1) := by decide +kernel
theorem dX12_put_72 : decode cX12_put 72 = .ok (.getfield 474, 3) := by decide +kernel
theorem dX12_put_75 : decode cX12_put 75 = .ok (.iconst 1, 1) := by decide +kernel
theorem dX12_put_76 : decode cX12_put 76 = .ok (.iadd, 1) := by decide +kernel
theorem dX12_put_77 : decode cX12_put 77 = .ok (.putfield 474, 3) := by decide +kernel
theorem dX12_put_80 : decode cX12_put 80 = .ok (.aload_n 0, 1) := by decide +kernel
theorem dX12_put_81 : decode cX12_put 81 = .ok (.getfield 474, 3) := by decide +kernel
theorem dX12_put_84 : decode cX12_put 84 = .ok (.ireturn, 1) := by decide +kernel
def T_X12_put (x1 : Int32) (x2 : Int32) (M : Mm) (K : Int32 → Mm → Prop) : Prop := (∀ M1 : Mm, M1 = m_up M 159 0 (0 : Int32) → ((x1 = (-1 : Int32) → (∀ M17 : Mm, M17 = m_up M1 159 59 (0 : Int32) → (K (0 : Int32) M17))) ∧ (¬ x1 = (-1 : Int32) → (T_X12_isIn x1 (0 : Int32) (99 : Int32) M1 (fun r5 M4 => ((r5 = 0 → (K (-1 : Int32) M4)) ∧ (¬ r5 = 0 → (T_X12_isIn x2 (0 : Int32) (9 : Int32) M4 (fun r9 M8 => ((r9 = 0 → (K (-1 : Int32) M8)) ∧ (¬ r9 = 0 → (((M8 159 59) = (7 : Int32) → (K (-1 : Int32) M8)) ∧ (¬ (M8 159 59) = (7 : Int32) → (vp_in (M8 159 59) 7 ∧ (∀ M12 : Mm, M12 = m_up M8 193 ((M8 159 59)).toNatClampNeg x1 → (vp_in (M12 159 59) 7 ∧ (∀ M14 : Mm, M14 = m_up M12 194 ((M12 159 59)).toNatClampNeg x2 → (∀ M16 : Mm, M16 = m_up M14 159 59 ((M14 159 59) + (1 : Int32)) → (K (M16 159 59) M16)))))))))))))))))))
set_option maxHeartbeats 4000000 in
set_option maxRecDepth 100000 in
theorem c_X12_put (l : Launch) (G : fx_G) {x1 : Int32} {x2 : Int32} {M : Mm} {K : Int32 → Mm → Prop} (hT : T_X12_put x1 x2 M K) : Met l yX12_put (fx_ws yX12_put cX12_put 3 (some .int)) (fx_rm (1)) (va_Pc [.ref (G.2.2.2 + 159), .int x1, .int x2] (fx_P G SH M)) (va_Qi K (fx_R G SH) (fx_A G)) 0 0 (fx_A G) := by
  refine fx_met (own := RX12) (by decide +kernel) rfl (Nat.le_of_ble_eq_true rfl) (fun p e s m below meth c X hr hk h ls hl => ?_)
  obtain ⟨⟨hx, hb, hml, hown, hts⟩, hK, hQ⟩ := id X
  have hl : lv_has ls 3 [(0, .ref (G.2.2.2 + 159)), (1, .int x1), (2, .int x2)] := hl
  unfold T_X12_put at hT
  refine lv_aload_n hx hb dX12_put_0 rfl (lv_at hl 0 rfl) ?_
  refine lv_iconst (v := 0) hx hb dX12_put_1 (by decide) ?_
  refine fx_putI X h (k := 159) (j := 0) sh_159 rfl fl_RX12_134 dX12_put_2 (fun H locs h => ?_)
  obtain ⟨M1, eM1⟩ : ∃ z : Mm, z = m_up M 159 0 (0 : Int32) := ⟨_, rfl⟩
  have hT := hT M1 eM1
  rw [← eM1] at h
  refine lv_iload_n hx hb dX12_put_5 rfl (lv_at hl 1 rfl) ?_
  refine lv_iconst (v := -1) hx hb dX12_put_6 (by decide) ?_
  refine lv_icmp_ne (tgt := 17) hx hb dX12_put_7 (by decide) (fun hc2 => ?_) (fun hc2 => ?_)
  · have hT := hT.2 hc2
    refine lv_aload_n hx hb dX12_put_17 rfl (lv_at hl 0 rfl) ?_
    refine lv_iload_n hx hb dX12_put_18 rfl (lv_at hl 1 rfl) ?_
    refine lv_iconst (v := 0) hx hb dX12_put_19 (by decide) ?_
    refine lv_bipush (v := 99) hx hb dX12_put_20 (by decide) ?_
    refine fx_vi X h ym_X12_isIn yi_X12_isIn ys_X12_isIn (fx_s7 (List.mem_of_getElem? (i := 77) rfl) rfl) sh_159 rfl (c_X12_isIn l G hT) (As := [.int x1, .int (0 : Int32), .int (99 : Int32)]) (rest := []) rfl rfl ⟨Nat.le_of_ble_eq_true rfl, Nat.le_of_ble_eq_true rfl⟩ ⟨Nat.le_refl _, Nat.le_refl _⟩ hl.1 (Nat.le_of_ble_eq_true rfl) dX12_put_22 (fun r5 M4 H locs hT h => ?_)
    refine lv_if_eq (tgt := 48) hx hb dX12_put_25 (by decide) (fun hc6 => ?_) (fun hc6 => ?_)
    · have hT := hT.1 hc6
      refine lv_iconst (v := -1) hx hb dX12_put_48 (by decide) ?_
      exact fx_iret X hr hk h hT dX12_put_49
    · have hT := hT.2 hc6
      refine lv_aload_n hx hb dX12_put_28 rfl (lv_at hl 0 rfl) ?_
      refine lv_iload_n hx hb dX12_put_29 rfl (lv_at hl 2 rfl) ?_
      refine lv_iconst (v := 0) hx hb dX12_put_30 (by decide) ?_
      refine lv_bipush (v := 9) hx hb dX12_put_31 (by decide) ?_
      refine fx_vi X h ym_X12_isIn yi_X12_isIn ys_X12_isIn (fx_s7 (List.mem_of_getElem? (i := 77) rfl) rfl) sh_159 rfl (c_X12_isIn l G hT) (As := [.int x2, .int (0 : Int32), .int (9 : Int32)]) (rest := []) rfl rfl ⟨Nat.le_of_ble_eq_true rfl, Nat.le_of_ble_eq_true rfl⟩ ⟨Nat.le_refl _, Nat.le_refl _⟩ hl.1 (Nat.le_of_ble_eq_true rfl) dX12_put_33 (fun r9 M8 H locs hT h => ?_)
      refine lv_if_eq (tgt := 48) hx hb dX12_put_36 (by decide) (fun hc10 => ?_) (fun hc10 => ?_)
      · have hT := hT.1 hc10
        refine lv_iconst (v := -1) hx hb dX12_put_48 (by decide) ?_
        exact fx_iret X hr hk h hT dX12_put_49
      · have hT := hT.2 hc10
        refine lv_aload_n hx hb dX12_put_39 rfl (lv_at hl 0 rfl) ?_
        refine fx_getI X h (k := 159) (j := 59) sh_159 rfl fl_RX12_474 dX12_put_40 ?_
        refine lv_bipush (v := 7) hx hb dX12_put_43 (by decide) ?_
        refine lv_icmp_ne (tgt := 50) hx hb dX12_put_45 (by decide) (fun hc11 => ?_) (fun hc11 => ?_)
        · have hT := hT.2 hc11
          refine lv_aload_n hx hb dX12_put_50 rfl (lv_at hl 0 rfl) ?_
          refine fx_getR X h (k := 159) (j := 60) (r := 193) sh_159 rfl fl_RX12_113 dX12_put_51 ?_
          refine lv_aload_n hx hb dX12_put_54 rfl (lv_at hl 0 rfl) ?_
          refine fx_getI X h (k := 159) (j := 59) sh_159 rfl fl_RX12_474 dX12_put_55 ?_
          refine lv_iload_n hx hb dX12_put_58 rfl (lv_at hl 1 rfl) ?_
          obtain ⟨hi13, hT⟩ := hT
          refine fx_iast X h (k := 193) sh_193 hi13 dX12_put_59 (fun H locs h => ?_)
          obtain ⟨M12, eM12⟩ : ∃ z : Mm, z = m_up M8 193 ((M8 159 59)).toNatClampNeg x1 := ⟨_, rfl⟩
          have hT := hT M12 eM12
          rw [← eM12] at h
          refine lv_aload_n hx hb dX12_put_60 rfl (lv_at hl 0 rfl) ?_
          refine fx_getR X h (k := 159) (j := 61) (r := 194) sh_159 rfl fl_RX12_116 dX12_put_61 ?_
          refine lv_aload_n hx hb dX12_put_64 rfl (lv_at hl 0 rfl) ?_
          refine fx_getI X h (k := 159) (j := 59) sh_159 rfl fl_RX12_474 dX12_put_65 ?_
          refine lv_iload_n hx hb dX12_put_68 rfl (lv_at hl 2 rfl) ?_
          obtain ⟨hi15, hT⟩ := hT
          refine fx_iast X h (k := 194) sh_194 hi15 dX12_put_69 (fun H locs h => ?_)
          obtain ⟨M14, eM14⟩ : ∃ z : Mm, z = m_up M12 194 ((M12 159 59)).toNatClampNeg x2 := ⟨_, rfl⟩
          have hT := hT M14 eM14
          rw [← eM14] at h
          refine lv_aload_n hx hb dX12_put_70 rfl (lv_at hl 0 rfl) ?_
          refine lv_aload_n hx hb dX12_put_71 rfl (lv_at hl 0 rfl) ?_
          refine fx_getI X h (k := 159) (j := 59) sh_159 rfl fl_RX12_474 dX12_put_72 ?_
          refine lv_iconst (v := 1) hx hb dX12_put_75 (by decide) ?_
          refine lv_iadd hx hb dX12_put_76 ?_
          refine fx_putI X h (k := 159) (j := 59) sh_159 rfl fl_RX12_474 dX12_put_77 (fun H locs h => ?_)
          obtain ⟨M16, eM16⟩ : ∃ z : Mm, z = m_up M14 159 59 ((M14 159 59) + (1 : Int32)) := ⟨_, rfl⟩
          have hT := hT M16 eM16
          rw [← eM16] at h
          refine lv_aload_n hx hb dX12_put_80 rfl (lv_at hl 0 rfl) ?_
          refine fx_getI X h (k := 159) (j := 59) sh_159 rfl fl_RX12_474 dX12_put_81 ?_
          exact fx_iret X hr hk h hT dX12_put_84
        · have hT := hT.1 hc11
          refine lv_iconst (v := -1) hx hb dX12_put_48 (by decide) ?_
          exact fx_iret X hr hk h hT dX12_put_49
  · have hT := hT.1 hc2
    refine lv_aload_n hx hb dX12_put_10 rfl (lv_at hl 0 rfl) ?_
    refine lv_iconst (v := 0) hx hb dX12_put_11 (by decide) ?_
    refine fx_putI X h (k := 159) (j := 59) sh_159 rfl fl_RX12_474 dX12_put_12 (fun H locs h => ?_)
    obtain ⟨M17, eM17⟩ : ∃ z : Mm, z = m_up M1 159 59 (0 : Int32) := ⟨_, rfl⟩
    have hT := hT M17 eM17
    rw [← eM17] at h
    refine lv_iconst (v := 0) hx hb dX12_put_15 (by decide) ?_
    exact fx_iret X hr hk h hT dX12_put_16
/-! MockParcelsModel.canPut(I)Z -/
theorem dX12_canPut_0 : decode cX12_canPut 0 = .ok (.iconst 0, 1) := by decide +kernel
theorem dX12_canPut_1 : decode cX12_canPut 1 = .ok (.istore_n 2, 1) := by decide +kernel
theorem dX12_canPut_2 : decode cX12_canPut 2 = .ok (.iload_n 2, 1) := by decide +kernel
theorem dX12_canPut_3 : decode cX12_canPut 3 = .ok (.bipush 10, 2) := by decide +kernel
theorem dX12_canPut_5 : decode cX12_canPut 5 = .ok (.if_icmp .ge 63, 3) := by decide +kernel
theorem dX12_canPut_8 : decode cX12_canPut 8 = .ok (.iconst 0, 1) := by decide +kernel
theorem dX12_canPut_9 : decode cX12_canPut 9 = .ok (.istore_n 3, 1) := by decide +kernel
theorem dX12_canPut_10 : decode cX12_canPut 10 = .ok (.iconst 0, 1) := by decide +kernel
theorem dX12_canPut_11 : decode cX12_canPut 11 = .ok (.istore 4, 2) := by decide +kernel
theorem dX12_canPut_13 : decode cX12_canPut 13 = .ok (.iload 4, 2) := by decide +kernel
theorem dX12_canPut_15 : decode cX12_canPut 15 = .ok (.aload_n 0, 1) := by decide +kernel
theorem dX12_canPut_16 : decode cX12_canPut 16 = .ok (.getfield 474, 3) := by decide +kernel
theorem dX12_canPut_19 : decode cX12_canPut 19 = .ok (.if_icmp .ge 34, 3) := by decide +kernel
theorem dX12_canPut_22 : decode cX12_canPut 22 = .ok (.aload_n 0, 1) := by decide +kernel
theorem dX12_canPut_23 : decode cX12_canPut 23 = .ok (.iload_n 1, 1) := by decide +kernel
theorem dX12_canPut_24 : decode cX12_canPut 24 = .ok (.iload 4, 2) := by decide +kernel
theorem dX12_canPut_26 : decode cX12_canPut 26 = .ok (.invokevirtual 442, 3) := by decide +kernel
theorem dX12_canPut_29 : decode cX12_canPut 29 = .ok (.ifCond .eq 18, 3) := by decide +kernel
theorem dX12_canPut_32 : decode cX12_canPut 32 = .ok (.aload_n 0, 1) := by decide +kernel
theorem dX12_canPut_33 : decode cX12_canPut 33 = .ok (.getfield 116, 3) := by decide +kernel
theorem dX12_canPut_36 : decode cX12_canPut 36 = .ok (.iload 4, 2) := by decide +kernel
theorem dX12_canPut_38 : decode cX12_canPut 38 = .ok (.iaload, 1) := by decide +kernel
theorem dX12_canPut_39 : decode cX12_canPut 39 = .ok (.iload_n 2, 1) := by decide +kernel
theorem dX12_canPut_40 : decode cX12_canPut 40 = .ok (.if_icmp .gt 7, 3) := by decide +kernel
theorem dX12_canPut_43 : decode cX12_canPut 43 = .ok (.iload_n 3, 1) := by decide +kernel
theorem dX12_canPut_44 : decode cX12_canPut 44 = .ok (.iconst 1, 1) := by decide +kernel
theorem dX12_canPut_45 : decode cX12_canPut 45 = .ok (.iadd, 1) := by decide +kernel
theorem dX12_canPut_46 : decode cX12_canPut 46 = .ok (.istore_n 3, 1) := by decide +kernel
theorem dX12_canPut_47 : decode cX12_canPut 47 = .ok (.iinc 4 1, 3) := by decide +kernel
theorem dX12_canPut_50 : decode cX12_canPut 50 = .ok (.goto (-37), 3) := by decide +kernel
theorem dX12_canPut_53 : decode cX12_canPut 53 = .ok (.iload_n 3, 1) := by decide +kernel
theorem dX12_canPut_54 : decode cX12_canPut 54 = .ok (.iload_n 2, 1) := by decide +kernel
theorem dX12_canPut_55 : decode cX12_canPut 55 = .ok (.iconst 1, 1) := by decide +kernel
theorem dX12_canPut_56 : decode cX12_canPut 56 = .ok (.iadd, 1) := by decide +kernel
theorem dX12_canPut_57 : decode cX12_canPut 57 = .ok (.if_icmp .le 5, 3) := by decide +kernel
theorem dX12_canPut_60 : decode cX12_canPut 60 = .ok (.iconst 0, 1) := by decide +kernel
theorem dX12_canPut_61 : decode cX12_canPut 61 = .ok (.ireturn, 1) := by decide +kernel
theorem dX12_canPut_62 : decode cX12_canPut 62 = .ok (.iinc 2 1, 3) := by decide +kernel
theorem dX12_canPut_65 : decode cX12_canPut 65 = .ok (.goto (-63), 3) := by decide +kernel
theorem dX12_canPut_68 : decode cX12_canPut 68 = .ok (.iconst 1, 1) := by decide +kernel
theorem dX12_canPut_69 : decode cX12_canPut 69 = .ok (.ireturn, 1) := by decide +kernel
def T_X12_canPut_47 (B2 : Int32 → Int32 → Mm → Prop) (B13 : Int32 → Int32 → Int32 → Int32 → Mm → Prop) (x1 : Int32) (x2 : Int32) (x3 : Int32) (x4 : Int32) (M : Mm) (K : Int32 → Mm → Prop) : Prop := (∀ y1 : Int32, y1 = x4 + (1 : Int32) → (B13 x1 x2 x3 y1 M))
set_option maxHeartbeats 4000000 in
set_option maxRecDepth 100000 in
theorem w_X12_canPut_47 {p : Program} {l : Launch} {e : Env} {s : State} {m : MethodId} {args : Array Value} {below : List Frame} {meth : Method} {c : Code} {G : fx_G} {K : Int32 → Mm → Prop} {B2 : Int32 → Int32 → Mm → Prop} {B13 : Int32 → Int32 → Int32 → Int32 → Mm → Prop} (X : fx_C G p s m c args cX12_canPut 5 RX12) (hr : meth.sig.returnType = (some .boolean)) (hk : meth.locks = false) (hB2 : ∀ (x1 : Int32) (x2 : Int32) (M : Mm) (H : Heap) (locs : List Loc) (ls : Array Slot), B2 x1 x2 M → fx_H G SH M s H locs → lv_has ls 5 [(0, .ref (G.2.2.2 + 159)), (1, .int x1), (2, .int x2)] → W p l e (fx_rm (1)) s m args below meth c H locs 0 0 (MQ below (va_Qi K (fx_R G SH) (fx_A G)) args s 0 0 (fx_A G)) (F0 m 2 ls [])) (hB13 : ∀ (x1 : Int32) (x2 : Int32) (x3 : Int32) (x4 : Int32) (M : Mm) (H : Heap) (locs : List Loc) (ls : Array Slot), B13 x1 x2 x3 x4 M → fx_H G SH M s H locs → lv_has ls 5 [(0, .ref (G.2.2.2 + 159)), (1, .int x1), (2, .int x2), (3, .int x3), (4, .int x4)] → W p l e (fx_rm (1)) s m args below meth c H locs 0 0 (MQ below (va_Qi K (fx_R G SH) (fx_A G)) args s 0 0 (fx_A G)) (F0 m 13 ls [])) : ∀ (x1 : Int32) (x2 : Int32) (x3 : Int32) (x4 : Int32) (M : Mm) (H : Heap) (locs : List Loc) (ls : Array Slot), T_X12_canPut_47 B2 B13 x1 x2 x3 x4 M K → fx_H G SH M s H locs → lv_has ls 5 [(0, .ref (G.2.2.2 + 159)), (1, .int x1), (2, .int x2), (3, .int x3), (4, .int x4)] → W p l e (fx_rm (1)) s m args below meth c H locs 0 0 (MQ below (va_Qi K (fx_R G SH) (fx_A G)) args s 0 0 (fx_A G)) (F0 m 47 ls []) := by
  obtain ⟨⟨hx, hb, hml, hown, hts⟩, hK, hQ⟩ := id X
  intro x1 x2 x3 x4 M H locs ls hT h hl
  unfold T_X12_canPut_47 at hT
  obtain ⟨y1, ey1⟩ : ∃ z : Int32, z = x4 + (1 : Int32) := ⟨_, rfl⟩
  have hT := hT y1 ey1
  refine lv_iinc (v := y1) (lv' := [(4, .int y1), (0, .ref (G.2.2.2 + 159)), (1, .int x1), (2, .int x2), (3, .int x3)]) hx hb dX12_canPut_47 hl (k := 4) rfl (by rw [ey1]; rfl) (by decide) rfl (fun ls hl => ?_)
  refine lv_goto (tgt := 13) hx hb dX12_canPut_50 (by decide) ?_
  exact hB13 x1 x2 x3 y1 M _ _ ls hT h (lv_sub hl [1, 2, 3, 4, 0] rfl)
def T_X12_canPut_13 (B2 : Int32 → Int32 → Mm → Prop) : Nat → Int32 → Int32 → Int32 → Int32 → Mm → (Int32 → Mm → Prop) → Prop
  | 0, _, _, _, _, _, _ => False
  | n + 1, x1, x2, x3, x4, M, K => (((M 159 59) ≤ x4 → ((x3 ≤ (x2 + (1 : Int32)) → (∀ y4 : Int32, y4 = x2 + (1 : Int32) → (B2 x1 y4 M))) ∧ (¬ x3 ≤ (x2 + (1 : Int32)) → (K (0 : Int32) M)))) ∧ (¬ (M 159 59) ≤ x4 → (T_X12_has x1 x4 M (fun r7 M6 => ((r7 = 0 → (T_X12_canPut_47 B2 (fun x1 x2 x3 x4 M => T_X12_canPut_13 B2 n x1 x2 x3 x4 M K) x1 x2 x3 x4 M6 K)) ∧ (¬ r7 = 0 → (vp_in x4 7 ∧ ((x2 < (M6 194 (x4).toNatClampNeg) → (T_X12_canPut_47 B2 (fun x1 x2 x3 x4 M => T_X12_canPut_13 B2 n x1 x2 x3 x4 M K) x1 x2 x3 x4 M6 K)) ∧ (¬ x2 < (M6 194 (x4).toNatClampNeg) → (∀ y11 : Int32, y11 = (x3 + (1 : Int32)) → (T_X12_canPut_47 B2 (fun x1 x2 x3 x4 M => T_X12_canPut_13 B2 n x1 x2 x3 x4 M K) x1 x2 y11 x4 M6 K)))))))))))
set_option maxHeartbeats 4000000 in
set_option maxRecDepth 100000 in
theorem w_X12_canPut_13 {p : Program} {l : Launch} {e : Env} {s : State} {m : MethodId} {args : Array Value} {below : List Frame} {meth : Method} {c : Code} {G : fx_G} {K : Int32 → Mm → Prop} {B2 : Int32 → Int32 → Mm → Prop} (X : fx_C G p s m c args cX12_canPut 5 RX12) (hr : meth.sig.returnType = (some .boolean)) (hk : meth.locks = false) (hB2 : ∀ (x1 : Int32) (x2 : Int32) (M : Mm) (H : Heap) (locs : List Loc) (ls : Array Slot), B2 x1 x2 M → fx_H G SH M s H locs → lv_has ls 5 [(0, .ref (G.2.2.2 + 159)), (1, .int x1), (2, .int x2)] → W p l e (fx_rm (1)) s m args below meth c H locs 0 0 (MQ below (va_Qi K (fx_R G SH) (fx_A G)) args s 0 0 (fx_A G)) (F0 m 2 ls [])) : ∀ (n : Nat) (x1 : Int32) (x2 : Int32) (x3 : Int32) (x4 : Int32) (M : Mm) (H : Heap) (locs : List Loc) (ls : Array Slot), T_X12_canPut_13 B2 n x1 x2 x3 x4 M K → fx_H G SH M s H locs → lv_has ls 5 [(0, .ref (G.2.2.2 + 159)), (1, .int x1), (2, .int x2), (3, .int x3), (4, .int x4)] → W p l e (fx_rm (1)) s m args below meth c H locs 0 0 (MQ below (va_Qi K (fx_R G SH) (fx_A G)) args s 0 0 (fx_A G)) (F0 m 13 ls []) := by
  obtain ⟨⟨hx, hb, hml, hown, hts⟩, hK, hQ⟩ := id X
  intro n
  induction n with
  | zero =>
    intro x1 x2 x3 x4 M H locs ls hT
    exact hT.elim
  | succ n ih =>
    intro x1 x2 x3 x4 M H locs ls hT h hl
    rw [T_X12_canPut_13] at hT
    refine lv_iload hx hb dX12_canPut_13 (lv_at hl 4 rfl) ?_
    refine lv_aload_n hx hb dX12_canPut_15 rfl (lv_at hl 0 rfl) ?_
    refine fx_getI X h (k := 159) (j := 59) sh_159 rfl fl_RX12_474 dX12_canPut_16 ?_
    refine lv_icmp_ge (tgt := 53) hx hb dX12_canPut_19 (by decide) (fun hc2 => ?_) (fun hc2 => ?_)
    · have hT := hT.1 hc2
      refine lv_iload_n hx hb dX12_canPut_53 rfl (lv_at hl 3 rfl) ?_
      refine lv_iload_n hx hb dX12_canPut_54 rfl (lv_at hl 2 rfl) ?_
      refine lv_iconst (v := 1) hx hb dX12_canPut_55 (by decide) ?_
      refine lv_iadd hx hb dX12_canPut_56 ?_
      refine lv_icmp_le (tgt := 62) hx hb dX12_canPut_57 (by decide) (fun hc3 => ?_) (fun hc3 => ?_)
      · have hT := hT.1 hc3
        obtain ⟨y4, ey4⟩ : ∃ z : Int32, z = x2 + (1 : Int32) := ⟨_, rfl⟩
        have hT := hT y4 ey4
        refine lv_iinc (v := y4) (lv' := [(2, .int y4), (0, .ref (G.2.2.2 + 159)), (1, .int x1), (3, .int x3), (4, .int x4)]) hx hb dX12_canPut_62 hl (k := 2) rfl (by rw [ey4]; rfl) (by decide) rfl (fun ls hl => ?_)
        refine lv_goto (tgt := 2) hx hb dX12_canPut_65 (by decide) ?_
        exact hB2 x1 y4 M _ _ ls hT h (lv_sub hl [1, 2, 0] rfl)
      · have hT := hT.2 hc3
        refine lv_iconst (v := 0) hx hb dX12_canPut_60 (by decide) ?_
        exact fx_zret X hr hk h (Or.inl rfl) hT dX12_canPut_61
    · have hT := hT.2 hc2
      refine lv_aload_n hx hb dX12_canPut_22 rfl (lv_at hl 0 rfl) ?_
      refine lv_iload_n hx hb dX12_canPut_23 rfl (lv_at hl 1 rfl) ?_
      refine lv_iload hx hb dX12_canPut_24 (lv_at hl 4 rfl) ?_
      refine fx_vi X h ym_X12_has yi_X12_has ys_X12_has (fx_s8 (List.mem_of_getElem? (i := 221) rfl) rfl) sh_159 rfl (c_X12_has l G hT) (As := [.int x1, .int x4]) (rest := []) rfl rfl ⟨Nat.le_of_ble_eq_true rfl, Nat.le_of_ble_eq_true rfl⟩ ⟨Nat.le_refl _, Nat.le_refl _⟩ hl.1 (Nat.le_of_ble_eq_true rfl) dX12_canPut_26 (fun r7 M6 H locs hT h => ?_)
      refine lv_if_eq (tgt := 47) hx hb dX12_canPut_29 (by decide) (fun hc8 => ?_) (fun hc8 => ?_)
      · have hT := hT.1 hc8
        exact w_X12_canPut_47 X hr hk (B2 := B2) hB2 (B13 := (fun x1 x2 x3 x4 M => T_X12_canPut_13 B2 n x1 x2 x3 x4 M K)) ih x1 x2 x3 x4 M6 _ _ ls hT h (lv_sub hl [0, 1, 2, 3, 4] rfl)
      · have hT := hT.2 hc8
        refine lv_aload_n hx hb dX12_canPut_32 rfl (lv_at hl 0 rfl) ?_
        refine fx_getR X h (k := 159) (j := 61) (r := 194) sh_159 rfl fl_RX12_116 dX12_canPut_33 ?_
        refine lv_iload hx hb dX12_canPut_36 (lv_at hl 4 rfl) ?_
        obtain ⟨hi9, hT⟩ := hT
        refine fx_iald X h (k := 194) sh_194 hi9 dX12_canPut_38 ?_
        refine lv_iload_n hx hb dX12_canPut_39 rfl (lv_at hl 2 rfl) ?_
        refine lv_icmp_gt (tgt := 47) hx hb dX12_canPut_40 (by decide) (fun hc10 => ?_) (fun hc10 => ?_)
        · have hT := hT.1 hc10
          exact w_X12_canPut_47 X hr hk (B2 := B2) hB2 (B13 := (fun x1 x2 x3 x4 M => T_X12_canPut_13 B2 n x1 x2 x3 x4 M K)) ih x1 x2 x3 x4 M6 _ _ ls hT h (lv_sub hl [0, 1, 2, 3, 4] rfl)
        · have hT := hT.2 hc10
          refine lv_iload_n hx hb dX12_canPut_43 rfl (lv_at hl 3 rfl) ?_
          refine lv_iconst (v := 1) hx hb dX12_canPut_44 (by decide) ?_
          refine lv_iadd hx hb dX12_canPut_45 ?_
          refine lv_topi (fun y11 ey11 => ?_)
          have hT := hT y11 ey11
          refine lv_istore_n (lv' := [(3, .int y11), (0, .ref (G.2.2.2 + 159)), (1, .int x1), (2, .int x2), (4, .int x4)]) hx hb dX12_canPut_46 rfl hl (by decide) rfl (fun ls hl => ?_)
          exact w_X12_canPut_47 X hr hk (B2 := B2) hB2 (B13 := (fun x1 x2 x3 x4 M => T_X12_canPut_13 B2 n x1 x2 x3 x4 M K)) ih x1 x2 y11 x4 M6 _ _ ls hT h (lv_sub hl [1, 2, 3, 0, 4] rfl)
def T_X12_canPut_2 : Nat → Int32 → Int32 → Mm → (Int32 → Mm → Prop) → Prop
  | 0, _, _, _, _ => False
  | n + 1, x1, x2, M, K => (((10 : Int32) ≤ x2 → (K (1 : Int32) M)) ∧ (¬ (10 : Int32) ≤ x2 → (T_X12_canPut_13 (fun x1 x2 M => T_X12_canPut_2 n x1 x2 M K) 5000 x1 x2 (0 : Int32) (0 : Int32) M K)))
set_option maxHeartbeats 4000000 in
set_option maxRecDepth 100000 in
theorem w_X12_canPut_2 {p : Program} {l : Launch} {e : Env} {s : State} {m : MethodId} {args : Array Value} {below : List Frame} {meth : Method} {c : Code} {G : fx_G} {K : Int32 → Mm → Prop} (X : fx_C G p s m c args cX12_canPut 5 RX12) (hr : meth.sig.returnType = (some .boolean)) (hk : meth.locks = false) : ∀ (n : Nat) (x1 : Int32) (x2 : Int32) (M : Mm) (H : Heap) (locs : List Loc) (ls : Array Slot), T_X12_canPut_2 n x1 x2 M K → fx_H G SH M s H locs → lv_has ls 5 [(0, .ref (G.2.2.2 + 159)), (1, .int x1), (2, .int x2)] → W p l e (fx_rm (1)) s m args below meth c H locs 0 0 (MQ below (va_Qi K (fx_R G SH) (fx_A G)) args s 0 0 (fx_A G)) (F0 m 2 ls []) := by
  obtain ⟨⟨hx, hb, hml, hown, hts⟩, hK, hQ⟩ := id X
  intro n
  induction n with
  | zero =>
    intro x1 x2 M H locs ls hT
    exact hT.elim
  | succ n ih =>
    intro x1 x2 M H locs ls hT h hl
    rw [T_X12_canPut_2] at hT
    refine lv_iload_n hx hb dX12_canPut_2 rfl (lv_at hl 2 rfl) ?_
    refine lv_bipush (v := 10) hx hb dX12_canPut_3 (by decide) ?_
    refine lv_icmp_ge (tgt := 68) hx hb dX12_canPut_5 (by decide) (fun hc12 => ?_) (fun hc12 => ?_)
    · have hT := hT.1 hc12
      refine lv_iconst (v := 1) hx hb dX12_canPut_68 (by decide) ?_
      exact fx_zret X hr hk h (Or.inr rfl) hT dX12_canPut_69
    · have hT := hT.2 hc12
      refine lv_iconst (v := 0) hx hb dX12_canPut_8 (by decide) ?_
      refine lv_istore_n (lv' := [(3, .int (0 : Int32)), (0, .ref (G.2.2.2 + 159)), (1, .int x1), (2, .int x2)]) hx hb dX12_canPut_9 rfl hl (by decide) rfl (fun ls hl => ?_)
      refine lv_iconst (v := 0) hx hb dX12_canPut_10 (by decide) ?_
      refine lv_istore (lv' := [(4, .int (0 : Int32)), (3, .int (0 : Int32)), (0, .ref (G.2.2.2 + 159)), (1, .int x1), (2, .int x2)]) hx hb dX12_canPut_11 hl (by decide) rfl (fun ls hl => ?_)
      exact w_X12_canPut_13 X hr hk (B2 := (fun x1 x2 M => T_X12_canPut_2 n x1 x2 M K)) ih 5000 x1 x2 (0 : Int32) (0 : Int32) M _ _ ls hT h (lv_sub hl [2, 3, 4, 1, 0] rfl)
def T_X12_canPut (x1 : Int32) (M : Mm) (K : Int32 → Mm → Prop) : Prop := (T_X12_canPut_2 5000 x1 (0 : Int32) M K)
set_option maxHeartbeats 4000000 in
set_option maxRecDepth 100000 in
theorem c_X12_canPut (l : Launch) (G : fx_G) {x1 : Int32} {M : Mm} {K : Int32 → Mm → Prop} (hT : T_X12_canPut x1 M K) : Met l yX12_canPut (fx_ws yX12_canPut cX12_canPut 5 (some .boolean)) (fx_rm (1)) (va_Pc [.ref (G.2.2.2 + 159), .int x1] (fx_P G SH M)) (va_Qi K (fx_R G SH) (fx_A G)) 0 0 (fx_A G) := by
  refine fx_met (own := RX12) (by decide +kernel) rfl (Nat.le_of_ble_eq_true rfl) (fun p e s m below meth c X hr hk h ls hl => ?_)
  obtain ⟨⟨hx, hb, hml, hown, hts⟩, hK, hQ⟩ := id X
  have hl : lv_has ls 5 [(0, .ref (G.2.2.2 + 159)), (1, .int x1)] := hl
  unfold T_X12_canPut at hT
  refine lv_iconst (v := 0) hx hb dX12_canPut_0 (by decide) ?_
  refine lv_istore_n (lv' := [(2, .int (0 : Int32)), (0, .ref (G.2.2.2 + 159)), (1, .int x1)]) hx hb dX12_canPut_1 rfl hl (by decide) rfl (fun ls hl => ?_)
  exact w_X12_canPut_2 X hr hk 5000 x1 (0 : Int32) M _ _ ls hT h (lv_sub hl [1, 2, 0] rfl)
/-! MockParcelsModel.pricesOf(I)I -/
theorem dX12_pricesOf_0 : decode cX12_pricesOf 0 = .ok (.iconst 0, 1) := by decide +kernel
theorem dX12_pricesOf_1 : decode cX12_pricesOf 1 = .ok (.istore_n 2, 1) := by decide +kernel
theorem dX12_pricesOf_2 : decode cX12_pricesOf 2 = .ok (.iconst 0, 1) := by decide +kernel
theorem dX12_pricesOf_3 : decode cX12_pricesOf 3 = .ok (.istore_n 3, 1) := by decide +kernel
theorem dX12_pricesOf_4 : decode cX12_pricesOf 4 = .ok (.iload_n 3, 1) := by decide +kernel
theorem dX12_pricesOf_5 : decode cX12_pricesOf 5 = .ok (.aload_n 0, 1) := by decide +kernel
theorem dX12_pricesOf_6 : decode cX12_pricesOf 6 = .ok (.getfield 474, 3) := by decide +kernel
theorem dX12_pricesOf_9 : decode cX12_pricesOf 9 = .ok (.if_icmp .ge 27, 3) := by decide +kernel
theorem dX12_pricesOf_12 : decode cX12_pricesOf 12 = .ok (.aload_n 0, 1) := by decide +kernel
theorem dX12_pricesOf_13 : decode cX12_pricesOf 13 = .ok (.iload_n 1, 1) := by decide +kernel
theorem dX12_pricesOf_14 : decode cX12_pricesOf 14 = .ok (.iload_n 3, 1) := by decide +kernel
theorem dX12_pricesOf_15 : decode cX12_pricesOf 15 = .ok (.invokevirtual 442, 3) := by decide +kernel
theorem dX12_pricesOf_18 : decode cX12_pricesOf 18 = .ok (.ifCond .eq 12, 3) := by decide +kernel
theorem dX12_pricesOf_21 : decode cX12_pricesOf 21 = .ok (.iload_n 2, 1) := by decide +kernel
theorem dX12_pricesOf_22 : decode cX12_pricesOf 22 = .ok (.aload_n 0, 1) := by decide +kernel
theorem dX12_pricesOf_23 : decode cX12_pricesOf 23 = .ok (.getfield 113, 3) := by decide +kernel
theorem dX12_pricesOf_26 : decode cX12_pricesOf 26 = .ok (.iload_n 3, 1) := by decide +kernel
theorem dX12_pricesOf_27 : decode cX12_pricesOf 27 = .ok (.iaload, 1) := by decide +kernel
theorem dX12_pricesOf_28 : decode cX12_pricesOf 28 = .ok (.iadd, 1) := by decide +kernel
theorem dX12_pricesOf_29 : decode cX12_pricesOf 29 = .ok (.istore_n 2, 1) := by decide +kernel
theorem dX12_pricesOf_30 : decode cX12_pricesOf 30 = .ok (.iinc 3 1, 3) := by decide +kernel
theorem dX12_pricesOf_33 : decode cX12_pricesOf 33 = .ok (.goto (-29), 3) := by decide +kernel
theorem dX12_pricesOf_36 : decode cX12_pricesOf 36 = .ok (.iload_n 2, 1) := by decide +kernel
theorem dX12_pricesOf_37 : decode cX12_pricesOf 37 = .ok (.ireturn, 1) := by decide +kernel
def T_X12_pricesOf_30 (B4 : Int32 → Int32 → Int32 → Mm → Prop) (x1 : Int32) (x2 : Int32) (x3 : Int32) (M : Mm) (K : Int32 → Mm → Prop) : Prop := (∀ y1 : Int32, y1 = x3 + (1 : Int32) → (B4 x1 x2 y1 M))
set_option maxHeartbeats 4000000 in
set_option maxRecDepth 100000 in
theorem w_X12_pricesOf_30 {p : Program} {l : Launch} {e : Env} {s : State} {m : MethodId} {args : Array Value} {below : List Frame} {meth : Method} {c : Code} {G : fx_G} {K : Int32 → Mm → Prop} {B4 : Int32 → Int32 → Int32 → Mm → Prop} (X : fx_C G p s m c args cX12_pricesOf 4 RX12) (hr : meth.sig.returnType = (some .int)) (hk : meth.locks = false) (hB4 : ∀ (x1 : Int32) (x2 : Int32) (x3 : Int32) (M : Mm) (H : Heap) (locs : List Loc) (ls : Array Slot), B4 x1 x2 x3 M → fx_H G SH M s H locs → lv_has ls 4 [(0, .ref (G.2.2.2 + 159)), (1, .int x1), (2, .int x2), (3, .int x3)] → W p l e (fx_rm (1)) s m args below meth c H locs 0 0 (MQ below (va_Qi K (fx_R G SH) (fx_A G)) args s 0 0 (fx_A G)) (F0 m 4 ls [])) : ∀ (x1 : Int32) (x2 : Int32) (x3 : Int32) (M : Mm) (H : Heap) (locs : List Loc) (ls : Array Slot), T_X12_pricesOf_30 B4 x1 x2 x3 M K → fx_H G SH M s H locs → lv_has ls 4 [(0, .ref (G.2.2.2 + 159)), (1, .int x1), (2, .int x2), (3, .int x3)] → W p l e (fx_rm (1)) s m args below meth c H locs 0 0 (MQ below (va_Qi K (fx_R G SH) (fx_A G)) args s 0 0 (fx_A G)) (F0 m 30 ls []) := by
  obtain ⟨⟨hx, hb, hml, hown, hts⟩, hK, hQ⟩ := id X
  intro x1 x2 x3 M H locs ls hT h hl
  unfold T_X12_pricesOf_30 at hT
  obtain ⟨y1, ey1⟩ : ∃ z : Int32, z = x3 + (1 : Int32) := ⟨_, rfl⟩
  have hT := hT y1 ey1
  refine lv_iinc (v := y1) (lv' := [(3, .int y1), (0, .ref (G.2.2.2 + 159)), (1, .int x1), (2, .int x2)]) hx hb dX12_pricesOf_30 hl (k := 3) rfl (by rw [ey1]; rfl) (by decide) rfl (fun ls hl => ?_)
  refine lv_goto (tgt := 4) hx hb dX12_pricesOf_33 (by decide) ?_
  exact hB4 x1 x2 y1 M _ _ ls hT h (lv_sub hl [1, 2, 3, 0] rfl)
def T_X12_pricesOf_4 : Nat → Int32 → Int32 → Int32 → Mm → (Int32 → Mm → Prop) → Prop
  | 0, _, _, _, _, _ => False
  | n + 1, x1, x2, x3, M, K => (((M 159 59) ≤ x3 → (K x2 M)) ∧ (¬ (M 159 59) ≤ x3 → (T_X12_has x1 x3 M (fun r5 M4 => ((r5 = 0 → (T_X12_pricesOf_30 (fun x1 x2 x3 M => T_X12_pricesOf_4 n x1 x2 x3 M K) x1 x2 x3 M4 K)) ∧ (¬ r5 = 0 → (vp_in x3 7 ∧ (∀ y8 : Int32, y8 = (x2 + (M4 193 (x3).toNatClampNeg)) → (T_X12_pricesOf_30 (fun x1 x2 x3 M => T_X12_pricesOf_4 n x1 x2 x3 M K) x1 y8 x3 M4 K)))))))))
set_option maxHeartbeats 4000000 in
set_option maxRecDepth 100000 in
theorem w_X12_pricesOf_4 {p : Program} {l : Launch} {e : Env} {s : State} {m : MethodId} {args : Array Value} {below : List Frame} {meth : Method} {c : Code} {G : fx_G} {K : Int32 → Mm → Prop} (X : fx_C G p s m c args cX12_pricesOf 4 RX12) (hr : meth.sig.returnType = (some .int)) (hk : meth.locks = false) : ∀ (n : Nat) (x1 : Int32) (x2 : Int32) (x3 : Int32) (M : Mm) (H : Heap) (locs : List Loc) (ls : Array Slot), T_X12_pricesOf_4 n x1 x2 x3 M K → fx_H G SH M s H locs → lv_has ls 4 [(0, .ref (G.2.2.2 + 159)), (1, .int x1), (2, .int x2), (3, .int x3)] → W p l e (fx_rm (1)) s m args below meth c H locs 0 0 (MQ below (va_Qi K (fx_R G SH) (fx_A G)) args s 0 0 (fx_A G)) (F0 m 4 ls []) := by
  obtain ⟨⟨hx, hb, hml, hown, hts⟩, hK, hQ⟩ := id X
  intro n
  induction n with
  | zero =>
    intro x1 x2 x3 M H locs ls hT
    exact hT.elim
  | succ n ih =>
    intro x1 x2 x3 M H locs ls hT h hl
    rw [T_X12_pricesOf_4] at hT
    refine lv_iload_n hx hb dX12_pricesOf_4 rfl (lv_at hl 3 rfl) ?_
    refine lv_aload_n hx hb dX12_pricesOf_5 rfl (lv_at hl 0 rfl) ?_
    refine fx_getI X h (k := 159) (j := 59) sh_159 rfl fl_RX12_474 dX12_pricesOf_6 ?_
    refine lv_icmp_ge (tgt := 36) hx hb dX12_pricesOf_9 (by decide) (fun hc2 => ?_) (fun hc2 => ?_)
    · have hT := hT.1 hc2
      refine lv_iload_n hx hb dX12_pricesOf_36 rfl (lv_at hl 2 rfl) ?_
      exact fx_iret X hr hk h hT dX12_pricesOf_37
    · have hT := hT.2 hc2
      refine lv_aload_n hx hb dX12_pricesOf_12 rfl (lv_at hl 0 rfl) ?_
      refine lv_iload_n hx hb dX12_pricesOf_13 rfl (lv_at hl 1 rfl) ?_
      refine lv_iload_n hx hb dX12_pricesOf_14 rfl (lv_at hl 3 rfl) ?_
      refine fx_vi X h ym_X12_has yi_X12_has ys_X12_has (fx_s8 (List.mem_of_getElem? (i := 221) rfl) rfl) sh_159 rfl (c_X12_has l G hT) (As := [.int x1, .int x3]) (rest := []) rfl rfl ⟨Nat.le_of_ble_eq_true rfl, Nat.le_of_ble_eq_true rfl⟩ ⟨Nat.le_refl _, Nat.le_refl _⟩ hl.1 (Nat.le_of_ble_eq_true rfl) dX12_pricesOf_15 (fun r5 M4 H locs hT h => ?_)
      refine lv_if_eq (tgt := 30) hx hb dX12_pricesOf_18 (by decide) (fun hc6 => ?_) (fun hc6 => ?_)
      · have hT := hT.1 hc6
        exact w_X12_pricesOf_30 X hr hk (B4 := (fun x1 x2 x3 M => T_X12_pricesOf_4 n x1 x2 x3 M K)) ih x1 x2 x3 M4 _ _ ls hT h (lv_sub hl [0, 1, 2, 3] rfl)
      · have hT := hT.2 hc6
        refine lv_iload_n hx hb dX12_pricesOf_21 rfl (lv_at hl 2 rfl) ?_
        refine lv_aload_n hx hb dX12_pricesOf_22 rfl (lv_at hl 0 rfl) ?_
        refine fx_getR X h (k := 159) (j := 60) (r := 193) sh_159 rfl fl_RX12_113 dX12_pricesOf_23 ?_
        refine lv_iload_n hx hb dX12_pricesOf_26 rfl (lv_at hl 3 rfl) ?_
        obtain ⟨hi7, hT⟩ := hT
        refine fx_iald X h (k := 193) sh_193 hi7 dX12_pricesOf_27 ?_
        refine lv_iadd hx hb dX12_pricesOf_28 ?_
        refine lv_topi (fun y8 ey8 => ?_)
        have hT := hT y8 ey8
        refine lv_istore_n (lv' := [(2, .int y8), (0, .ref (G.2.2.2 + 159)), (1, .int x1), (3, .int x3)]) hx hb dX12_pricesOf_29 rfl hl (by decide) rfl (fun ls hl => ?_)
        exact w_X12_pricesOf_30 X hr hk (B4 := (fun x1 x2 x3 M => T_X12_pricesOf_4 n x1 x2 x3 M K)) ih x1 y8 x3 M4 _ _ ls hT h (lv_sub hl [1, 2, 0, 3] rfl)
def T_X12_pricesOf (x1 : Int32) (M : Mm) (K : Int32 → Mm → Prop) : Prop := (T_X12_pricesOf_4 5000 x1 (0 : Int32) (0 : Int32) M K)
set_option maxHeartbeats 4000000 in
set_option maxRecDepth 100000 in
theorem c_X12_pricesOf (l : Launch) (G : fx_G) {x1 : Int32} {M : Mm} {K : Int32 → Mm → Prop} (hT : T_X12_pricesOf x1 M K) : Met l yX12_pricesOf (fx_ws yX12_pricesOf cX12_pricesOf 4 (some .int)) (fx_rm (1)) (va_Pc [.ref (G.2.2.2 + 159), .int x1] (fx_P G SH M)) (va_Qi K (fx_R G SH) (fx_A G)) 0 0 (fx_A G) := by
  refine fx_met (own := RX12) (by decide +kernel) rfl (Nat.le_of_ble_eq_true rfl) (fun p e s m below meth c X hr hk h ls hl => ?_)
  obtain ⟨⟨hx, hb, hml, hown, hts⟩, hK, hQ⟩ := id X
  have hl : lv_has ls 4 [(0, .ref (G.2.2.2 + 159)), (1, .int x1)] := hl
  unfold T_X12_pricesOf at hT
  refine lv_iconst (v := 0) hx hb dX12_pricesOf_0 (by decide) ?_
  refine lv_istore_n (lv' := [(2, .int (0 : Int32)), (0, .ref (G.2.2.2 + 159)), (1, .int x1)]) hx hb dX12_pricesOf_1 rfl hl (by decide) rfl (fun ls hl => ?_)
  refine lv_iconst (v := 0) hx hb dX12_pricesOf_2 (by decide) ?_
  refine lv_istore_n (lv' := [(3, .int (0 : Int32)), (2, .int (0 : Int32)), (0, .ref (G.2.2.2 + 159)), (1, .int x1)]) hx hb dX12_pricesOf_3 rfl hl (by decide) rfl (fun ls hl => ?_)
  exact w_X12_pricesOf_4 X hr hk 5000 x1 (0 : Int32) (0 : Int32) M _ _ ls hT h (lv_sub hl [2, 3, 1, 0] rfl)
/-! MockParcelsModel.puts(I)I -/
theorem dX12_puts_0 : decode cX12_puts 0 = .ok (.aload_n 0, 1) := by decide +kernel
theorem dX12_puts_1 : decode cX12_puts 1 = .ok (.iconst 0, 1) := by decide +kernel
theorem dX12_puts_2 : decode cX12_puts 2 = .ok (.putfield 134, 3) := by decide +kernel
theorem dX12_puts_5 : decode cX12_puts 5 = .ok (.aload_n 0, 1) := by decide +kernel
theorem dX12_puts_6 : decode cX12_puts 6 = .ok (.iload_n 1, 1) := by decide +kernel
theorem dX12_puts_7 : decode cX12_puts 7 = .ok (.iconst 0, 1) := by decide +kernel
theorem dX12_puts_8 : decode cX12_puts 8 = .ok (.iconst 1, 1) := by decide +kernel
theorem dX12_puts_9 : decode cX12_puts 9 = .ok (.invokevirtual 157, 3) := by decide +kernel
theorem dX12_puts_12 : decode cX12_puts 12 = .ok (.ifCond .ne 5, 3) := by decide +kernel
theorem dX12_puts_15 : decode cX12_puts 15 = .ok (.iconst (-1), 1) := by decide +kernel
theorem dX12_puts_16 : decode cX12_puts 16 = .ok (.ireturn, 1) := by decide +kernel
theorem dX12_puts_17 : decode cX12_puts 17 = .ok (.iconst 0, 1) := by decide +kernel
theorem dX12_puts_18 : decode cX12_puts 18 = .ok (.istore_n 2, 1) := by decide +kernel
theorem dX12_puts_19 : decode cX12_puts 19 = .ok (.iconst 1, 1) := by decide +kernel
theorem dX12_puts_20 : decode cX12_puts 20 = .ok (.istore_n 3, 1) := by decide +kernel
theorem dX12_puts_21 : decode cX12_puts 21 = .ok (.iload_n 3, 1) := by decide +kernel
theorem dX12_puts_22 : decode cX12_puts 22 = .ok (.iconst 1, 1) := by decide +kernel
theorem dX12_puts_23 : decode cX12_puts 23 = .ok (.aload_n 0, 1) := by decide +kernel
theorem dX12_puts_24 : decode cX12_puts 24 = .ok (.getfield 474, 3) := by decide +kernel
theorem dX12_puts_27 : decode cX12_puts 27 = .ok (.ishl, 1) := by decide +kernel
theorem dX12_puts_28 : decode cX12_puts 28 = .ok (.if_icmp .ge 55, 3) := by decide +kernel
theorem dX12_puts_31 : decode cX12_puts 31 = .ok (.aload_n 0, 1) := by decide +kernel
theorem dX12_puts_32 : decode cX12_puts 32 = .ok (.iload_n 3, 1) := by decide +kernel
theorem dX12_puts_33 : decode cX12_puts 33 = .ok (.invokevirtual 477, 3) := by decide +kernel
theorem dX12_puts_36 : decode cX12_puts 36 = .ok (.aload_n 0, 1) := by decide +kernel
theorem dX12_puts_37 : decode cX12_puts 37 = .ok (.iload_n 2, 1) := by decide +kernel
theorem dX12_puts_38 : decode cX12_puts 38 = .ok (.invokevirtual 477, 3) := by decide +kernel
theorem dX12_puts_41 : decode cX12_puts 41 = .ok (.isub, 1) := by decide +kernel
theorem dX12_puts_42 : decode cX12_puts 42 = .ok (.istore 4, 2) := by decide +kernel
theorem dX12_puts_44 : decode cX12_puts 44 = .ok (.iload 4, 2) := by decide +kernel
theorem dX12_puts_46 : decode cX12_puts 46 = .ok (.ifCond .gt 21, 3) := by decide +kernel
theorem dX12_puts_49 : decode cX12_puts 49 = .ok (.iload 4, 2) := by decide +kernel
theorem dX12_puts_51 : decode cX12_puts 51 = .ok (.ifCond .ne 26, 3) := by decide +kernel
theorem dX12_puts_54 : decode cX12_puts 54 = .ok (.aload_n 0, 1) := by decide +kernel
theorem dX12_puts_55 : decode cX12_puts 55 = .ok (.iload_n 3, 1) := by decide +kernel
theorem dX12_puts_56 : decode cX12_puts 56 = .ok (.invokevirtual 420, 3) := by decide +kernel
theorem dX12_puts_59 : decode cX12_puts 59 = .ok (.aload_n 0, 1) := by decide +kernel
theorem dX12_puts_60 : decode cX12_puts 60 = .ok (.iload_n 2, 1) := by decide +kernel
theorem dX12_puts_61 : decode cX12_puts 61 = .ok (.invokevirtual 420, 3) := by decide +kernel
theorem dX12_puts_64 : decode cX12_puts 64 = .ok (.if_icmp .le 13, 3) := by decide +kernel
theorem dX12_puts_67 : decode cX12_puts 67 = .ok (.aload_n 0, 1) := by decide +kernel
theorem dX12_puts_68 : decode cX12_puts 68 = .ok (.iload_n 3, 1) := by decide +kernel
theorem dX12_puts_69 : decode cX12_puts 69 = .ok (.invokevirtual 480, 3) := by decide +kernel
theorem dX12_puts_72 : decode cX12_puts 72 = .ok (.ifCond .eq 5, 3) := by decide +kernel
theorem dX12_puts_75 : decode cX12_puts 75 = .ok (.iload_n 3, 1) := by decide +kernel
theorem dX12_puts_76 : decode cX12_puts 76 = .ok (.istore_n 2, 1) := by decide +kernel
theorem dX12_puts_77 : decode cX12_puts 77 = .ok (.iinc 3 1, 3) := by decide +kernel
theorem dX12_puts_80 : decode cX12_puts 80 = .ok (.goto (-59), 3) := by decide +kernel
theorem dX12_puts_83 : decode cX12_puts 83 = .ok (.iload_n 1, 1) := by decide +kernel
theorem dX12_puts_84 : decode cX12_puts 84 = .ok (.ifCond .ne 11, 3) := by decide +kernel
theorem dX12_puts_87 : decode cX12_puts 87 = .ok (.aload_n 0, 1) := by decide +kernel
theorem dX12_puts_88 : decode cX12_puts 88 = .ok (.iload_n 2, 1) := by decide +kernel
theorem dX12_puts_89 : decode cX12_puts 89 = .ok (.invokevirtual 477, 3) := by decide +kernel
theorem dX12_puts_92 : decode cX12_puts 92 = .ok (.goto 8, 3) := by decide +kernel
theorem dX12_puts_95 : decode cX12_puts 95 = .ok (.aload_n 0, 1) := by decide +kernel
theorem dX12_puts_96 : decode cX12_puts 96 = .ok (.iload_n 2, 1) := by decide +kernel
theorem dX12_puts_97 : decode cX12_puts 97 = .ok (.invokevirtual 420, 3) := by decide +kernel
theorem dX12_puts_100 : decode cX12_puts 100 = .ok (.ireturn, 1) := by decide +kernel
def T_X12_puts_77 (B21 : Int32 → Int32 → Int32 → Mm → Prop) (x1 : Int32) (x2 : Int32) (x3 : Int32) (M : Mm) (K : Int32 → Mm → Prop) : Prop := (∀ y1 : Int32, y1 = x3 + (1 : Int32) → (B21 x1 x2 y1 M))
set_option maxHeartbeats 4000000 in
set_option maxRecDepth 100000 in
theorem w_X12_puts_77 {p : Program} {l : Launch} {e : Env} {s : State} {m : MethodId} {args : Array Value} {below : List Frame} {meth : Method} {c : Code} {G : fx_G} {K : Int32 → Mm → Prop} {B21 : Int32 → Int32 → Int32 → Mm → Prop} (X : fx_C G p s m c args cX12_puts 5 RX12) (hr : meth.sig.returnType = (some .int)) (hk : meth.locks = false) (hB21 : ∀ (x1 : Int32) (x2 : Int32) (x3 : Int32) (M : Mm) (H : Heap) (locs : List Loc) (ls : Array Slot), B21 x1 x2 x3 M → fx_H G SH M s H locs → lv_has ls 5 [(0, .ref (G.2.2.2 + 159)), (1, .int x1), (2, .int x2), (3, .int x3)] → W p l e (fx_rm (2)) s m args below meth c H locs 0 0 (MQ below (va_Qi K (fx_R G SH) (fx_A G)) args s 0 0 (fx_A G)) (F0 m 21 ls [])) : ∀ (x1 : Int32) (x2 : Int32) (x3 : Int32) (M : Mm) (H : Heap) (locs : List Loc) (ls : Array Slot), T_X12_puts_77 B21 x1 x2 x3 M K → fx_H G SH M s H locs → lv_has ls 5 [(0, .ref (G.2.2.2 + 159)), (1, .int x1), (2, .int x2), (3, .int x3)] → W p l e (fx_rm (2)) s m args below meth c H locs 0 0 (MQ below (va_Qi K (fx_R G SH) (fx_A G)) args s 0 0 (fx_A G)) (F0 m 77 ls []) := by
  obtain ⟨⟨hx, hb, hml, hown, hts⟩, hK, hQ⟩ := id X
  intro x1 x2 x3 M H locs ls hT h hl
  unfold T_X12_puts_77 at hT
  obtain ⟨y1, ey1⟩ : ∃ z : Int32, z = x3 + (1 : Int32) := ⟨_, rfl⟩
  have hT := hT y1 ey1
  refine lv_iinc (v := y1) (lv' := [(3, .int y1), (0, .ref (G.2.2.2 + 159)), (1, .int x1), (2, .int x2)]) hx hb dX12_puts_77 hl (k := 3) rfl (by rw [ey1]; rfl) (by decide) rfl (fun ls hl => ?_)
  refine lv_goto (tgt := 21) hx hb dX12_puts_80 (by decide) ?_
  exact hB21 x1 x2 y1 M _ _ ls hT h (lv_sub hl [1, 2, 3, 0] rfl)
def T_X12_puts_67 (B21 : Int32 → Int32 → Int32 → Mm → Prop) (x1 : Int32) (x2 : Int32) (x3 : Int32) (M : Mm) (K : Int32 → Mm → Prop) : Prop := (T_X12_canPut x3 M (fun r4 M3 => ((r4 = 0 → (T_X12_puts_77 B21 x1 x2 x3 M3 K)) ∧ (¬ r4 = 0 → (T_X12_puts_77 B21 x1 x3 x3 M3 K)))))
set_option maxHeartbeats 4000000 in
set_option maxRecDepth 100000 in
theorem w_X12_puts_67 {p : Program} {l : Launch} {e : Env} {s : State} {m : MethodId} {args : Array Value} {below : List Frame} {meth : Method} {c : Code} {G : fx_G} {K : Int32 → Mm → Prop} {B21 : Int32 → Int32 → Int32 → Mm → Prop} (X : fx_C G p s m c args cX12_puts 5 RX12) (hr : meth.sig.returnType = (some .int)) (hk : meth.locks = false) (hB21 : ∀ (x1 : Int32) (x2 : Int32) (x3 : Int32) (M : Mm) (H : Heap) (locs : List Loc) (ls : Array Slot), B21 x1 x2 x3 M → fx_H G SH M s H locs → lv_has ls 5 [(0, .ref (G.2.2.2 + 159)), (1, .int x1), (2, .int x2), (3, .int x3)] → W p l e (fx_rm (2)) s m args below meth c H locs 0 0 (MQ below (va_Qi K (fx_R G SH) (fx_A G)) args s 0 0 (fx_A G)) (F0 m 21 ls [])) : ∀ (x1 : Int32) (x2 : Int32) (x3 : Int32) (M : Mm) (H : Heap) (locs : List Loc) (ls : Array Slot), T_X12_puts_67 B21 x1 x2 x3 M K → fx_H G SH M s H locs → lv_has ls 5 [(0, .ref (G.2.2.2 + 159)), (1, .int x1), (2, .int x2), (3, .int x3)] → W p l e (fx_rm (2)) s m args below meth c H locs 0 0 (MQ below (va_Qi K (fx_R G SH) (fx_A G)) args s 0 0 (fx_A G)) (F0 m 67 ls []) := by
  obtain ⟨⟨hx, hb, hml, hown, hts⟩, hK, hQ⟩ := id X
  intro x1 x2 x3 M H locs ls hT h hl
  unfold T_X12_puts_67 at hT
  refine lv_aload_n hx hb dX12_puts_67 rfl (lv_at hl 0 rfl) ?_
  refine lv_iload_n hx hb dX12_puts_68 rfl (lv_at hl 3 rfl) ?_
  refine fx_vi X h ym_X12_canPut yi_X12_canPut ys_X12_canPut (fx_s9 (List.mem_of_getElem? (i := 42) rfl) rfl) sh_159 rfl (c_X12_canPut l G hT) (As := [.int x3]) (rest := []) rfl rfl ⟨Nat.le_of_ble_eq_true rfl, Nat.le_of_ble_eq_true rfl⟩ ⟨Nat.le_refl _, Nat.le_refl _⟩ hl.1 (Nat.le_of_ble_eq_true rfl) dX12_puts_69 (fun r4 M3 H locs hT h => ?_)
  refine lv_if_eq (tgt := 77) hx hb dX12_puts_72 (by decide) (fun hc5 => ?_) (fun hc5 => ?_)
  · have hT := hT.1 hc5
    exact w_X12_puts_77 X hr hk (B21 := B21) hB21 x1 x2 x3 M3 _ _ ls hT h (lv_sub hl [0, 1, 2, 3] rfl)
  · have hT := hT.2 hc5
    refine lv_iload_n hx hb dX12_puts_75 rfl (lv_at hl 3 rfl) ?_
    refine lv_istore_n (lv' := [(2, .int x3), (0, .ref (G.2.2.2 + 159)), (1, .int x1), (3, .int x3)]) hx hb dX12_puts_76 rfl hl (by decide) rfl (fun ls hl => ?_)
    exact w_X12_puts_77 X hr hk (B21 := B21) hB21 x1 x3 x3 M3 _ _ ls hT h (lv_sub hl [1, 2, 0, 3] rfl)
def T_X12_puts_21 : Nat → Int32 → Int32 → Int32 → Mm → (Int32 → Mm → Prop) → Prop
  | 0, _, _, _, _, _ => False
  | n + 1, x1, x2, x3, M, K => ((((1 : Int32) <<< ((M 159 59) &&& 31)) ≤ x3 → ((x1 = 0 → (T_X12_pricesOf x2 M (fun r13 M12 => (K r13 M12)))) ∧ (¬ x1 = 0 → (T_X12_onesOf x2 M (fun r10 M9 => (K r10 M9)))))) ∧ (¬ ((1 : Int32) <<< ((M 159 59) &&& 31)) ≤ x3 → (T_X12_pricesOf x3 M (fun r16 M15 => (T_X12_pricesOf x2 M15 (fun r19 M18 => (∀ y20 : Int32, y20 = (r16 - r19) → ((0 < y20 → (T_X12_puts_67 (fun x1 x2 x3 M => T_X12_puts_21 n x1 x2 x3 M K) x1 x2 x3 M18 K)) ∧ (¬ 0 < y20 → ((y20 = 0 → (T_X12_onesOf x3 M18 (fun r25 M24 => (T_X12_onesOf x2 M24 (fun r28 M27 => ((r25 ≤ r28 → (T_X12_puts_77 (fun x1 x2 x3 M => T_X12_puts_21 n x1 x2 x3 M K) x1 x2 x3 M27 K)) ∧ (¬ r25 ≤ r28 → (T_X12_puts_67 (fun x1 x2 x3 M => T_X12_puts_21 n x1 x2 x3 M K) x1 x2 x3 M27 K)))))))) ∧ (¬ y20 = 0 → (T_X12_puts_77 (fun x1 x2 x3 M => T_X12_puts_21 n x1 x2 x3 M K) x1 x2 x3 M18 K))))))))))))
set_option maxHeartbeats 4000000 in
set_option maxRecDepth 100000 in
theorem w_X12_puts_21 {p : Program} {l : Launch} {e : Env} {s : State} {m : MethodId} {args : Array Value} {below : List Frame} {meth : Method} {c : Code} {G : fx_G} {K : Int32 → Mm → Prop} (X : fx_C G p s m c args cX12_puts 5 RX12) (hr : meth.sig.returnType = (some .int)) (hk : meth.locks = false) : ∀ (n : Nat) (x1 : Int32) (x2 : Int32) (x3 : Int32) (M : Mm) (H : Heap) (locs : List Loc) (ls : Array Slot), T_X12_puts_21 n x1 x2 x3 M K → fx_H G SH M s H locs → lv_has ls 5 [(0, .ref (G.2.2.2 + 159)), (1, .int x1), (2, .int x2), (3, .int x3)] → W p l e (fx_rm (2)) s m args below meth c H locs 0 0 (MQ below (va_Qi K (fx_R G SH) (fx_A G)) args s 0 0 (fx_A G)) (F0 m 21 ls []) := by
  obtain ⟨⟨hx, hb, hml, hown, hts⟩, hK, hQ⟩ := id X
  intro n
  induction n with
  | zero =>
    intro x1 x2 x3 M H locs ls hT
    exact hT.elim
  | succ n ih =>
    intro x1 x2 x3 M H locs ls hT h hl
    rw [T_X12_puts_21] at hT
    refine lv_iload_n hx hb dX12_puts_21 rfl (lv_at hl 3 rfl) ?_
    refine lv_iconst (v := 1) hx hb dX12_puts_22 (by decide) ?_
    refine lv_aload_n hx hb dX12_puts_23 rfl (lv_at hl 0 rfl) ?_
    refine fx_getI X h (k := 159) (j := 59) sh_159 rfl fl_RX12_474 dX12_puts_24 ?_
    refine lv_ishl hx hb dX12_puts_27 ?_
    refine lv_icmp_ge (tgt := 83) hx hb dX12_puts_28 (by decide) (fun hc6 => ?_) (fun hc6 => ?_)
    · have hT := hT.1 hc6
      refine lv_iload_n hx hb dX12_puts_83 rfl (lv_at hl 1 rfl) ?_
      refine lv_if_ne (tgt := 95) hx hb dX12_puts_84 (by decide) (fun hc7 => ?_) (fun hc7 => ?_)
      · have hT := hT.2 hc7
        refine lv_aload_n hx hb dX12_puts_95 rfl (lv_at hl 0 rfl) ?_
        refine lv_iload_n hx hb dX12_puts_96 rfl (lv_at hl 2 rfl) ?_
        refine fx_vi X h ym_X12_onesOf yi_X12_onesOf ys_X12_onesOf (fx_s8 (List.mem_of_getElem? (i := 171) rfl) rfl) sh_159 rfl (c_X12_onesOf l G hT) (As := [.int x2]) (rest := []) rfl rfl ⟨Nat.le_of_ble_eq_true rfl, Nat.le_of_ble_eq_true rfl⟩ ⟨Nat.le_refl _, Nat.le_refl _⟩ hl.1 (Nat.le_of_ble_eq_true rfl) dX12_puts_97 (fun r10 M9 H locs hT h => ?_)
        exact fx_iret X hr hk h hT dX12_puts_100
      · have hT := hT.1 hc7
        refine lv_aload_n hx hb dX12_puts_87 rfl (lv_at hl 0 rfl) ?_
        refine lv_iload_n hx hb dX12_puts_88 rfl (lv_at hl 2 rfl) ?_
        refine fx_vi X h ym_X12_pricesOf yi_X12_pricesOf ys_X12_pricesOf (fx_s9 (List.mem_of_getElem? (i := 38) rfl) rfl) sh_159 rfl (c_X12_pricesOf l G hT) (As := [.int x2]) (rest := []) rfl rfl ⟨Nat.le_of_ble_eq_true rfl, Nat.le_of_ble_eq_true rfl⟩ ⟨Nat.le_refl _, Nat.le_refl _⟩ hl.1 (Nat.le_of_ble_eq_true rfl) dX12_puts_89 (fun r13 M12 H locs hT h => ?_)
        refine lv_goto (tgt := 100) hx hb dX12_puts_92 (by decide) ?_
        exact fx_iret X hr hk h hT dX12_puts_100
    · have hT := hT.2 hc6
      refine lv_aload_n hx hb dX12_puts_31 rfl (lv_at hl 0 rfl) ?_
      refine lv_iload_n hx hb dX12_puts_32 rfl (lv_at hl 3 rfl) ?_
      refine fx_vi X h ym_X12_pricesOf yi_X12_pricesOf ys_X12_pricesOf (fx_s9 (List.mem_of_getElem? (i := 38) rfl) rfl) sh_159 rfl (c_X12_pricesOf l G hT) (As := [.int x3]) (rest := []) rfl rfl ⟨Nat.le_of_ble_eq_true rfl, Nat.le_of_ble_eq_true rfl⟩ ⟨Nat.le_refl _, Nat.le_refl _⟩ hl.1 (Nat.le_of_ble_eq_true rfl) dX12_puts_33 (fun r16 M15 H locs hT h => ?_)
      refine lv_aload_n hx hb dX12_puts_36 rfl (lv_at hl 0 rfl) ?_
      refine lv_iload_n hx hb dX12_puts_37 rfl (lv_at hl 2 rfl) ?_
      refine fx_vi X h ym_X12_pricesOf yi_X12_pricesOf ys_X12_pricesOf (fx_s9 (List.mem_of_getElem? (i := 38) rfl) rfl) sh_159 rfl (c_X12_pricesOf l G hT) (As := [.int x2]) (rest := [.int r16]) rfl rfl ⟨Nat.le_of_ble_eq_true rfl, Nat.le_of_ble_eq_true rfl⟩ ⟨Nat.le_refl _, Nat.le_refl _⟩ hl.1 (Nat.le_of_ble_eq_true rfl) dX12_puts_38 (fun r19 M18 H locs hT h => ?_)
      refine lv_isub hx hb dX12_puts_41 ?_
      refine lv_topi (fun y20 ey20 => ?_)
      have hT := hT y20 ey20
      refine lv_istore (lv' := [(4, .int y20), (0, .ref (G.2.2.2 + 159)), (1, .int x1), (2, .int x2), (3, .int x3)]) hx hb dX12_puts_42 hl (by decide) rfl (fun ls hl => ?_)
      refine lv_iload hx hb dX12_puts_44 (lv_at hl 0 rfl) ?_
      refine lv_if_gt (tgt := 67) hx hb dX12_puts_46 (by decide) (fun hc21 => ?_) (fun hc21 => ?_)
      · have hT := hT.1 hc21
        exact w_X12_puts_67 X hr hk (B21 := (fun x1 x2 x3 M => T_X12_puts_21 n x1 x2 x3 M K)) ih x1 x2 x3 M18 _ _ ls hT h (lv_sub hl [1, 2, 3, 4] rfl)
      · have hT := hT.2 hc21
        refine lv_iload hx hb dX12_puts_49 (lv_at hl 0 rfl) ?_
        refine lv_if_ne (tgt := 77) hx hb dX12_puts_51 (by decide) (fun hc22 => ?_) (fun hc22 => ?_)
        · have hT := hT.2 hc22
          exact w_X12_puts_77 X hr hk (B21 := (fun x1 x2 x3 M => T_X12_puts_21 n x1 x2 x3 M K)) ih x1 x2 x3 M18 _ _ ls hT h (lv_sub hl [1, 2, 3, 4] rfl)
        · have hT := hT.1 hc22
          refine lv_aload_n hx hb dX12_puts_54 rfl (lv_at hl 1 rfl) ?_
          refine lv_iload_n hx hb dX12_puts_55 rfl (lv_at hl 4 rfl) ?_
          refine fx_vi X h ym_X12_onesOf yi_X12_onesOf ys_X12_onesOf (fx_s8 (List.mem_of_getElem? (i := 171) rfl) rfl) sh_159 rfl (c_X12_onesOf l G hT) (As := [.int x3]) (rest := []) rfl rfl ⟨Nat.le_of_ble_eq_true rfl, Nat.le_of_ble_eq_true rfl⟩ ⟨Nat.le_refl _, Nat.le_refl _⟩ hl.1 (Nat.le_of_ble_eq_true rfl) dX12_puts_56 (fun r25 M24 H locs hT h => ?_)
          refine lv_aload_n hx hb dX12_puts_59 rfl (lv_at hl 1 rfl) ?_
          refine lv_iload_n hx hb dX12_puts_60 rfl (lv_at hl 3 rfl) ?_
          refine fx_vi X h ym_X12_onesOf yi_X12_onesOf ys_X12_onesOf (fx_s8 (List.mem_of_getElem? (i := 171) rfl) rfl) sh_159 rfl (c_X12_onesOf l G hT) (As := [.int x2]) (rest := [.int r25]) rfl rfl ⟨Nat.le_of_ble_eq_true rfl, Nat.le_of_ble_eq_true rfl⟩ ⟨Nat.le_refl _, Nat.le_refl _⟩ hl.1 (Nat.le_of_ble_eq_true rfl) dX12_puts_61 (fun r28 M27 H locs hT h => ?_)
          refine lv_icmp_le (tgt := 77) hx hb dX12_puts_64 (by decide) (fun hc29 => ?_) (fun hc29 => ?_)
          · have hT := hT.1 hc29
            exact w_X12_puts_77 X hr hk (B21 := (fun x1 x2 x3 M => T_X12_puts_21 n x1 x2 x3 M K)) ih x1 x2 x3 M27 _ _ ls hT h (lv_sub hl [1, 2, 3, 4] rfl)
          · have hT := hT.2 hc29
            exact w_X12_puts_67 X hr hk (B21 := (fun x1 x2 x3 M => T_X12_puts_21 n x1 x2 x3 M K)) ih x1 x2 x3 M27 _ _ ls hT h (lv_sub hl [1, 2, 3, 4] rfl)
def T_X12_puts (x1 : Int32) (M : Mm) (K : Int32 → Mm → Prop) : Prop := (∀ M30 : Mm, M30 = m_up M 159 0 (0 : Int32) → (T_X12_isIn x1 (0 : Int32) (1 : Int32) M30 (fun r33 M32 => ((r33 = 0 → (K (-1 : Int32) M32)) ∧ (¬ r33 = 0 → (T_X12_puts_21 5000 x1 (0 : Int32) (1 : Int32) M32 K))))))
set_option maxHeartbeats 4000000 in
set_option maxRecDepth 100000 in
theorem c_X12_puts (l : Launch) (G : fx_G) {x1 : Int32} {M : Mm} {K : Int32 → Mm → Prop} (hT : T_X12_puts x1 M K) : Met l yX12_puts (fx_ws yX12_puts cX12_puts 5 (some .int)) (fx_rm (2)) (va_Pc [.ref (G.2.2.2 + 159), .int x1] (fx_P G SH M)) (va_Qi K (fx_R G SH) (fx_A G)) 0 0 (fx_A G) := by
  refine fx_met (own := RX12) (by decide +kernel) rfl (Nat.le_of_ble_eq_true rfl) (fun p e s m below meth c X hr hk h ls hl => ?_)
  obtain ⟨⟨hx, hb, hml, hown, hts⟩, hK, hQ⟩ := id X
  have hl : lv_has ls 5 [(0, .ref (G.2.2.2 + 159)), (1, .int x1)] := hl
  unfold T_X12_puts at hT
  refine lv_aload_n hx hb dX12_puts_0 rfl (lv_at hl 0 rfl) ?_
  refine lv_iconst (v := 0) hx hb dX12_puts_1 (by decide) ?_
  refine fx_putI X h (k := 159) (j := 0) sh_159 rfl fl_RX12_134 dX12_puts_2 (fun H locs h => ?_)
  obtain ⟨M30, eM30⟩ : ∃ z : Mm, z = m_up M 159 0 (0 : Int32) := ⟨_, rfl⟩
  have hT := hT M30 eM30
  rw [← eM30] at h
  refine lv_aload_n hx hb dX12_puts_5 rfl (lv_at hl 0 rfl) ?_
  refine lv_iload_n hx hb dX12_puts_6 rfl (lv_at hl 1 rfl) ?_
  refine lv_iconst (v := 0) hx hb dX12_puts_7 (by decide) ?_
  refine lv_iconst (v := 1) hx hb dX12_puts_8 (by decide) ?_
  refine fx_vi X h ym_X12_isIn yi_X12_isIn ys_X12_isIn (fx_s7 (List.mem_of_getElem? (i := 77) rfl) rfl) sh_159 rfl (c_X12_isIn l G hT) (As := [.int x1, .int (0 : Int32), .int (1 : Int32)]) (rest := []) rfl rfl ⟨Nat.le_of_ble_eq_true rfl, Nat.le_of_ble_eq_true rfl⟩ ⟨Nat.le_refl _, Nat.le_refl _⟩ hl.1 (Nat.le_of_ble_eq_true rfl) dX12_puts_9 (fun r33 M32 H locs hT h => ?_)
  refine lv_if_ne (tgt := 17) hx hb dX12_puts_12 (by decide) (fun hc34 => ?_) (fun hc34 => ?_)
  · have hT := hT.2 hc34
    refine lv_iconst (v := 0) hx hb dX12_puts_17 (by decide) ?_
    refine lv_istore_n (lv' := [(2, .int (0 : Int32)), (0, .ref (G.2.2.2 + 159)), (1, .int x1)]) hx hb dX12_puts_18 rfl hl (by decide) rfl (fun ls hl => ?_)
    refine lv_iconst (v := 1) hx hb dX12_puts_19 (by decide) ?_
    refine lv_istore_n (lv' := [(3, .int (1 : Int32)), (2, .int (0 : Int32)), (0, .ref (G.2.2.2 + 159)), (1, .int x1)]) hx hb dX12_puts_20 rfl hl (by decide) rfl (fun ls hl => ?_)
    exact w_X12_puts_21 X hr hk 5000 x1 (0 : Int32) (1 : Int32) M32 _ _ ls hT h (lv_sub hl [2, 3, 1, 0] rfl)
  · have hT := hT.1 hc34
    refine lv_iconst (v := -1) hx hb dX12_puts_15 (by decide) ?_
    exact fx_iret X hr hk h hT dX12_puts_16
/-! MockParcelsModel.clue(IZ)I -/
theorem dX12_clue_0 : decode cX12_clue 0 = .ok (.aload_n 0, 1) := by decide +kernel
theorem dX12_clue_1 : decode cX12_clue 1 = .ok (.iconst 0, 1) := by decide +kernel
theorem dX12_clue_2 : decode cX12_clue 2 = .ok (.putfield 134, 3) := by decide +kernel
theorem dX12_clue_5 : decode cX12_clue 5 = .ok (.iload_n 1, 1) := by decide +kernel
theorem dX12_clue_6 : decode cX12_clue 6 = .ok (.iconst (-1), 1) := by decide +kernel
theorem dX12_clue_7 : decode cX12_clue 7 = .ok (.if_icmp .ne 10, 3) := by decide +kernel
theorem dX12_clue_10 : decode cX12_clue 10 = .ok (.aload_n 0, 1) := by decide +kernel
theorem dX12_clue_11 : decode cX12_clue 11 = .ok (.iconst 0, 1) := by decide +kernel
theorem dX12_clue_12 : decode cX12_clue 12 = .ok (.putfield 483, 3) := by decide +kernel
theorem dX12_clue_15 : decode cX12_clue 15 = .ok (.iconst 0, 1) := by decide +kernel
theorem dX12_clue_16 : decode cX12_clue 16 = .ok (.ireturn, 1) := by decide +kernel
theorem dX12_clue_17 : decode cX12_clue 17 = .ok (.aload_n 0, 1) := by decide +kernel
theorem dX12_clue_18 : decode cX12_clue 18 = .ok (.iload_n 1, 1) := by decide +kernel
theorem dX12_clue_19 : decode cX12_clue 19 = .ok (.iconst 0, 1) := by decide +kernel
theorem dX12_clue_20 : decode cX12_clue 20 = .ok (.ldc_w 486, 3) := by decide +kernel
theorem dX12_clue_23 : decode cX12_clue 23 = .ok (.invokevirtual 157, 3) := by decide +kernel
theorem dX12_clue_26 : decode cX12_clue 26 = .ok (.ifCond .eq 12, 3) := by decide +kernel
theorem dX12_clue_29 : decode cX12_clue 29 = .ok (.aload_n 0, 1) := by decide +kernel
theorem dX12_clue_30 : decode cX12_clue 30 = .ok (.getfield 483, 3) := by decide +kernel
theorem dX12_clue_33 : decode cX12_clue 33 = .ok (.bipush 8, 2) := by decide +kernel
theorem dX12_clue_35 : decode cX12_clue 35 = .ok (.if_icmp .ne 5, 3) := by decide +kernel
theorem dX12_clue_38 : decode cX12_clue 38 = .ok (.iconst (-1), 1) := by decide +kernel
theorem dX12_clue_39 : decode cX12_clue 39 = .ok (.ireturn, 1) := by decide +kernel
theorem dX12_clue_40 : decode cX12_clue 40 = .ok (.aload_n 0, 1) := by decide +kernel
theorem dX12_clue_41 : decode cX12_clue 41 = .ok (.getfield 119, 3) := by decide +kernel
theorem dX12_clue_44 : decode cX12_clue 44 = .ok (.aload_n 0, 1) := by decide +kernel
theorem dX12_clue_45 : decode cX12_clue 45 = .ok (.getfield 483, 3) := by decide +kernel
theorem dX12_clue_48 : decode cX12_clue 48 = .ok (.iload_n 1, 1) := by decide +kernel
theorem dX12_clue_49 : decode cX12_clue 49 = .ok (.iastore, 1) := by decide +kernel
theorem dX12_clue_50 : decode cX12_clue 50 = .ok (.aload_n 0, 1) := by decide +kernel
theorem dX12_clue_51 : decode cX12_clue 51 = .ok (.getfield 122, 3) := by decide +kernel
theorem dX12_clue_54 : decode cX12_clue 54 = .ok (.aload_n 0, 1) := by decide +kernel
theorem dX12_clue_55 : decode cX12_clue 55 = .ok (.getfield 483, 3) := by decide +kernel
theorem dX12_clue_58 : decode cX12_clue 58 = .ok (.iload_n 2, 1) := by decide +kernel
theorem dX12_clue_59 : decode cX12_clue 59 = .ok (.ifCond .eq 7, 3) := by decide +kernel
theorem dX12_clue_62 : decode cX12_clue 62 = .ok (.iconst 1, 1) := by decide +kernel
theorem dX12_clue_63 : decode cX12_clue 63 = .ok (.goto 4, 3) := by decide +kernel
theorem dX12_clue_66 : decode cX12_clue 66 = .ok (.iconst 0, 1) := by decide +kernel
theorem dX12_clue_67 : decode cX12_clue 67 = .ok (.iastore, 1) := by decide +kernel
theorem dX12_clue_68 : decode cX12_clue 68 = .ok (.aload_n 0, 1) := by decide +kernel
theorem dX12_clue_69 : decode cX12_clue 69 = .ok (.aload_n 0, 1) := by decide +kernel
theorem dX12_clue_70 : decode cX12_clue 70 = .ok (.getfield 483, 3) := by decide +kernel
theorem dX12_clue_73 : decode cX12_clue 73 = .ok (.iconst 1, 1) := by decide +kernel
theorem dX12_clue_74 : decode cX12_clue 74 = .ok (.iadd, 1) := by decide +kernel
theorem dX12_clue_75 : decode cX12_clue 75 = .ok (.putfield 483, 3) := by decide +kernel
theorem dX12_clue_78 : decode cX12_clue 78 = .ok (.aload_n 0, 1) := by decide +kernel
theorem dX12_clue_79 : decode cX12_clue 79 = .ok (.getfield 483, 3) := by decide +kernel
theorem dX12_clue_82 : decode cX12_clue 82 = .ok (.ireturn, 1) := by decide +kernel
def T_X12_clue_67 (s1 : Int32) (s2 : Int32) (M : Mm) (K : Int32 → Mm → Prop) : Prop := (vp_in s1 8 ∧ (∀ M1 : Mm, M1 = m_up M 196 (s1).toNatClampNeg s2 → (∀ M3 : Mm, M3 = m_up M1 159 62 ((M1 159 62) + (1 : Int32)) → (K (M3 159 62) M3))))
set_option maxHeartbeats 4000000 in
set_option maxRecDepth 100000 in
theorem w_X12_clue_67 {p : Program} {l : Launch} {e : Env} {s : State} {m : MethodId} {args : Array Value} {below : List Frame} {meth : Method} {c : Code} {G : fx_G} {K : Int32 → Mm → Prop} (X : fx_C G p s m c args cX12_clue 3 RX12) (hr : meth.sig.returnType = (some .int)) (hk : meth.locks = false) : ∀ (s1 : Int32) (s2 : Int32) (M : Mm) (H : Heap) (locs : List Loc) (ls : Array Slot), T_X12_clue_67 s1 s2 M K → fx_H G SH M s H locs → lv_has ls 3 [(0, .ref (G.2.2.2 + 159))] → W p l e (fx_rm (1)) s m args below meth c H locs 0 0 (MQ below (va_Qi K (fx_R G SH) (fx_A G)) args s 0 0 (fx_A G)) (F0 m 67 ls [.int s2, .int s1, .ref (G.2.2.2 + 196)]) := by
  obtain ⟨⟨hx, hb, hml, hown, hts⟩, hK, hQ⟩ := id X
  intro s1 s2 M H locs ls hT h hl
  unfold T_X12_clue_67 at hT
  obtain ⟨hi2, hT⟩ := hT
  refine fx_iast X h (k := 196) sh_196 hi2 dX12_clue_67 (fun H locs h => ?_)
  obtain ⟨M1, eM1⟩ : ∃ z : Mm, z = m_up M 196 (s1).toNatClampNeg s2 := ⟨_, rfl⟩
  have hT := hT M1 eM1
  rw [← eM1] at h
  refine lv_aload_n hx hb dX12_clue_68 rfl (lv_at hl 0 rfl) ?_
  refine lv_aload_n hx hb dX12_clue_69 rfl (lv_at hl 0 rfl) ?_
  refine fx_getI X h (k := 159) (j := 62) sh_159 rfl fl_RX12_483 dX12_clue_70 ?_
  refine lv_iconst (v := 1) hx hb dX12_clue_73 (by decide) ?_
  refine lv_iadd hx hb dX12_clue_74 ?_
  refine fx_putI X h (k := 159) (j := 62) sh_159 rfl fl_RX12_483 dX12_clue_75 (fun H locs h => ?_)
  obtain ⟨M3, eM3⟩ : ∃ z : Mm, z = m_up M1 159 62 ((M1 159 62) + (1 : Int32)) := ⟨_, rfl⟩
  have hT := hT M3 eM3
  rw [← eM3] at h
  refine lv_aload_n hx hb dX12_clue_78 rfl (lv_at hl 0 rfl) ?_
  refine fx_getI X h (k := 159) (j := 62) sh_159 rfl fl_RX12_483 dX12_clue_79 ?_
  exact fx_iret X hr hk h hT dX12_clue_82
def T_X12_clue (x1 : Int32) (x2 : Int32) (M : Mm) (K : Int32 → Mm → Prop) : Prop := (∀ M4 : Mm, M4 = m_up M 159 0 (0 : Int32) → ((x1 = (-1 : Int32) → (∀ M14 : Mm, M14 = m_up M4 159 62 (0 : Int32) → (K (0 : Int32) M14))) ∧ (¬ x1 = (-1 : Int32) → (T_X12_isIn x1 (0 : Int32) (65535 : Int32) M4 (fun r8 M7 => ((r8 = 0 → (K (-1 : Int32) M7)) ∧ (¬ r8 = 0 → (((M7 159 62) = (8 : Int32) → (K (-1 : Int32) M7)) ∧ (¬ (M7 159 62) = (8 : Int32) → (vp_in (M7 159 62) 8 ∧ (∀ M11 : Mm, M11 = m_up M7 195 ((M7 159 62)).toNatClampNeg x1 → ((x2 = 0 → (T_X12_clue_67 (M11 159 62) (0 : Int32) M11 K)) ∧ (¬ x2 = 0 → (T_X12_clue_67 (M11 159 62) (1 : Int32) M11 K))))))))))))))
set_option maxHeartbeats 4000000 in
set_option maxRecDepth 100000 in
theorem c_X12_clue (l : Launch) (G : fx_G) {x1 : Int32} {x2 : Int32} {M : Mm} {K : Int32 → Mm → Prop} (hT : T_X12_clue x1 x2 M K) : Met l yX12_clue (fx_ws yX12_clue cX12_clue 3 (some .int)) (fx_rm (1)) (va_Pc [.ref (G.2.2.2 + 159), .int x1, .int x2] (fx_P G SH M)) (va_Qi K (fx_R G SH) (fx_A G)) 0 0 (fx_A G) := by
  refine fx_met (own := RX12) (by decide +kernel) rfl (Nat.le_of_ble_eq_true rfl) (fun p e s m below meth c X hr hk h ls hl => ?_)
  obtain ⟨⟨hx, hb, hml, hown, hts⟩, hK, hQ⟩ := id X
  have hl : lv_has ls 3 [(0, .ref (G.2.2.2 + 159)), (1, .int x1), (2, .int x2)] := hl
  unfold T_X12_clue at hT
  refine lv_aload_n hx hb dX12_clue_0 rfl (lv_at hl 0 rfl) ?_
  refine lv_iconst (v := 0) hx hb dX12_clue_1 (by decide) ?_
  refine fx_putI X h (k := 159) (j := 0) sh_159 rfl fl_RX12_134 dX12_clue_2 (fun H locs h => ?_)
  obtain ⟨M4, eM4⟩ : ∃ z : Mm, z = m_up M 159 0 (0 : Int32) := ⟨_, rfl⟩
  have hT := hT M4 eM4
  rw [← eM4] at h
  refine lv_iload_n hx hb dX12_clue_5 rfl (lv_at hl 1 rfl) ?_
  refine lv_iconst (v := -1) hx hb dX12_clue_6 (by decide) ?_
  refine lv_icmp_ne (tgt := 17) hx hb dX12_clue_7 (by decide) (fun hc5 => ?_) (fun hc5 => ?_)
  · have hT := hT.2 hc5
    refine lv_aload_n hx hb dX12_clue_17 rfl (lv_at hl 0 rfl) ?_
    refine lv_iload_n hx hb dX12_clue_18 rfl (lv_at hl 1 rfl) ?_
    refine lv_iconst (v := 0) hx hb dX12_clue_19 (by decide) ?_
    refine lv_ldcw (v := 65535) hx hb hown (hts _ (fx_s9 (List.mem_of_getElem? (i := 50) rfl) rfl)) dX12_clue_20 ?_
    refine fx_vi X h ym_X12_isIn yi_X12_isIn ys_X12_isIn (fx_s7 (List.mem_of_getElem? (i := 77) rfl) rfl) sh_159 rfl (c_X12_isIn l G hT) (As := [.int x1, .int (0 : Int32), .int (65535 : Int32)]) (rest := []) rfl rfl ⟨Nat.le_of_ble_eq_true rfl, Nat.le_of_ble_eq_true rfl⟩ ⟨Nat.le_refl _, Nat.le_refl _⟩ hl.1 (Nat.le_of_ble_eq_true rfl) dX12_clue_23 (fun r8 M7 H locs hT h => ?_)
    refine lv_if_eq (tgt := 38) hx hb dX12_clue_26 (by decide) (fun hc9 => ?_) (fun hc9 => ?_)
    · have hT := hT.1 hc9
      refine lv_iconst (v := -1) hx hb dX12_clue_38 (by decide) ?_
      exact fx_iret X hr hk h hT dX12_clue_39
    · have hT := hT.2 hc9
      refine lv_aload_n hx hb dX12_clue_29 rfl (lv_at hl 0 rfl) ?_
      refine fx_getI X h (k := 159) (j := 62) sh_159 rfl fl_RX12_483 dX12_clue_30 ?_
      refine lv_bipush (v := 8) hx hb dX12_clue_33 (by decide) ?_
      refine lv_icmp_ne (tgt := 40) hx hb dX12_clue_35 (by decide) (fun hc10 => ?_) (fun hc10 => ?_)
      · have hT := hT.2 hc10
        refine lv_aload_n hx hb dX12_clue_40 rfl (lv_at hl 0 rfl) ?_
        refine fx_getR X h (k := 159) (j := 63) (r := 195) sh_159 rfl fl_RX12_119 dX12_clue_41 ?_
        refine lv_aload_n hx hb dX12_clue_44 rfl (lv_at hl 0 rfl) ?_
        refine fx_getI X h (k := 159) (j := 62) sh_159 rfl fl_RX12_483 dX12_clue_45 ?_
        refine lv_iload_n hx hb dX12_clue_48 rfl (lv_at hl 1 rfl) ?_
        obtain ⟨hi12, hT⟩ := hT
        refine fx_iast X h (k := 195) sh_195 hi12 dX12_clue_49 (fun H locs h => ?_)
        obtain ⟨M11, eM11⟩ : ∃ z : Mm, z = m_up M7 195 ((M7 159 62)).toNatClampNeg x1 := ⟨_, rfl⟩
        have hT := hT M11 eM11
        rw [← eM11] at h
        refine lv_aload_n hx hb dX12_clue_50 rfl (lv_at hl 0 rfl) ?_
        refine fx_getR X h (k := 159) (j := 64) (r := 196) sh_159 rfl fl_RX12_122 dX12_clue_51 ?_
        refine lv_aload_n hx hb dX12_clue_54 rfl (lv_at hl 0 rfl) ?_
        refine fx_getI X h (k := 159) (j := 62) sh_159 rfl fl_RX12_483 dX12_clue_55 ?_
        refine lv_iload_n hx hb dX12_clue_58 rfl (lv_at hl 2 rfl) ?_
        refine lv_if_eq (tgt := 66) hx hb dX12_clue_59 (by decide) (fun hc13 => ?_) (fun hc13 => ?_)
        · have hT := hT.1 hc13
          refine lv_iconst (v := 0) hx hb dX12_clue_66 (by decide) ?_
          exact w_X12_clue_67 X hr hk (M11 159 62) (0 : Int32) M11 _ _ ls hT h (lv_sub hl [0] rfl)
        · have hT := hT.2 hc13
          refine lv_iconst (v := 1) hx hb dX12_clue_62 (by decide) ?_
          refine lv_goto (tgt := 67) hx hb dX12_clue_63 (by decide) ?_
          exact w_X12_clue_67 X hr hk (M11 159 62) (1 : Int32) M11 _ _ ls hT h (lv_sub hl [0] rfl)
      · have hT := hT.1 hc10
        refine lv_iconst (v := -1) hx hb dX12_clue_38 (by decide) ?_
        exact fx_iret X hr hk h hT dX12_clue_39
  · have hT := hT.1 hc5
    refine lv_aload_n hx hb dX12_clue_10 rfl (lv_at hl 0 rfl) ?_
    refine lv_iconst (v := 0) hx hb dX12_clue_11 (by decide) ?_
    refine fx_putI X h (k := 159) (j := 62) sh_159 rfl fl_RX12_483 dX12_clue_12 (fun H locs h => ?_)
    obtain ⟨M14, eM14⟩ : ∃ z : Mm, z = m_up M4 159 62 (0 : Int32) := ⟨_, rfl⟩
    have hT := hT M14 eM14
    rw [← eM14] at h
    refine lv_iconst (v := 0) hx hb dX12_clue_15 (by decide) ?_
    exact fx_iret X hr hk h hT dX12_clue_16
/-! MockParcelsModel.couplesBy(I)I -/
theorem dX12_couplesBy_0 : decode cX12_couplesBy 0 = .ok (.iconst 0, 1) := by decide +kernel
theorem dX12_couplesBy_1 : decode cX12_couplesBy 1 = .ok (.istore_n 2, 1) := by decide +kernel
theorem dX12_couplesBy_2 : decode cX12_couplesBy 2 = .ok (.iconst 0, 1) := by decide +kernel
theorem dX12_couplesBy_3 : decode cX12_couplesBy 3 = .ok (.istore_n 3, 1) := by decide +kernel
theorem dX12_couplesBy_4 : decode cX12_couplesBy 4 = .ok (.iload_n 3, 1) := by decide +kernel
theorem dX12_couplesBy_5 : decode cX12_couplesBy 5 = .ok (.aload_n 0, 1) := by decide +kernel
theorem dX12_couplesBy_6 : decode cX12_couplesBy 6 = .ok (.getfield 147, 3) := by decide +kernel
theorem dX12_couplesBy_9 : decode cX12_couplesBy 9 = .ok (.if_icmp .ge 95, 3) := by decide +kernel
theorem dX12_couplesBy_12 : decode cX12_couplesBy 12 = .ok (.iconst 0, 1) := by decide +kernel
theorem dX12_couplesBy_13 : decode cX12_couplesBy 13 = .ok (.istore 4, 2) := by decide +kernel
theorem dX12_couplesBy_15 : decode cX12_couplesBy 15 = .ok (.iload 4, 2) := by decide +kernel
theorem dX12_couplesBy_17 : decode cX12_couplesBy 17 = .ok (.iload_n 3, 1) := by decide +kernel
theorem dX12_couplesBy_18 : decode cX12_couplesBy 18 = .ok (.if_icmp .ge 80, 3) := by decide +kernel
theorem dX12_couplesBy_21 : decode cX12_couplesBy 21 = .ok (.iconst 0, 1) := by decide +kernel
theorem dX12_couplesBy_22 : decode cX12_couplesBy 22 = .ok (.istore 5, 2) := by decide +kernel
theorem dX12_couplesBy_24 : decode cX12_couplesBy 24 = .ok (.iconst 0, 1) := by decide +kernel
theorem dX12_couplesBy_25 : decode cX12_couplesBy 25 = .ok (.istore 6, 2) := by decide +kernel
theorem dX12_couplesBy_27 : decode cX12_couplesBy 27 = .ok (.iload 6, 2) := by decide +kernel
theorem dX12_couplesBy_29 : decode cX12_couplesBy 29 = .ok (.aload_n 0, 1) := by decide +kernel
theorem dX12_couplesBy_30 : decode cX12_couplesBy 30 = .ok (.getfield 483, 3) := by decide +kernel
theorem dX12_couplesBy_33 : decode cX12_couplesBy 33 = .ok (.if_icmp .ge 50, 3) := by decide +kernel
theorem dX12_couplesBy_36 : decode cX12_couplesBy 36 = .ok (.aload_n 0, 1) := by decide +kernel
theorem dX12_couplesBy_37 : decode cX12_couplesBy 37 = .ok (.iload_n 1, 1) := by decide +kernel
theorem dX12_couplesBy_38 : decode cX12_couplesBy 38 = .ok (.iload 6, 2) := by decide +kernel
theorem dX12_couplesBy_40 : decode cX12_couplesBy 40 = .ok (.invokevirtual 442, 3) := by decide +kernel
theorem dX12_couplesBy_43 : decode cX12_couplesBy 43 = .ok (.ifCond .eq 34, 3) := by decide +kernel
theorem dX12_couplesBy_46 : decode cX12_couplesBy 46 = .ok (.aload_n 0, 1) := by decide +kernel
theorem dX12_couplesBy_47 : decode cX12_couplesBy 47 = .ok (.aload_n 0, 1) := by decide +kernel
theorem dX12_couplesBy_48 : decode cX12_couplesBy 48 = .ok (.getfield 119, 3) := by decide +kernel
theorem dX12_couplesBy_51 : decode cX12_couplesBy 51 = .ok (.iload 6, 2) := by decide +kernel
theorem dX12_couplesBy_53 : decode cX12_couplesBy 53 = .ok (.iaload, 1) := by decide +kernel
theorem dX12_couplesBy_54 : decode cX12_couplesBy 54 = .ok (.iload_n 3, 1) := by decide +kernel
theorem dX12_couplesBy_55 : decode cX12_couplesBy 55 = .ok (.invokevirtual 442, 3) := by decide +kernel
theorem dX12_couplesBy_58 : decode cX12_couplesBy 58 = .ok (.aload_n 0, 1) := by decide +kernel
theorem dX12_couplesBy_59 : decode cX12_couplesBy 59 = .ok (.aload_n 0, 1) := by decide +kernel
theorem dX12_couplesBy_60 : decode cX12_couplesBy 60 = .ok (.getfield 119, 3) := by decide +kernel
theorem dX12_couplesBy_63 : decode cX12_couplesBy 63 = .ok (.iload 6, 2) := by decide +kernel
theorem dX12_couplesBy_65 : decode cX12_couplesBy 65 = .ok (.iaload, 1) := by decide +kernel
theorem dX12_couplesBy_66 : decode cX12_couplesBy 66 = .ok (.iload 4, 2) := by decide +kernel
theorem dX12_couplesBy_68 : decode cX12_couplesBy 68 = .ok (.invokevirtual 442, 3) := by decide +kernel
theorem dX12_couplesBy_71 : decode cX12_couplesBy 71 = .ok (.if_icmp .eq 6, 3) := by decide +kernel
theorem dX12_couplesBy_74 : decode cX12_couplesBy 74 = .ok (.iconst 1, 1) := by decide +kernel
theorem dX12_couplesBy_75 : decode cX12_couplesBy 75 = .ok (.istore 5, 2) := by decide +kernel
theorem dX12_couplesBy_77 : decode cX12_couplesBy 77 = .ok (.iinc 6 1, 3) := by decide +kernel
theorem dX12_couplesBy_80 : decode cX12_couplesBy 80 = .ok (.goto (-53), 3) := by decide +kernel
theorem dX12_couplesBy_83 : decode cX12_couplesBy 83 = .ok (.iload 5, 2) := by decide +kernel
theorem dX12_couplesBy_85 : decode cX12_couplesBy 85 = .ok (.ifCond .eq 7, 3) := by decide +kernel
theorem dX12_couplesBy_88 : decode cX12_couplesBy 88 = .ok (.iload_n 2, 1) := by decide +kernel
theorem dX12_couplesBy_89 : decode cX12_couplesBy 89 = .ok (.iconst 1, 1) := by decide +kernel
theorem dX12_couplesBy_90 : decode cX12_couplesBy 90 = .ok (.iadd, 1) := by decide +kernel
theorem dX12_couplesBy_91 : decode cX12_couplesBy 91 = .ok (.istore_n 2, 1) := by decide +kernel
theorem dX12_couplesBy_92 : decode cX12_couplesBy 92 = .ok (.iinc 4 1, 3) := by decide +kernel
theorem dX12_couplesBy_95 : decode cX12_couplesBy 95 = .ok (.goto (-80), 3) := by decide +kernel
theorem dX12_couplesBy_98 : decode cX12_couplesBy 98 = .ok (.iinc 3 1, 3) := by decide +kernel
theorem dX12_couplesBy_101 : decode cX12_couplesBy 101 = .ok (.goto (-97), 3) := by decide +kernel
theorem dX12_couplesBy_104 : decode cX12_couplesBy 104 = .ok (.iload_n 2, 1) := by decide +kernel
theorem dX12_couplesBy_105 : decode cX12_couplesBy 105 = .ok (.ireturn, 1) := by decide +kernel
def T_X12_couplesBy_92 (B4 : Int32 → Int32 → Int32 → Mm → Prop) (B15 : Int32 → Int32 → Int32 → Int32 → Mm → Prop) (x1 : Int32) (x2 : Int32) (x3 : Int32) (x4 : Int32) (M : Mm) (K : Int32 → Mm → Prop) : Prop := (∀ y1 : Int32, y1 = x4 + (1 : Int32) → (B15 x1 x2 x3 y1 M))
set_option maxHeartbeats 4000000 in
set_option maxRecDepth 100000 in
theorem w_X12_couplesBy_92 {p : Program} {l : Launch} {e : Env} {s : State} {m : MethodId} {args : Array Value} {below : List Frame} {meth : Method} {c : Code} {G : fx_G} {K : Int32 → Mm → Prop} {B4 : Int32 → Int32 → Int32 → Mm → Prop} {B15 : Int32 → Int32 → Int32 → Int32 → Mm → Prop} (X : fx_C G p s m c args cX12_couplesBy 7 RX12) (hr : meth.sig.returnType = (some .int)) (hk : meth.locks = false) (hB4 : ∀ (x1 : Int32) (x2 : Int32) (x3 : Int32) (M : Mm) (H : Heap) (locs : List Loc) (ls : Array Slot), B4 x1 x2 x3 M → fx_H G SH M s H locs → lv_has ls 7 [(0, .ref (G.2.2.2 + 159)), (1, .int x1), (2, .int x2), (3, .int x3)] → W p l e (fx_rm (1)) s m args below meth c H locs 0 0 (MQ below (va_Qi K (fx_R G SH) (fx_A G)) args s 0 0 (fx_A G)) (F0 m 4 ls [])) (hB15 : ∀ (x1 : Int32) (x2 : Int32) (x3 : Int32) (x4 : Int32) (M : Mm) (H : Heap) (locs : List Loc) (ls : Array Slot), B15 x1 x2 x3 x4 M → fx_H G SH M s H locs → lv_has ls 7 [(0, .ref (G.2.2.2 + 159)), (1, .int x1), (2, .int x2), (3, .int x3), (4, .int x4)] → W p l e (fx_rm (1)) s m args below meth c H locs 0 0 (MQ below (va_Qi K (fx_R G SH) (fx_A G)) args s 0 0 (fx_A G)) (F0 m 15 ls [])) : ∀ (x1 : Int32) (x2 : Int32) (x3 : Int32) (x4 : Int32) (M : Mm) (H : Heap) (locs : List Loc) (ls : Array Slot), T_X12_couplesBy_92 B4 B15 x1 x2 x3 x4 M K → fx_H G SH M s H locs → lv_has ls 7 [(0, .ref (G.2.2.2 + 159)), (1, .int x1), (2, .int x2), (3, .int x3), (4, .int x4)] → W p l e (fx_rm (1)) s m args below meth c H locs 0 0 (MQ below (va_Qi K (fx_R G SH) (fx_A G)) args s 0 0 (fx_A G)) (F0 m 92 ls []) := by
  obtain ⟨⟨hx, hb, hml, hown, hts⟩, hK, hQ⟩ := id X
  intro x1 x2 x3 x4 M H locs ls hT h hl
  unfold T_X12_couplesBy_92 at hT
  obtain ⟨y1, ey1⟩ : ∃ z : Int32, z = x4 + (1 : Int32) := ⟨_, rfl⟩
  have hT := hT y1 ey1
  refine lv_iinc (v := y1) (lv' := [(4, .int y1), (0, .ref (G.2.2.2 + 159)), (1, .int x1), (2, .int x2), (3, .int x3)]) hx hb dX12_couplesBy_92 hl (k := 4) rfl (by rw [ey1]; rfl) (by decide) rfl (fun ls hl => ?_)
  refine lv_goto (tgt := 15) hx hb dX12_couplesBy_95 (by decide) ?_
  exact hB15 x1 x2 x3 y1 M _ _ ls hT h (lv_sub hl [1, 2, 3, 4, 0] rfl)
def T_X12_couplesBy_77 (B4 : Int32 → Int32 → Int32 → Mm → Prop) (B15 : Int32 → Int32 → Int32 → Int32 → Mm → Prop) (B27 : Int32 → Int32 → Int32 → Int32 → Int32 → Int32 → Mm → Prop) (x1 : Int32) (x2 : Int32) (x3 : Int32) (x4 : Int32) (x5 : Int32) (x6 : Int32) (M : Mm) (K : Int32 → Mm → Prop) : Prop := (∀ y2 : Int32, y2 = x6 + (1 : Int32) → (B27 x1 x2 x3 x4 x5 y2 M))
set_option maxHeartbeats 4000000 in
set_option maxRecDepth 100000 in
theorem w_X12_couplesBy_77 {p : Program} {l : Launch} {e : Env} {s : State} {m : MethodId} {args : Array Value} {below : List Frame} {meth : Method} {c : Code} {G : fx_G} {K : Int32 → Mm → Prop} {B4 : Int32 → Int32 → Int32 → Mm → Prop} {B15 : Int32 → Int32 → Int32 → Int32 → Mm → Prop} {B27 : Int32 → Int32 → Int32 → Int32 → Int32 → Int32 → Mm → Prop} (X : fx_C G p s m c args cX12_couplesBy 7 RX12) (hr : meth.sig.returnType = (some .int)) (hk : meth.locks = false) (hB4 : ∀ (x1 : Int32) (x2 : Int32) (x3 : Int32) (M : Mm) (H : Heap) (locs : List Loc) (ls : Array Slot), B4 x1 x2 x3 M → fx_H G SH M s H locs → lv_has ls 7 [(0, .ref (G.2.2.2 + 159)), (1, .int x1), (2, .int x2), (3, .int x3)] → W p l e (fx_rm (1)) s m args below meth c H locs 0 0 (MQ below (va_Qi K (fx_R G SH) (fx_A G)) args s 0 0 (fx_A G)) (F0 m 4 ls [])) (hB15 : ∀ (x1 : Int32) (x2 : Int32) (x3 : Int32) (x4 : Int32) (M : Mm) (H : Heap) (locs : List Loc) (ls : Array Slot), B15 x1 x2 x3 x4 M → fx_H G SH M s H locs → lv_has ls 7 [(0, .ref (G.2.2.2 + 159)), (1, .int x1), (2, .int x2), (3, .int x3), (4, .int x4)] → W p l e (fx_rm (1)) s m args below meth c H locs 0 0 (MQ below (va_Qi K (fx_R G SH) (fx_A G)) args s 0 0 (fx_A G)) (F0 m 15 ls [])) (hB27 : ∀ (x1 : Int32) (x2 : Int32) (x3 : Int32) (x4 : Int32) (x5 : Int32) (x6 : Int32) (M : Mm) (H : Heap) (locs : List Loc) (ls : Array Slot), B27 x1 x2 x3 x4 x5 x6 M → fx_H G SH M s H locs → lv_has ls 7 [(0, .ref (G.2.2.2 + 159)), (1, .int x1), (2, .int x2), (3, .int x3), (4, .int x4), (5, .int x5), (6, .int x6)] → W p l e (fx_rm (1)) s m args below meth c H locs 0 0 (MQ below (va_Qi K (fx_R G SH) (fx_A G)) args s 0 0 (fx_A G)) (F0 m 27 ls [])) : ∀ (x1 : Int32) (x2 : Int32) (x3 : Int32) (x4 : Int32) (x5 : Int32) (x6 : Int32) (M : Mm) (H : Heap) (locs : List Loc) (ls : Array Slot), T_X12_couplesBy_77 B4 B15 B27 x1 x2 x3 x4 x5 x6 M K → fx_H G SH M s H locs → lv_has ls 7 [(0, .ref (G.2.2.2 + 159)), (1, .int x1), (2, .int x2), (3, .int x3), (4, .int x4), (5, .int x5), (6, .int x6)] → W p l e (fx_rm (1)) s m args below meth c H locs 0 0 (MQ below (va_Qi K (fx_R G SH) (fx_A G)) args s 0 0 (fx_A G)) (F0 m 77 ls []) := by
  obtain ⟨⟨hx, hb, hml, hown, hts⟩, hK, hQ⟩ := id X
  intro x1 x2 x3 x4 x5 x6 M H locs ls hT h hl
  unfold T_X12_couplesBy_77 at hT
  obtain ⟨y2, ey2⟩ : ∃ z : Int32, z = x6 + (1 : Int32) := ⟨_, rfl⟩
  have hT := hT y2 ey2
  refine lv_iinc (v := y2) (lv' := [(6, .int y2), (0, .ref (G.2.2.2 + 159)), (1, .int x1), (2, .int x2), (3, .int x3), (4, .int x4), (5, .int x5)]) hx hb dX12_couplesBy_77 hl (k := 6) rfl (by rw [ey2]; rfl) (by decide) rfl (fun ls hl => ?_)
  refine lv_goto (tgt := 27) hx hb dX12_couplesBy_80 (by decide) ?_
  exact hB27 x1 x2 x3 x4 x5 y2 M _ _ ls hT h (lv_sub hl [1, 2, 3, 4, 5, 6, 0] rfl)
def T_X12_couplesBy_27 (B4 : Int32 → Int32 → Int32 → Mm → Prop) (B15 : Int32 → Int32 → Int32 → Int32 → Mm → Prop) : Nat → Int32 → Int32 → Int32 → Int32 → Int32 → Int32 → Mm → (Int32 → Mm → Prop) → Prop
  | 0, _, _, _, _, _, _, _, _ => False
  | n + 1, x1, x2, x3, x4, x5, x6, M, K => (((M 159 62) ≤ x6 → ((x5 = 0 → (T_X12_couplesBy_92 B4 B15 x1 x2 x3 x4 M K)) ∧ (¬ x5 = 0 → (∀ y5 : Int32, y5 = (x2 + (1 : Int32)) → (T_X12_couplesBy_92 B4 B15 x1 y5 x3 x4 M K))))) ∧ (¬ (M 159 62) ≤ x6 → (T_X12_has x1 x6 M (fun r8 M7 => ((r8 = 0 → (T_X12_couplesBy_77 B4 B15 (fun x1 x2 x3 x4 x5 x6 M => T_X12_couplesBy_27 B4 B15 n x1 x2 x3 x4 x5 x6 M K) x1 x2 x3 x4 x5 x6 M7 K)) ∧ (¬ r8 = 0 → (vp_in x6 8 ∧ (T_X12_has (M7 195 (x6).toNatClampNeg) x3 M7 (fun r13 M12 => (vp_in x6 8 ∧ (T_X12_has (M12 195 (x6).toNatClampNeg) x4 M12 (fun r17 M16 => ((r13 = r17 → (T_X12_couplesBy_77 B4 B15 (fun x1 x2 x3 x4 x5 x6 M => T_X12_couplesBy_27 B4 B15 n x1 x2 x3 x4 x5 x6 M K) x1 x2 x3 x4 x5 x6 M16 K)) ∧ (¬ r13 = r17 → (T_X12_couplesBy_77 B4 B15 (fun x1 x2 x3 x4 x5 x6 M => T_X12_couplesBy_27 B4 B15 n x1 x2 x3 x4 x5 x6 M K) x1 x2 x3 x4 (1 : Int32) x6 M16 K)))))))))))))))
set_option maxHeartbeats 4000000 in
set_option maxRecDepth 100000 in
theorem w_X12_couplesBy_27 {p : Program} {l : Launch} {e : Env} {s : State} {m : MethodId} {args : Array Value} {below : List Frame} {meth : Method} {c : Code} {G : fx_G} {K : Int32 → Mm → Prop} {B4 : Int32 → Int32 → Int32 → Mm → Prop} {B15 : Int32 → Int32 → Int32 → Int32 → Mm → Prop} (X : fx_C G p s m c args cX12_couplesBy 7 RX12) (hr : meth.sig.returnType = (some .int)) (hk : meth.locks = false) (hB4 : ∀ (x1 : Int32) (x2 : Int32) (x3 : Int32) (M : Mm) (H : Heap) (locs : List Loc) (ls : Array Slot), B4 x1 x2 x3 M → fx_H G SH M s H locs → lv_has ls 7 [(0, .ref (G.2.2.2 + 159)), (1, .int x1), (2, .int x2), (3, .int x3)] → W p l e (fx_rm (1)) s m args below meth c H locs 0 0 (MQ below (va_Qi K (fx_R G SH) (fx_A G)) args s 0 0 (fx_A G)) (F0 m 4 ls [])) (hB15 : ∀ (x1 : Int32) (x2 : Int32) (x3 : Int32) (x4 : Int32) (M : Mm) (H : Heap) (locs : List Loc) (ls : Array Slot), B15 x1 x2 x3 x4 M → fx_H G SH M s H locs → lv_has ls 7 [(0, .ref (G.2.2.2 + 159)), (1, .int x1), (2, .int x2), (3, .int x3), (4, .int x4)] → W p l e (fx_rm (1)) s m args below meth c H locs 0 0 (MQ below (va_Qi K (fx_R G SH) (fx_A G)) args s 0 0 (fx_A G)) (F0 m 15 ls [])) : ∀ (n : Nat) (x1 : Int32) (x2 : Int32) (x3 : Int32) (x4 : Int32) (x5 : Int32) (x6 : Int32) (M : Mm) (H : Heap) (locs : List Loc) (ls : Array Slot), T_X12_couplesBy_27 B4 B15 n x1 x2 x3 x4 x5 x6 M K → fx_H G SH M s H locs → lv_has ls 7 [(0, .ref (G.2.2.2 + 159)), (1, .int x1), (2, .int x2), (3, .int x3), (4, .int x4), (5, .int x5), (6, .int x6)] → W p l e (fx_rm (1)) s m args below meth c H locs 0 0 (MQ below (va_Qi K (fx_R G SH) (fx_A G)) args s 0 0 (fx_A G)) (F0 m 27 ls []) := by
  obtain ⟨⟨hx, hb, hml, hown, hts⟩, hK, hQ⟩ := id X
  intro n
  induction n with
  | zero =>
    intro x1 x2 x3 x4 x5 x6 M H locs ls hT
    exact hT.elim
  | succ n ih =>
    intro x1 x2 x3 x4 x5 x6 M H locs ls hT h hl
    rw [T_X12_couplesBy_27] at hT
    refine lv_iload hx hb dX12_couplesBy_27 (lv_at hl 6 rfl) ?_
    refine lv_aload_n hx hb dX12_couplesBy_29 rfl (lv_at hl 0 rfl) ?_
    refine fx_getI X h (k := 159) (j := 62) sh_159 rfl fl_RX12_483 dX12_couplesBy_30 ?_
    refine lv_icmp_ge (tgt := 83) hx hb dX12_couplesBy_33 (by decide) (fun hc3 => ?_) (fun hc3 => ?_)
    · have hT := hT.1 hc3
      refine lv_iload hx hb dX12_couplesBy_83 (lv_at hl 5 rfl) ?_
      refine lv_if_eq (tgt := 92) hx hb dX12_couplesBy_85 (by decide) (fun hc4 => ?_) (fun hc4 => ?_)
      · have hT := hT.1 hc4
        exact w_X12_couplesBy_92 X hr hk (B4 := B4) hB4 (B15 := B15) hB15 x1 x2 x3 x4 M _ _ ls hT h (lv_sub hl [0, 1, 2, 3, 4] rfl)
      · have hT := hT.2 hc4
        refine lv_iload_n hx hb dX12_couplesBy_88 rfl (lv_at hl 2 rfl) ?_
        refine lv_iconst (v := 1) hx hb dX12_couplesBy_89 (by decide) ?_
        refine lv_iadd hx hb dX12_couplesBy_90 ?_
        refine lv_topi (fun y5 ey5 => ?_)
        have hT := hT y5 ey5
        refine lv_istore_n (lv' := [(2, .int y5), (0, .ref (G.2.2.2 + 159)), (1, .int x1), (3, .int x3), (4, .int x4), (5, .int x5), (6, .int x6)]) hx hb dX12_couplesBy_91 rfl hl (by decide) rfl (fun ls hl => ?_)
        exact w_X12_couplesBy_92 X hr hk (B4 := B4) hB4 (B15 := B15) hB15 x1 y5 x3 x4 M _ _ ls hT h (lv_sub hl [1, 2, 0, 3, 4] rfl)
    · have hT := hT.2 hc3
      refine lv_aload_n hx hb dX12_couplesBy_36 rfl (lv_at hl 0 rfl) ?_
      refine lv_iload_n hx hb dX12_couplesBy_37 rfl (lv_at hl 1 rfl) ?_
      refine lv_iload hx hb dX12_couplesBy_38 (lv_at hl 6 rfl) ?_
      refine fx_vi X h ym_X12_has yi_X12_has ys_X12_has (fx_s8 (List.mem_of_getElem? (i := 221) rfl) rfl) sh_159 rfl (c_X12_has l G hT) (As := [.int x1, .int x6]) (rest := []) rfl rfl ⟨Nat.le_of_ble_eq_true rfl, Nat.le_of_ble_eq_true rfl⟩ ⟨Nat.le_refl _, Nat.le_refl _⟩ hl.1 (Nat.le_of_ble_eq_true rfl) dX12_couplesBy_40 (fun r8 M7 H locs hT h => ?_)
      refine lv_if_eq (tgt := 77) hx hb dX12_couplesBy_43 (by decide) (fun hc9 => ?_) (fun hc9 => ?_)
      · have hT := hT.1 hc9
        exact w_X12_couplesBy_77 X hr hk (B4 := B4) hB4 (B15 := B15) hB15 (B27 := (fun x1 x2 x3 x4 x5 x6 M => T_X12_couplesBy_27 B4 B15 n x1 x2 x3 x4 x5 x6 M K)) ih x1 x2 x3 x4 x5 x6 M7 _ _ ls hT h (lv_sub hl [0, 1, 2, 3, 4, 5, 6] rfl)
      · have hT := hT.2 hc9
        refine lv_aload_n hx hb dX12_couplesBy_46 rfl (lv_at hl 0 rfl) ?_
        refine lv_aload_n hx hb dX12_couplesBy_47 rfl (lv_at hl 0 rfl) ?_
        refine fx_getR X h (k := 159) (j := 63) (r := 195) sh_159 rfl fl_RX12_119 dX12_couplesBy_48 ?_
        refine lv_iload hx hb dX12_couplesBy_51 (lv_at hl 6 rfl) ?_
        obtain ⟨hi10, hT⟩ := hT
        refine fx_iald X h (k := 195) sh_195 hi10 dX12_couplesBy_53 ?_
        refine lv_iload_n hx hb dX12_couplesBy_54 rfl (lv_at hl 3 rfl) ?_
        refine fx_vi X h ym_X12_has yi_X12_has ys_X12_has (fx_s8 (List.mem_of_getElem? (i := 221) rfl) rfl) sh_159 rfl (c_X12_has l G hT) (As := [.int (M7 195 (x6).toNatClampNeg), .int x3]) (rest := []) rfl rfl ⟨Nat.le_of_ble_eq_true rfl, Nat.le_of_ble_eq_true rfl⟩ ⟨Nat.le_refl _, Nat.le_refl _⟩ hl.1 (Nat.le_of_ble_eq_true rfl) dX12_couplesBy_55 (fun r13 M12 H locs hT h => ?_)
        refine lv_aload_n hx hb dX12_couplesBy_58 rfl (lv_at hl 0 rfl) ?_
        refine lv_aload_n hx hb dX12_couplesBy_59 rfl (lv_at hl 0 rfl) ?_
        refine fx_getR X h (k := 159) (j := 63) (r := 195) sh_159 rfl fl_RX12_119 dX12_couplesBy_60 ?_
        refine lv_iload hx hb dX12_couplesBy_63 (lv_at hl 6 rfl) ?_
        obtain ⟨hi14, hT⟩ := hT
        refine fx_iald X h (k := 195) sh_195 hi14 dX12_couplesBy_65 ?_
        refine lv_iload hx hb dX12_couplesBy_66 (lv_at hl 4 rfl) ?_
        refine fx_vi X h ym_X12_has yi_X12_has ys_X12_has (fx_s8 (List.mem_of_getElem? (i := 221) rfl) rfl) sh_159 rfl (c_X12_has l G hT) (As := [.int (M12 195 (x6).toNatClampNeg), .int x4]) (rest := [.int r13]) rfl rfl ⟨Nat.le_of_ble_eq_true rfl, Nat.le_of_ble_eq_true rfl⟩ ⟨Nat.le_refl _, Nat.le_refl _⟩ hl.1 (Nat.le_of_ble_eq_true rfl) dX12_couplesBy_68 (fun r17 M16 H locs hT h => ?_)
        refine lv_icmp_eq (tgt := 77) hx hb dX12_couplesBy_71 (by decide) (fun hc18 => ?_) (fun hc18 => ?_)
        · have hT := hT.1 hc18
          exact w_X12_couplesBy_77 X hr hk (B4 := B4) hB4 (B15 := B15) hB15 (B27 := (fun x1 x2 x3 x4 x5 x6 M => T_X12_couplesBy_27 B4 B15 n x1 x2 x3 x4 x5 x6 M K)) ih x1 x2 x3 x4 x5 x6 M16 _ _ ls hT h (lv_sub hl [0, 1, 2, 3, 4, 5, 6] rfl)
        · have hT := hT.2 hc18
          refine lv_iconst (v := 1) hx hb dX12_couplesBy_74 (by decide) ?_
          refine lv_istore (lv' := [(5, .int (1 : Int32)), (0, .ref (G.2.2.2 + 159)), (1, .int x1), (2, .int x2), (3, .int x3), (4, .int x4), (6, .int x6)]) hx hb dX12_couplesBy_75 hl (by decide) rfl (fun ls hl => ?_)
          exact w_X12_couplesBy_77 X hr hk (B4 := B4) hB4 (B15 := B15) hB15 (B27 := (fun x1 x2 x3 x4 x5 x6 M => T_X12_couplesBy_27 B4 B15 n x1 x2 x3 x4 x5 x6 M K)) ih x1 x2 x3 x4 (1 : Int32) x6 M16 _ _ ls hT h (lv_sub hl [1, 2, 3, 4, 5, 0, 6] rfl)
def T_X12_couplesBy_15 (B4 : Int32 → Int32 → Int32 → Mm → Prop) : Nat → Int32 → Int32 → Int32 → Int32 → Mm → (Int32 → Mm → Prop) → Prop
  | 0, _, _, _, _, _, _ => False
  | n + 1, x1, x2, x3, x4, M, K => ((x3 ≤ x4 → (∀ y20 : Int32, y20 = x3 + (1 : Int32) → (B4 x1 x2 y20 M))) ∧ (¬ x3 ≤ x4 → (T_X12_couplesBy_27 B4 (fun x1 x2 x3 x4 M => T_X12_couplesBy_15 B4 n x1 x2 x3 x4 M K) 5000 x1 x2 x3 x4 (0 : Int32) (0 : Int32) M K)))
set_option maxHeartbeats 4000000 in
set_option maxRecDepth 100000 in
theorem w_X12_couplesBy_15 {p : Program} {l : Launch} {e : Env} {s : State} {m : MethodId} {args : Array Value} {below : List Frame} {meth : Method} {c : Code} {G : fx_G} {K : Int32 → Mm → Prop} {B4 : Int32 → Int32 → Int32 → Mm → Prop} (X : fx_C G p s m c args cX12_couplesBy 7 RX12) (hr : meth.sig.returnType = (some .int)) (hk : meth.locks = false) (hB4 : ∀ (x1 : Int32) (x2 : Int32) (x3 : Int32) (M : Mm) (H : Heap) (locs : List Loc) (ls : Array Slot), B4 x1 x2 x3 M → fx_H G SH M s H locs → lv_has ls 7 [(0, .ref (G.2.2.2 + 159)), (1, .int x1), (2, .int x2), (3, .int x3)] → W p l e (fx_rm (1)) s m args below meth c H locs 0 0 (MQ below (va_Qi K (fx_R G SH) (fx_A G)) args s 0 0 (fx_A G)) (F0 m 4 ls [])) : ∀ (n : Nat) (x1 : Int32) (x2 : Int32) (x3 : Int32) (x4 : Int32) (M : Mm) (H : Heap) (locs : List Loc) (ls : Array Slot), T_X12_couplesBy_15 B4 n x1 x2 x3 x4 M K → fx_H G SH M s H locs → lv_has ls 7 [(0, .ref (G.2.2.2 + 159)), (1, .int x1), (2, .int x2), (3, .int x3), (4, .int x4)] → W p l e (fx_rm (1)) s m args below meth c H locs 0 0 (MQ below (va_Qi K (fx_R G SH) (fx_A G)) args s 0 0 (fx_A G)) (F0 m 15 ls []) := by
  obtain ⟨⟨hx, hb, hml, hown, hts⟩, hK, hQ⟩ := id X
  intro n
  induction n with
  | zero =>
    intro x1 x2 x3 x4 M H locs ls hT
    exact hT.elim
  | succ n ih =>
    intro x1 x2 x3 x4 M H locs ls hT h hl
    rw [T_X12_couplesBy_15] at hT
    refine lv_iload hx hb dX12_couplesBy_15 (lv_at hl 4 rfl) ?_
    refine lv_iload_n hx hb dX12_couplesBy_17 rfl (lv_at hl 3 rfl) ?_
    refine lv_icmp_ge (tgt := 98) hx hb dX12_couplesBy_18 (by decide) (fun hc19 => ?_) (fun hc19 => ?_)
    · have hT := hT.1 hc19
      obtain ⟨y20, ey20⟩ : ∃ z : Int32, z = x3 + (1 : Int32) := ⟨_, rfl⟩
      have hT := hT y20 ey20
      refine lv_iinc (v := y20) (lv' := [(3, .int y20), (0, .ref (G.2.2.2 + 159)), (1, .int x1), (2, .int x2), (4, .int x4)]) hx hb dX12_couplesBy_98 hl (k := 3) rfl (by rw [ey20]; rfl) (by decide) rfl (fun ls hl => ?_)
      refine lv_goto (tgt := 4) hx hb dX12_couplesBy_101 (by decide) ?_
      exact hB4 x1 x2 y20 M _ _ ls hT h (lv_sub hl [1, 2, 3, 0] rfl)
    · have hT := hT.2 hc19
      refine lv_iconst (v := 0) hx hb dX12_couplesBy_21 (by decide) ?_
      refine lv_istore (lv' := [(5, .int (0 : Int32)), (0, .ref (G.2.2.2 + 159)), (1, .int x1), (2, .int x2), (3, .int x3), (4, .int x4)]) hx hb dX12_couplesBy_22 hl (by decide) rfl (fun ls hl => ?_)
      refine lv_iconst (v := 0) hx hb dX12_couplesBy_24 (by decide) ?_
      refine lv_istore (lv' := [(6, .int (0 : Int32)), (5, .int (0 : Int32)), (0, .ref (G.2.2.2 + 159)), (1, .int x1), (2, .int x2), (3, .int x3), (4, .int x4)]) hx hb dX12_couplesBy_25 hl (by decide) rfl (fun ls hl => ?_)
      exact w_X12_couplesBy_27 X hr hk (B4 := B4) hB4 (B15 := (fun x1 x2 x3 x4 M => T_X12_couplesBy_15 B4 n x1 x2 x3 x4 M K)) ih 5000 x1 x2 x3 x4 (0 : Int32) (0 : Int32) M _ _ ls hT h (lv_sub hl [2, 3, 4, 5, 6, 1, 0] rfl)
def T_X12_couplesBy_4 : Nat → Int32 → Int32 → Int32 → Mm → (Int32 → Mm → Prop) → Prop
  | 0, _, _, _, _, _ => False
  | n + 1, x1, x2, x3, M, K => (((M 159 6) ≤ x3 → (K x2 M)) ∧ (¬ (M 159 6) ≤ x3 → (T_X12_couplesBy_15 (fun x1 x2 x3 M => T_X12_couplesBy_4 n x1 x2 x3 M K) 5000 x1 x2 x3 (0 : Int32) M K)))
set_option maxHeartbeats 4000000 in
set_option maxRecDepth 100000 in
theorem w_X12_couplesBy_4 {p : Program} {l : Launch} {e : Env} {s : State} {m : MethodId} {args : Array Value} {below : List Frame} {meth : Method} {c : Code} {G : fx_G} {K : Int32 → Mm → Prop} (X : fx_C G p s m c args cX12_couplesBy 7 RX12) (hr : meth.sig.returnType = (some .int)) (hk : meth.locks = false) : ∀ (n : Nat) (x1 : Int32) (x2 : Int32) (x3 : Int32) (M : Mm) (H : Heap) (locs : List Loc) (ls : Array Slot), T_X12_couplesBy_4 n x1 x2 x3 M K → fx_H G SH M s H locs → lv_has ls 7 [(0, .ref (G.2.2.2 + 159)), (1, .int x1), (2, .int x2), (3, .int x3)] → W p l e (fx_rm (1)) s m args below meth c H locs 0 0 (MQ below (va_Qi K (fx_R G SH) (fx_A G)) args s 0 0 (fx_A G)) (F0 m 4 ls []) := by
  obtain ⟨⟨hx, hb, hml, hown, hts⟩, hK, hQ⟩ := id X
  intro n
  induction n with
  | zero =>
    intro x1 x2 x3 M H locs ls hT
    exact hT.elim
  | succ n ih =>
    intro x1 x2 x3 M H locs ls hT h hl
    rw [T_X12_couplesBy_4] at hT
    refine lv_iload_n hx hb dX12_couplesBy_4 rfl (lv_at hl 3 rfl) ?_
    refine lv_aload_n hx hb dX12_couplesBy_5 rfl (lv_at hl 0 rfl) ?_
    refine fx_getI X h (k := 159) (j := 6) sh_159 rfl fl_RX12_147 dX12_couplesBy_6 ?_
    refine lv_icmp_ge (tgt := 104) hx hb dX12_couplesBy_9 (by decide) (fun hc21 => ?_) (fun hc21 => ?_)
    · have hT := hT.1 hc21
      refine lv_iload_n hx hb dX12_couplesBy_104 rfl (lv_at hl 2 rfl) ?_
      exact fx_iret X hr hk h hT dX12_couplesBy_105
    · have hT := hT.2 hc21
      refine lv_iconst (v := 0) hx hb dX12_couplesBy_12 (by decide) ?_
      refine lv_istore (lv' := [(4, .int (0 : Int32)), (0, .ref (G.2.2.2 + 159)), (1, .int x1), (2, .int x2), (3, .int x3)]) hx hb dX12_couplesBy_13 hl (by decide) rfl (fun ls hl => ?_)
      exact w_X12_couplesBy_15 X hr hk (B4 := (fun x1 x2 x3 M => T_X12_couplesBy_4 n x1 x2 x3 M K)) ih 5000 x1 x2 x3 (0 : Int32) M _ _ ls hT h (lv_sub hl [1, 2, 3, 4, 0] rfl)
def T_X12_couplesBy (x1 : Int32) (M : Mm) (K : Int32 → Mm → Prop) : Prop := (T_X12_couplesBy_4 5000 x1 (0 : Int32) (0 : Int32) M K)
set_option maxHeartbeats 4000000 in
set_option maxRecDepth 100000 in
theorem c_X12_couplesBy (l : Launch) (G : fx_G) {x1 : Int32} {M : Mm} {K : Int32 → Mm → Prop} (hT : T_X12_couplesBy x1 M K) : Met l yX12_couplesBy (fx_ws yX12_couplesBy cX12_couplesBy 7 (some .int)) (fx_rm (1)) (va_Pc [.ref (G.2.2.2 + 159), .int x1] (fx_P G SH M)) (va_Qi K (fx_R G SH) (fx_A G)) 0 0 (fx_A G) := by
  refine fx_met (own := RX12) (by decide +kernel) rfl (Nat.le_of_ble_eq_true rfl) (fun p e s m below meth c X hr hk h ls hl => ?_)
  obtain ⟨⟨hx, hb, hml, hown, hts⟩, hK, hQ⟩ := id X
  have hl : lv_has ls 7 [(0, .ref (G.2.2.2 + 159)), (1, .int x1)] := hl
  unfold T_X12_couplesBy at hT
  refine lv_iconst (v := 0) hx hb dX12_couplesBy_0 (by decide) ?_
  refine lv_istore_n (lv' := [(2, .int (0 : Int32)), (0, .ref (G.2.2.2 + 159)), (1, .int x1)]) hx hb dX12_couplesBy_1 rfl hl (by decide) rfl (fun ls hl => ?_)
  refine lv_iconst (v := 0) hx hb dX12_couplesBy_2 (by decide) ?_
  refine lv_istore_n (lv' := [(3, .int (0 : Int32)), (2, .int (0 : Int32)), (0, .ref (G.2.2.2 + 159)), (1, .int x1)]) hx hb dX12_couplesBy_3 rfl hl (by decide) rfl (fun ls hl => ?_)
  exact w_X12_couplesBy_4 X hr hk 5000 x1 (0 : Int32) (0 : Int32) M _ _ ls hT h (lv_sub hl [2, 3, 1, 0] rfl)
/-! MockParcelsModel.fewestParts()I -/
theorem dX12_fewestParts_0 : decode cX12_fewestParts 0 = .ok (.aload_n 0, 1) := by decide +kernel
theorem dX12_fewestParts_1 : decode cX12_fewestParts 1 = .ok (.iconst 1, 1) := by decide +kernel
theorem dX12_fewestParts_2 : decode cX12_fewestParts 2 = .ok (.aload_n 0, 1) := by decide +kernel
theorem dX12_fewestParts_3 : decode cX12_fewestParts 3 = .ok (.getfield 483, 3) := by decide +kernel
theorem dX12_fewestParts_6 : decode cX12_fewestParts 6 = .ok (.ishl, 1) := by decide +kernel
theorem dX12_fewestParts_7 : decode cX12_fewestParts 7 = .ok (.iconst 1, 1) := by decide +kernel
theorem dX12_fewestParts_8 : decode cX12_fewestParts 8 = .ok (.isub, 1) := by decide +kernel
theorem dX12_fewestParts_9 : decode cX12_fewestParts 9 = .ok (.invokevirtual 487, 3) := by decide +kernel
theorem dX12_fewestParts_12 : decode cX12_fewestParts 12 = .ok (.istore_n 1, 1) := by decide +kernel
theorem dX12_fewestParts_13 : decode cX12_fewestParts 13 = .ok (.aload_n 0, 1) := by decide +kernel
theorem dX12_fewestParts_14 : decode cX12_fewestParts 14 = .ok (.getfield 483, 3) := by decide +kernel
theorem dX12_fewestParts_17 : decode cX12_fewestParts 17 = .ok (.istore_n 2, 1) := by decide +kernel
theorem dX12_fewestParts_18 : decode cX12_fewestParts 18 = .ok (.iconst 0, 1) := by decide +kernel
theorem dX12_fewestParts_19 : decode cX12_fewestParts 19 = .ok (.istore_n 3, 1) := by decide +kernel
theorem dX12_fewestParts_20 : decode cX12_fewestParts 20 = .ok (.iload_n 3, 1) := by decide +kernel
theorem dX12_fewestParts_21 : decode cX12_fewestParts 21 = .ok (.iconst 1, 1) := by decide +kernel
theorem dX12_fewestParts_22 : decode cX12_fewestParts 22 = .ok (.aload_n 0, 1) := by decide +kernel
theorem dX12_fewestParts_23 : decode cX12_fewestParts 23 = .ok (.getfield 483, 3) := by decide +kernel
theorem dX12_fewestParts_26 : decode cX12_fewestParts 26 = .ok (.ishl, 1) := by decide +kernel
theorem dX12_fewestParts_27 : decode cX12_fewestParts 27 = .ok (.if_icmp .ge 33, 3) := by decide +kernel
theorem dX12_fewestParts_30 : decode cX12_fewestParts 30 = .ok (.aload_n 0, 1) := by decide +kernel
theorem dX12_fewestParts_31 : decode cX12_fewestParts 31 = .ok (.iload_n 3, 1) := by decide +kernel
theorem dX12_fewestParts_32 : decode cX12_fewestParts 32 = .ok (.invokevirtual 420, 3) := by decide +kernel
theorem dX12_fewestParts_35 : decode cX12_fewestParts 35 = .ok (.iload_n 2, 1) := by decide +kernel
theorem dX12_fewestParts_36 : decode cX12_fewestParts 36 = .ok (.if_icmp .ge 18, 3) := by decide +kernel
theorem dX12_fewestParts_39 : decode cX12_fewestParts 39 = .ok (.aload_n 0, 1) := by decide +kernel
theorem dX12_fewestParts_40 : decode cX12_fewestParts 40 = .ok (.iload_n 3, 1) := by decide +kernel
theorem dX12_fewestParts_41 : decode cX12_fewestParts 41 = .ok (.invokevirtual 487, 3) := by decide +kernel
theorem dX12_fewestParts_44 : decode cX12_fewestParts 44 = .ok (.iload_n 1, 1) := by decide +kernel
theorem dX12_fewestParts_45 : decode cX12_fewestParts 45 = .ok (.if_icmp .ne 9, 3) := by decide +kernel
theorem dX12_fewestParts_48 : decode cX12_fewestParts 48 = .ok (.aload_n 0, 1) := by decide +kernel
theorem dX12_fewestParts_49 : decode cX12_fewestParts 49 = .ok (.iload_n 3, 1) := by decide +kernel
theorem dX12_fewestParts_50 : decode cX12_fewestParts 50 = .ok (.invokevirtual 420, 3) := by decide +kernel
theorem dX12_fewestParts_53 : decode cX12_fewestParts 53 = .ok (.istore_n 2, 1) := by decide +kernel
theorem dX12_fewestParts_54 : decode cX12_fewestParts 54 = .ok (.iinc 3 1, 3) := by decide +kernel
theorem dX12_fewestParts_57 : decode cX12_fewestParts 57 = .ok (.goto (-37), 3) := by decide +kernel
theorem dX12_fewestParts_60 : decode cX12_fewestParts 60 = .ok (.iload_n 2, 1) := by decide +kernel
theorem dX12_fewestParts_61 : decode cX12_fewestParts 61 = .ok (.ireturn, 1) := by decide +kernel
def T_X12_fewestParts_54 (B20 : Int32 → Int32 → Int32 → Mm → Prop) (x1 : Int32) (x2 : Int32) (x3 : Int32) (M : Mm) (K : Int32 → Mm → Prop) : Prop := (∀ y1 : Int32, y1 = x3 + (1 : Int32) → (B20 x1 x2 y1 M))
set_option maxHeartbeats 4000000 in
set_option maxRecDepth 100000 in
theorem w_X12_fewestParts_54 {p : Program} {l : Launch} {e : Env} {s : State} {m : MethodId} {args : Array Value} {below : List Frame} {meth : Method} {c : Code} {G : fx_G} {K : Int32 → Mm → Prop} {B20 : Int32 → Int32 → Int32 → Mm → Prop} (X : fx_C G p s m c args cX12_fewestParts 4 RX12) (hr : meth.sig.returnType = (some .int)) (hk : meth.locks = false) (hB20 : ∀ (x1 : Int32) (x2 : Int32) (x3 : Int32) (M : Mm) (H : Heap) (locs : List Loc) (ls : Array Slot), B20 x1 x2 x3 M → fx_H G SH M s H locs → lv_has ls 4 [(0, .ref (G.2.2.2 + 159)), (1, .int x1), (2, .int x2), (3, .int x3)] → W p l e (fx_rm (2)) s m args below meth c H locs 0 0 (MQ below (va_Qi K (fx_R G SH) (fx_A G)) args s 0 0 (fx_A G)) (F0 m 20 ls [])) : ∀ (x1 : Int32) (x2 : Int32) (x3 : Int32) (M : Mm) (H : Heap) (locs : List Loc) (ls : Array Slot), T_X12_fewestParts_54 B20 x1 x2 x3 M K → fx_H G SH M s H locs → lv_has ls 4 [(0, .ref (G.2.2.2 + 159)), (1, .int x1), (2, .int x2), (3, .int x3)] → W p l e (fx_rm (2)) s m args below meth c H locs 0 0 (MQ below (va_Qi K (fx_R G SH) (fx_A G)) args s 0 0 (fx_A G)) (F0 m 54 ls []) := by
  obtain ⟨⟨hx, hb, hml, hown, hts⟩, hK, hQ⟩ := id X
  intro x1 x2 x3 M H locs ls hT h hl
  unfold T_X12_fewestParts_54 at hT
  obtain ⟨y1, ey1⟩ : ∃ z : Int32, z = x3 + (1 : Int32) := ⟨_, rfl⟩
  have hT := hT y1 ey1
  refine lv_iinc (v := y1) (lv' := [(3, .int y1), (0, .ref (G.2.2.2 + 159)), (1, .int x1), (2, .int x2)]) hx hb dX12_fewestParts_54 hl (k := 3) rfl (by rw [ey1]; rfl) (by decide) rfl (fun ls hl => ?_)
  refine lv_goto (tgt := 20) hx hb dX12_fewestParts_57 (by decide) ?_
  exact hB20 x1 x2 y1 M _ _ ls hT h (lv_sub hl [1, 2, 3, 0] rfl)
def T_X12_fewestParts_20 : Nat → Int32 → Int32 → Int32 → Mm → (Int32 → Mm → Prop) → Prop
  | 0, _, _, _, _, _ => False
  | n + 1, x1, x2, x3, M, K => ((((1 : Int32) <<< ((M 159 62) &&& 31)) ≤ x3 → (K x2 M)) ∧ (¬ ((1 : Int32) <<< ((M 159 62) &&& 31)) ≤ x3 → (T_X12_onesOf x3 M (fun r5 M4 => ((x2 ≤ r5 → (T_X12_fewestParts_54 (fun x1 x2 x3 M => T_X12_fewestParts_20 n x1 x2 x3 M K) x1 x2 x3 M4 K)) ∧ (¬ x2 ≤ r5 → (T_X12_couplesBy x3 M4 (fun r9 M8 => ((r9 = x1 → (T_X12_onesOf x3 M8 (fun r13 M12 => (T_X12_fewestParts_54 (fun x1 x2 x3 M => T_X12_fewestParts_20 n x1 x2 x3 M K) x1 r13 x3 M12 K)))) ∧ (¬ r9 = x1 → (T_X12_fewestParts_54 (fun x1 x2 x3 M => T_X12_fewestParts_20 n x1 x2 x3 M K) x1 x2 x3 M8 K)))))))))))
set_option maxHeartbeats 4000000 in
set_option maxRecDepth 100000 in
theorem w_X12_fewestParts_20 {p : Program} {l : Launch} {e : Env} {s : State} {m : MethodId} {args : Array Value} {below : List Frame} {meth : Method} {c : Code} {G : fx_G} {K : Int32 → Mm → Prop} (X : fx_C G p s m c args cX12_fewestParts 4 RX12) (hr : meth.sig.returnType = (some .int)) (hk : meth.locks = false) : ∀ (n : Nat) (x1 : Int32) (x2 : Int32) (x3 : Int32) (M : Mm) (H : Heap) (locs : List Loc) (ls : Array Slot), T_X12_fewestParts_20 n x1 x2 x3 M K → fx_H G SH M s H locs → lv_has ls 4 [(0, .ref (G.2.2.2 + 159)), (1, .int x1), (2, .int x2), (3, .int x3)] → W p l e (fx_rm (2)) s m args below meth c H locs 0 0 (MQ below (va_Qi K (fx_R G SH) (fx_A G)) args s 0 0 (fx_A G)) (F0 m 20 ls []) := by
  obtain ⟨⟨hx, hb, hml, hown, hts⟩, hK, hQ⟩ := id X
  intro n
  induction n with
  | zero =>
    intro x1 x2 x3 M H locs ls hT
    exact hT.elim
  | succ n ih =>
    intro x1 x2 x3 M H locs ls hT h hl
    rw [T_X12_fewestParts_20] at hT
    refine lv_iload_n hx hb dX12_fewestParts_20 rfl (lv_at hl 3 rfl) ?_
    refine lv_iconst (v := 1) hx hb dX12_fewestParts_21 (by decide) ?_
    refine lv_aload_n hx hb dX12_fewestParts_22 rfl (lv_at hl 0 rfl) ?_
    refine fx_getI X h (k := 159) (j := 62) sh_159 rfl fl_RX12_483 dX12_fewestParts_23 ?_
    refine lv_ishl hx hb dX12_fewestParts_26 ?_
    refine lv_icmp_ge (tgt := 60) hx hb dX12_fewestParts_27 (by decide) (fun hc2 => ?_) (fun hc2 => ?_)
    · have hT := hT.1 hc2
      refine lv_iload_n hx hb dX12_fewestParts_60 rfl (lv_at hl 2 rfl) ?_
      exact fx_iret X hr hk h hT dX12_fewestParts_61
    · have hT := hT.2 hc2
      refine lv_aload_n hx hb dX12_fewestParts_30 rfl (lv_at hl 0 rfl) ?_
      refine lv_iload_n hx hb dX12_fewestParts_31 rfl (lv_at hl 3 rfl) ?_
      refine fx_vi X h ym_X12_onesOf yi_X12_onesOf ys_X12_onesOf (fx_s8 (List.mem_of_getElem? (i := 171) rfl) rfl) sh_159 rfl (c_X12_onesOf l G hT) (As := [.int x3]) (rest := []) rfl rfl ⟨Nat.le_of_ble_eq_true rfl, Nat.le_of_ble_eq_true rfl⟩ ⟨Nat.le_refl _, Nat.le_refl _⟩ hl.1 (Nat.le_of_ble_eq_true rfl) dX12_fewestParts_32 (fun r5 M4 H locs hT h => ?_)
      refine lv_iload_n hx hb dX12_fewestParts_35 rfl (lv_at hl 2 rfl) ?_
      refine lv_icmp_ge (tgt := 54) hx hb dX12_fewestParts_36 (by decide) (fun hc6 => ?_) (fun hc6 => ?_)
      · have hT := hT.1 hc6
        exact w_X12_fewestParts_54 X hr hk (B20 := (fun x1 x2 x3 M => T_X12_fewestParts_20 n x1 x2 x3 M K)) ih x1 x2 x3 M4 _ _ ls hT h (lv_sub hl [0, 1, 2, 3] rfl)
      · have hT := hT.2 hc6
        refine lv_aload_n hx hb dX12_fewestParts_39 rfl (lv_at hl 0 rfl) ?_
        refine lv_iload_n hx hb dX12_fewestParts_40 rfl (lv_at hl 3 rfl) ?_
        refine fx_vi X h ym_X12_couplesBy yi_X12_couplesBy ys_X12_couplesBy (fx_s9 (List.mem_of_getElem? (i := 59) rfl) rfl) sh_159 rfl (c_X12_couplesBy l G hT) (As := [.int x3]) (rest := []) rfl rfl ⟨Nat.le_of_ble_eq_true rfl, Nat.le_of_ble_eq_true rfl⟩ ⟨Nat.le_refl _, Nat.le_refl _⟩ hl.1 (Nat.le_of_ble_eq_true rfl) dX12_fewestParts_41 (fun r9 M8 H locs hT h => ?_)
        refine lv_iload_n hx hb dX12_fewestParts_44 rfl (lv_at hl 1 rfl) ?_
        refine lv_icmp_ne (tgt := 54) hx hb dX12_fewestParts_45 (by decide) (fun hc10 => ?_) (fun hc10 => ?_)
        · have hT := hT.2 hc10
          exact w_X12_fewestParts_54 X hr hk (B20 := (fun x1 x2 x3 M => T_X12_fewestParts_20 n x1 x2 x3 M K)) ih x1 x2 x3 M8 _ _ ls hT h (lv_sub hl [0, 1, 2, 3] rfl)
        · have hT := hT.1 hc10
          refine lv_aload_n hx hb dX12_fewestParts_48 rfl (lv_at hl 0 rfl) ?_
          refine lv_iload_n hx hb dX12_fewestParts_49 rfl (lv_at hl 3 rfl) ?_
          refine fx_vi X h ym_X12_onesOf yi_X12_onesOf ys_X12_onesOf (fx_s8 (List.mem_of_getElem? (i := 171) rfl) rfl) sh_159 rfl (c_X12_onesOf l G hT) (As := [.int x3]) (rest := []) rfl rfl ⟨Nat.le_of_ble_eq_true rfl, Nat.le_of_ble_eq_true rfl⟩ ⟨Nat.le_refl _, Nat.le_refl _⟩ hl.1 (Nat.le_of_ble_eq_true rfl) dX12_fewestParts_50 (fun r13 M12 H locs hT h => ?_)
          refine lv_istore_n (lv' := [(2, .int r13), (0, .ref (G.2.2.2 + 159)), (1, .int x1), (3, .int x3)]) hx hb dX12_fewestParts_53 rfl hl (by decide) rfl (fun ls hl => ?_)
          exact w_X12_fewestParts_54 X hr hk (B20 := (fun x1 x2 x3 M => T_X12_fewestParts_20 n x1 x2 x3 M K)) ih x1 r13 x3 M12 _ _ ls hT h (lv_sub hl [1, 2, 0, 3] rfl)
def T_X12_fewestParts (M : Mm) (K : Int32 → Mm → Prop) : Prop := (T_X12_couplesBy (((1 : Int32) <<< ((M 159 62) &&& 31)) - (1 : Int32)) M (fun r16 M15 => (∀ y17 : Int32, y17 = (M15 159 62) → (T_X12_fewestParts_20 5000 r16 y17 (0 : Int32) M15 K))))
set_option maxHeartbeats 4000000 in
set_option maxRecDepth 100000 in
theorem c_X12_fewestParts (l : Launch) (G : fx_G) {M : Mm} {K : Int32 → Mm → Prop} (hT : T_X12_fewestParts M K) : Met l yX12_fewestParts (fx_ws yX12_fewestParts cX12_fewestParts 4 (some .int)) (fx_rm (2)) (va_Pc [.ref (G.2.2.2 + 159)] (fx_P G SH M)) (va_Qi K (fx_R G SH) (fx_A G)) 0 0 (fx_A G) := by
  refine fx_met (own := RX12) (by decide +kernel) rfl (Nat.le_of_ble_eq_true rfl) (fun p e s m below meth c X hr hk h ls hl => ?_)
  obtain ⟨⟨hx, hb, hml, hown, hts⟩, hK, hQ⟩ := id X
  have hl : lv_has ls 4 [(0, .ref (G.2.2.2 + 159))] := hl
  unfold T_X12_fewestParts at hT
  refine lv_aload_n hx hb dX12_fewestParts_0 rfl (lv_at hl 0 rfl) ?_
  refine lv_iconst (v := 1) hx hb dX12_fewestParts_1 (by decide) ?_
  refine lv_aload_n hx hb dX12_fewestParts_2 rfl (lv_at hl 0 rfl) ?_
  refine fx_getI X h (k := 159) (j := 62) sh_159 rfl fl_RX12_483 dX12_fewestParts_3 ?_
  refine lv_ishl hx hb dX12_fewestParts_6 ?_
  refine lv_iconst (v := 1) hx hb dX12_fewestParts_7 (by decide) ?_
  refine lv_isub hx hb dX12_fewestParts_8 ?_
  refine fx_vi X h ym_X12_couplesBy yi_X12_couplesBy ys_X12_couplesBy (fx_s9 (List.mem_of_getElem? (i := 59) rfl) rfl) sh_159 rfl (c_X12_couplesBy l G hT) (As := [.int (((1 : Int32) <<< ((M 159 62) &&& 31)) - (1 : Int32))]) (rest := []) rfl rfl ⟨Nat.le_of_ble_eq_true rfl, Nat.le_of_ble_eq_true rfl⟩ ⟨Nat.le_refl _, Nat.le_refl _⟩ hl.1 (Nat.le_of_ble_eq_true rfl) dX12_fewestParts_9 (fun r16 M15 H locs hT h => ?_)
  refine lv_istore_n (lv' := [(1, .int r16), (0, .ref (G.2.2.2 + 159))]) hx hb dX12_fewestParts_12 rfl hl (by decide) rfl (fun ls hl => ?_)
  refine lv_aload_n hx hb dX12_fewestParts_13 rfl (lv_at hl 1 rfl) ?_
  refine fx_getI X h (k := 159) (j := 62) sh_159 rfl fl_RX12_483 dX12_fewestParts_14 ?_
  refine lv_topi (fun y17 ey17 => ?_)
  have hT := hT y17 ey17
  refine lv_istore_n (lv' := [(2, .int y17), (1, .int r16), (0, .ref (G.2.2.2 + 159))]) hx hb dX12_fewestParts_17 rfl hl (by decide) rfl (fun ls hl => ?_)
  refine lv_iconst (v := 0) hx hb dX12_fewestParts_18 (by decide) ?_
  refine lv_istore_n (lv' := [(3, .int (0 : Int32)), (2, .int y17), (1, .int r16), (0, .ref (G.2.2.2 + 159))]) hx hb dX12_fewestParts_19 rfl hl (by decide) rfl (fun ls hl => ?_)
  exact w_X12_fewestParts_20 X hr hk 5000 r16 y17 (0 : Int32) M15 _ _ ls hT h (lv_sub hl [3, 2, 1, 0] rfl)
/-! MockParcelsModel.which(I)I -/
theorem dX12_which_0 : decode cX12_which 0 = .ok (.aload_n 0, 1) := by decide +kernel
theorem dX12_which_1 : decode cX12_which 1 = .ok (.iconst 0, 1) := by decide +kernel
theorem dX12_which_2 : decode cX12_which 2 = .ok (.putfield 134, 3) := by decide +kernel
theorem dX12_which_5 : decode cX12_which 5 = .ok (.aload_n 0, 1) := by decide +kernel
theorem dX12_which_6 : decode cX12_which 6 = .ok (.iload_n 1, 1) := by decide +kernel
theorem dX12_which_7 : decode cX12_which 7 = .ok (.iconst 0, 1) := by decide +kernel
theorem dX12_which_8 : decode cX12_which 8 = .ok (.iconst 1, 1) := by decide +kernel
theorem dX12_which_9 : decode cX12_which 9 = .ok (.invokevirtual 157, 3) := by decide +kernel
theorem dX12_which_12 : decode cX12_which 12 = .ok (.ifCond .ne 5, 3) := by decide +kernel
theorem dX12_which_15 : decode cX12_which 15 = .ok (.iconst (-1), 1) := by decide +kernel
theorem dX12_which_16 : decode cX12_which 16 = .ok (.ireturn, 1) := by decide +kernel
theorem dX12_which_17 : decode cX12_which 17 = .ok (.iload_n 1, 1) := by decide +kernel
theorem dX12_which_18 : decode cX12_which 18 = .ok (.iconst 1, 1) := by decide +kernel
theorem dX12_which_19 : decode cX12_which 19 = .ok (.if_icmp .ne 8, 3) := by decide +kernel
theorem dX12_which_22 : decode cX12_which 22 = .ok (.aload_n 0, 1) := by decide +kernel
theorem dX12_which_23 : decode cX12_which 23 = .ok (.invokevirtual 490, 3) := by decide +kernel
theorem dX12_which_26 : decode cX12_which 26 = .ok (.ireturn, 1) := by decide +kernel
theorem dX12_which_27 : decode cX12_which 27 = .ok (.iconst 1, 1) := by decide +kernel
theorem dX12_which_28 : decode cX12_which 28 = .ok (.aload_n 0, 1) := by decide +kernel
theorem dX12_which_29 : decode cX12_which 29 = .ok (.getfield 147, 3) := by decide +kernel
theorem dX12_which_32 : decode cX12_which 32 = .ok (.ishl, 1) := by decide +kernel
theorem dX12_which_33 : decode cX12_which 33 = .ok (.iconst 1, 1) := by decide +kernel
theorem dX12_which_34 : decode cX12_which 34 = .ok (.isub, 1) := by decide +kernel
theorem dX12_which_35 : decode cX12_which 35 = .ok (.istore_n 2, 1) := by decide +kernel
theorem dX12_which_36 : decode cX12_which 36 = .ok (.iconst 0, 1) := by decide +kernel
theorem dX12_which_37 : decode cX12_which 37 = .ok (.istore_n 3, 1) := by decide +kernel
theorem dX12_which_38 : decode cX12_which 38 = .ok (.iload_n 3, 1) := by decide +kernel
theorem dX12_which_39 : decode cX12_which 39 = .ok (.aload_n 0, 1) := by decide +kernel
theorem dX12_which_40 : decode cX12_which 40 = .ok (.getfield 483, 3) := by decide +kernel
theorem dX12_which_43 : decode cX12_which 43 = .ok (.if_icmp .ge 39, 3) := by decide +kernel
theorem dX12_which_46 : decode cX12_which 46 = .ok (.iload_n 2, 1) := by decide +kernel
theorem dX12_which_47 : decode cX12_which 47 = .ok (.aload_n 0, 1) := by decide +kernel
theorem dX12_which_48 : decode cX12_which 48 = .ok (.getfield 122, 3) := by decide +kernel
theorem dX12_which_51 : decode cX12_which 51 = .ok (.iload_n 3, 1) := by decide +kernel
theorem dX12_which_52 : decode cX12_which 52 = .ok (.iaload, 1) := by decide +kernel
theorem dX12_which_53 : decode cX12_which 53 = .ok (.iconst 1, 1) := by decide +kernel
theorem dX12_which_54 : decode cX12_which 54 = .ok (.if_icmp .ne 12, 3) := by decide +kernel
theorem dX12_which_57 : decode cX12_which 57 = .ok (.aload_n 0, 1) := by decide +kernel
theorem dX12_which_58 : decode cX12_which 58 = .ok (.getfield 119, 3) := by decide +kernel
theorem dX12_which_61 : decode cX12_which 61 = .ok (.iload_n 3, 1) := by decide +kernel
theorem dX12_which_62 : decode cX12_which 62 = .ok (.iaload, 1) := by decide +kernel
theorem dX12_which_63 : decode cX12_which 63 = .ok (.goto 11, 3) := by decide +kernel
theorem dX12_which_66 : decode cX12_which 66 = .ok (.aload_n 0, 1) := by decide +kernel
theorem dX12_which_67 : decode cX12_which 67 = .ok (.getfield 119, 3) := by decide +kernel
theorem dX12_which_70 : decode cX12_which 70 = .ok (.iload_n 3, 1) := by decide +kernel
theorem dX12_which_71 : decode cX12_which 71 = .ok (.iaload, 1) := by decide +kernel
theorem dX12_which_72 : decode cX12_which 72 = .ok (.iconst (-1), 1) := by decide +kernel
theorem dX12_which_73 : decode cX12_which 73 = .ok (.ixor, 1) := by decide +kernel
theorem dX12_which_74 : decode cX12_which 74 = .ok (.iand, 1) := by decide +kernel
theorem dX12_which_75 : decode cX12_which 75 = .ok (.istore_n 2, 1) := by decide +kernel
theorem dX12_which_76 : decode cX12_which 76 = .ok (.iinc 3 1, 3) := by decide +kernel
theorem dX12_which_79 : decode cX12_which 79 = .ok (.goto (-41), 3) := by decide +kernel
theorem dX12_which_82 : decode cX12_which 82 = .ok (.iload_n 2, 1) := by decide +kernel
theorem dX12_which_83 : decode cX12_which 83 = .ok (.ireturn, 1) := by decide +kernel
def T_X12_which_74 (B38 : Int32 → Int32 → Mm → Prop) (x3 : Int32) (s0 : Int32) (s1 : Int32) (M : Mm) (K : Int32 → Mm → Prop) : Prop := (∀ y1 : Int32, y1 = (s0 &&& s1) → (∀ y2 : Int32, y2 = x3 + (1 : Int32) → (B38 y1 y2 M)))
set_option maxHeartbeats 4000000 in
set_option maxRecDepth 100000 in
theorem w_X12_which_74 {p : Program} {l : Launch} {e : Env} {s : State} {m : MethodId} {args : Array Value} {below : List Frame} {meth : Method} {c : Code} {G : fx_G} {K : Int32 → Mm → Prop} {B38 : Int32 → Int32 → Mm → Prop} (X : fx_C G p s m c args cX12_which 4 RX12) (hr : meth.sig.returnType = (some .int)) (hk : meth.locks = false) (hB38 : ∀ (x2 : Int32) (x3 : Int32) (M : Mm) (H : Heap) (locs : List Loc) (ls : Array Slot), B38 x2 x3 M → fx_H G SH M s H locs → lv_has ls 4 [(0, .ref (G.2.2.2 + 159)), (2, .int x2), (3, .int x3)] → W p l e (fx_rm (3)) s m args below meth c H locs 0 0 (MQ below (va_Qi K (fx_R G SH) (fx_A G)) args s 0 0 (fx_A G)) (F0 m 38 ls [])) : ∀ (x3 : Int32) (s0 : Int32) (s1 : Int32) (M : Mm) (H : Heap) (locs : List Loc) (ls : Array Slot), T_X12_which_74 B38 x3 s0 s1 M K → fx_H G SH M s H locs → lv_has ls 4 [(0, .ref (G.2.2.2 + 159)), (3, .int x3)] → W p l e (fx_rm (3)) s m args below meth c H locs 0 0 (MQ below (va_Qi K (fx_R G SH) (fx_A G)) args s 0 0 (fx_A G)) (F0 m 74 ls [.int s1, .int s0]) := by
  obtain ⟨⟨hx, hb, hml, hown, hts⟩, hK, hQ⟩ := id X
  intro x3 s0 s1 M H locs ls hT h hl
  unfold T_X12_which_74 at hT
  refine lv_iand hx hb dX12_which_74 ?_
  refine lv_topi (fun y1 ey1 => ?_)
  have hT := hT y1 ey1
  refine lv_istore_n (lv' := [(2, .int y1), (0, .ref (G.2.2.2 + 159)), (3, .int x3)]) hx hb dX12_which_75 rfl hl (by decide) rfl (fun ls hl => ?_)
  obtain ⟨y2, ey2⟩ : ∃ z : Int32, z = x3 + (1 : Int32) := ⟨_, rfl⟩
  have hT := hT y2 ey2
  refine lv_iinc (v := y2) (lv' := [(3, .int y2), (2, .int y1), (0, .ref (G.2.2.2 + 159))]) hx hb dX12_which_76 hl (k := 2) rfl (by rw [ey2]; rfl) (by decide) rfl (fun ls hl => ?_)
  refine lv_goto (tgt := 38) hx hb dX12_which_79 (by decide) ?_
  exact hB38 y1 y2 M _ _ ls hT h (lv_sub hl [2, 1, 0] rfl)
def T_X12_which_38 : Nat → Int32 → Int32 → Mm → (Int32 → Mm → Prop) → Prop
  | 0, _, _, _, _ => False
  | n + 1, x2, x3, M, K => (((M 159 62) ≤ x3 → (K x2 M)) ∧ (¬ (M 159 62) ≤ x3 → (vp_in x3 8 ∧ (((M 196 (x3).toNatClampNeg) = (1 : Int32) → (vp_in x3 8 ∧ (T_X12_which_74 (fun x2 x3 M => T_X12_which_38 n x2 x3 M K) x3 x2 (M 195 (x3).toNatClampNeg) M K))) ∧ (¬ (M 196 (x3).toNatClampNeg) = (1 : Int32) → (vp_in x3 8 ∧ (T_X12_which_74 (fun x2 x3 M => T_X12_which_38 n x2 x3 M K) x3 x2 ((M 195 (x3).toNatClampNeg) ^^^ (-1 : Int32)) M K)))))))
set_option maxHeartbeats 4000000 in
set_option maxRecDepth 100000 in
theorem w_X12_which_38 {p : Program} {l : Launch} {e : Env} {s : State} {m : MethodId} {args : Array Value} {below : List Frame} {meth : Method} {c : Code} {G : fx_G} {K : Int32 → Mm → Prop} (X : fx_C G p s m c args cX12_which 4 RX12) (hr : meth.sig.returnType = (some .int)) (hk : meth.locks = false) : ∀ (n : Nat) (x2 : Int32) (x3 : Int32) (M : Mm) (H : Heap) (locs : List Loc) (ls : Array Slot), T_X12_which_38 n x2 x3 M K → fx_H G SH M s H locs → lv_has ls 4 [(0, .ref (G.2.2.2 + 159)), (2, .int x2), (3, .int x3)] → W p l e (fx_rm (3)) s m args below meth c H locs 0 0 (MQ below (va_Qi K (fx_R G SH) (fx_A G)) args s 0 0 (fx_A G)) (F0 m 38 ls []) := by
  obtain ⟨⟨hx, hb, hml, hown, hts⟩, hK, hQ⟩ := id X
  intro n
  induction n with
  | zero =>
    intro x2 x3 M H locs ls hT
    exact hT.elim
  | succ n ih =>
    intro x2 x3 M H locs ls hT h hl
    rw [T_X12_which_38] at hT
    refine lv_iload_n hx hb dX12_which_38 rfl (lv_at hl 2 rfl) ?_
    refine lv_aload_n hx hb dX12_which_39 rfl (lv_at hl 0 rfl) ?_
    refine fx_getI X h (k := 159) (j := 62) sh_159 rfl fl_RX12_483 dX12_which_40 ?_
    refine lv_icmp_ge (tgt := 82) hx hb dX12_which_43 (by decide) (fun hc3 => ?_) (fun hc3 => ?_)
    · have hT := hT.1 hc3
      refine lv_iload_n hx hb dX12_which_82 rfl (lv_at hl 1 rfl) ?_
      exact fx_iret X hr hk h hT dX12_which_83
    · have hT := hT.2 hc3
      refine lv_iload_n hx hb dX12_which_46 rfl (lv_at hl 1 rfl) ?_
      refine lv_aload_n hx hb dX12_which_47 rfl (lv_at hl 0 rfl) ?_
      refine fx_getR X h (k := 159) (j := 64) (r := 196) sh_159 rfl fl_RX12_122 dX12_which_48 ?_
      refine lv_iload_n hx hb dX12_which_51 rfl (lv_at hl 2 rfl) ?_
      obtain ⟨hi4, hT⟩ := hT
      refine fx_iald X h (k := 196) sh_196 hi4 dX12_which_52 ?_
      refine lv_iconst (v := 1) hx hb dX12_which_53 (by decide) ?_
      refine lv_icmp_ne (tgt := 66) hx hb dX12_which_54 (by decide) (fun hc5 => ?_) (fun hc5 => ?_)
      · have hT := hT.2 hc5
        refine lv_aload_n hx hb dX12_which_66 rfl (lv_at hl 0 rfl) ?_
        refine fx_getR X h (k := 159) (j := 63) (r := 195) sh_159 rfl fl_RX12_119 dX12_which_67 ?_
        refine lv_iload_n hx hb dX12_which_70 rfl (lv_at hl 2 rfl) ?_
        obtain ⟨hi6, hT⟩ := hT
        refine fx_iald X h (k := 195) sh_195 hi6 dX12_which_71 ?_
        refine lv_iconst (v := -1) hx hb dX12_which_72 (by decide) ?_
        refine lv_ixor hx hb dX12_which_73 ?_
        exact w_X12_which_74 X hr hk (B38 := (fun x2 x3 M => T_X12_which_38 n x2 x3 M K)) ih x3 x2 ((M 195 (x3).toNatClampNeg) ^^^ (-1 : Int32)) M _ _ ls hT h (lv_sub hl [0, 2] rfl)
      · have hT := hT.1 hc5
        refine lv_aload_n hx hb dX12_which_57 rfl (lv_at hl 0 rfl) ?_
        refine fx_getR X h (k := 159) (j := 63) (r := 195) sh_159 rfl fl_RX12_119 dX12_which_58 ?_
        refine lv_iload_n hx hb dX12_which_61 rfl (lv_at hl 2 rfl) ?_
        obtain ⟨hi7, hT⟩ := hT
        refine fx_iald X h (k := 195) sh_195 hi7 dX12_which_62 ?_
        refine lv_goto (tgt := 74) hx hb dX12_which_63 (by decide) ?_
        exact w_X12_which_74 X hr hk (B38 := (fun x2 x3 M => T_X12_which_38 n x2 x3 M K)) ih x3 x2 (M 195 (x3).toNatClampNeg) M _ _ ls hT h (lv_sub hl [0, 2] rfl)
def T_X12_which (x1 : Int32) (M : Mm) (K : Int32 → Mm → Prop) : Prop := (∀ M8 : Mm, M8 = m_up M 159 0 (0 : Int32) → (T_X12_isIn x1 (0 : Int32) (1 : Int32) M8 (fun r11 M10 => ((r11 = 0 → (K (-1 : Int32) M10)) ∧ (¬ r11 = 0 → ((x1 = (1 : Int32) → (T_X12_fewestParts M10 (fun r17 M16 => (K r17 M16)))) ∧ (¬ x1 = (1 : Int32) → (∀ y14 : Int32, y14 = (((1 : Int32) <<< ((M10 159 6) &&& 31)) - (1 : Int32)) → (T_X12_which_38 5000 y14 (0 : Int32) M10 K)))))))))
set_option maxHeartbeats 4000000 in
set_option maxRecDepth 100000 in
theorem c_X12_which (l : Launch) (G : fx_G) {x1 : Int32} {M : Mm} {K : Int32 → Mm → Prop} (hT : T_X12_which x1 M K) : Met l yX12_which (fx_ws yX12_which cX12_which 4 (some .int)) (fx_rm (3)) (va_Pc [.ref (G.2.2.2 + 159), .int x1] (fx_P G SH M)) (va_Qi K (fx_R G SH) (fx_A G)) 0 0 (fx_A G) := by
  refine fx_met (own := RX12) (by decide +kernel) rfl (Nat.le_of_ble_eq_true rfl) (fun p e s m below meth c X hr hk h ls hl => ?_)
  obtain ⟨⟨hx, hb, hml, hown, hts⟩, hK, hQ⟩ := id X
  have hl : lv_has ls 4 [(0, .ref (G.2.2.2 + 159)), (1, .int x1)] := hl
  unfold T_X12_which at hT
  refine lv_aload_n hx hb dX12_which_0 rfl (lv_at hl 0 rfl) ?_
  refine lv_iconst (v := 0) hx hb dX12_which_1 (by decide) ?_
  refine fx_putI X h (k := 159) (j := 0) sh_159 rfl fl_RX12_134 dX12_which_2 (fun H locs h => ?_)
  obtain ⟨M8, eM8⟩ : ∃ z : Mm, z = m_up M 159 0 (0 : Int32) := ⟨_, rfl⟩
  have hT := hT M8 eM8
  rw [← eM8] at h
  refine lv_aload_n hx hb dX12_which_5 rfl (lv_at hl 0 rfl) ?_
  refine lv_iload_n hx hb dX12_which_6 rfl (lv_at hl 1 rfl) ?_
  refine lv_iconst (v := 0) hx hb dX12_which_7 (by decide) ?_
  refine lv_iconst (v := 1) hx hb dX12_which_8 (by decide) ?_
  refine fx_vi X h ym_X12_isIn yi_X12_isIn ys_X12_isIn (fx_s7 (List.mem_of_getElem? (i := 77) rfl) rfl) sh_159 rfl (c_X12_isIn l G hT) (As := [.int x1, .int (0 : Int32), .int (1 : Int32)]) (rest := []) rfl rfl ⟨Nat.le_of_ble_eq_true rfl, Nat.le_of_ble_eq_true rfl⟩ ⟨Nat.le_refl _, Nat.le_refl _⟩ hl.1 (Nat.le_of_ble_eq_true rfl) dX12_which_9 (fun r11 M10 H locs hT h => ?_)
  refine lv_if_ne (tgt := 17) hx hb dX12_which_12 (by decide) (fun hc12 => ?_) (fun hc12 => ?_)
  · have hT := hT.2 hc12
    refine lv_iload_n hx hb dX12_which_17 rfl (lv_at hl 1 rfl) ?_
    refine lv_iconst (v := 1) hx hb dX12_which_18 (by decide) ?_
    refine lv_icmp_ne (tgt := 27) hx hb dX12_which_19 (by decide) (fun hc13 => ?_) (fun hc13 => ?_)
    · have hT := hT.2 hc13
      refine lv_iconst (v := 1) hx hb dX12_which_27 (by decide) ?_
      refine lv_aload_n hx hb dX12_which_28 rfl (lv_at hl 0 rfl) ?_
      refine fx_getI X h (k := 159) (j := 6) sh_159 rfl fl_RX12_147 dX12_which_29 ?_
      refine lv_ishl hx hb dX12_which_32 ?_
      refine lv_iconst (v := 1) hx hb dX12_which_33 (by decide) ?_
      refine lv_isub hx hb dX12_which_34 ?_
      refine lv_topi (fun y14 ey14 => ?_)
      have hT := hT y14 ey14
      refine lv_istore_n (lv' := [(2, .int y14), (0, .ref (G.2.2.2 + 159)), (1, .int x1)]) hx hb dX12_which_35 rfl hl (by decide) rfl (fun ls hl => ?_)
      refine lv_iconst (v := 0) hx hb dX12_which_36 (by decide) ?_
      refine lv_istore_n (lv' := [(3, .int (0 : Int32)), (2, .int y14), (0, .ref (G.2.2.2 + 159)), (1, .int x1)]) hx hb dX12_which_37 rfl hl (by decide) rfl (fun ls hl => ?_)
      exact w_X12_which_38 X hr hk 5000 y14 (0 : Int32) M10 _ _ ls hT h (lv_sub hl [2, 1, 0] rfl)
    · have hT := hT.1 hc13
      refine lv_aload_n hx hb dX12_which_22 rfl (lv_at hl 0 rfl) ?_
      refine fx_vi X h ym_X12_fewestParts yi_X12_fewestParts ys_X12_fewestParts (fx_s9 (List.mem_of_getElem? (i := 55) rfl) rfl) sh_159 rfl (c_X12_fewestParts l G hT) (As := []) (rest := []) rfl rfl ⟨Nat.le_of_ble_eq_true rfl, Nat.le_of_ble_eq_true rfl⟩ ⟨Nat.le_refl _, Nat.le_refl _⟩ hl.1 (Nat.le_of_ble_eq_true rfl) dX12_which_23 (fun r17 M16 H locs hT h => ?_)
      exact fx_iret X hr hk h hT dX12_which_26
  · have hT := hT.1 hc12
    refine lv_iconst (v := -1) hx hb dX12_which_15 (by decide) ?_
    exact fx_iret X hr hk h hT dX12_which_16
/-! MockParcelsModel.police(I)I -/
theorem dX12_police_0 : decode cX12_police 0 = .ok (.aload_n 0, 1) := by decide +kernel
theorem dX12_police_1 : decode cX12_police 1 = .ok (.iconst 0, 1) := by decide +kernel
theorem dX12_police_2 : decode cX12_police 2 = .ok (.putfield 134, 3) := by decide +kernel
theorem dX12_police_5 : decode cX12_police 5 = .ok (.iload_n 1, 1) := by decide +kernel
theorem dX12_police_6 : decode cX12_police 6 = .ok (.iconst (-1), 1) := by decide +kernel
theorem dX12_police_7 : decode cX12_police 7 = .ok (.if_icmp .ne 10, 3) := by decide +kernel
theorem dX12_police_10 : decode cX12_police 10 = .ok (.aload_n 0, 1) := by decide +kernel
theorem dX12_police_11 : decode cX12_police 11 = .ok (.iconst 0, 1) := by decide +kernel
theorem dX12_police_12 : decode cX12_police 12 = .ok (.putfield 493, 3) := by decide +kernel
theorem dX12_police_15 : decode cX12_police 15 = .ok (.iconst 0, 1) := by decide +kernel
theorem dX12_police_16 : decode cX12_police 16 = .ok (.ireturn, 1) := by decide +kernel
theorem dX12_police_17 : decode cX12_police 17 = .ok (.aload_n 0, 1) := by decide +kernel
theorem dX12_police_18 : decode cX12_police 18 = .ok (.iload_n 1, 1) := by decide +kernel
theorem dX12_police_19 : decode cX12_police 19 = .ok (.iconst 0, 1) := by decide +kernel
theorem dX12_police_20 : decode cX12_police 20 = .ok (.sipush 999, 3) := by decide +kernel
theorem dX12_police_23 : decode cX12_police 23 = .ok (.invokevirtual 157, 3) := by decide +kernel
theorem dX12_police_26 : decode cX12_police 26 = .ok (.ifCond .eq 12, 3) := by decide +kernel
theorem dX12_police_29 : decode cX12_police 29 = .ok (.aload_n 0, 1) := by decide +kernel
theorem dX12_police_30 : decode cX12_police 30 = .ok (.getfield 493, 3) := by decide +kernel
theorem dX12_police_33 : decode cX12_police 33 = .ok (.bipush 20, 2) := by decide +kernel
theorem dX12_police_35 : decode cX12_police 35 = .ok (.if_icmp .ne 5, 3) := by decide +kernel
theorem dX12_police_38 : decode cX12_police 38 = .ok (.iconst (-1), 1) := by decide +kernel
theorem dX12_police_39 : decode cX12_police 39 = .ok (.ireturn, 1) := by decide +kernel
theorem dX12_police_40 : decode cX12_police 40 = .ok (.aload_n 0, 1) := by decide +kernel
theorem dX12_police_41 : decode cX12_police 41 = .ok (.getfield 125, 3) := by decide +kernel
theorem dX12_police_44 : decode cX12_police 44 = .ok (.aload_n 0, 1) := by decide +kernel
theorem dX12_police_45 : decode cX12_police 45 = .ok (.getfield 493, 3) := by decide +kernel
theorem dX12_police_48 : decode cX12_police 48 = .ok (.iload_n 1, 1) := by decide +kernel
theorem dX12_police_49 : decode cX12_police 49 = .ok (.iastore, 1) := by decide +kernel
theorem dX12_police_50 : decode cX12_police 50 = .ok (.aload_n 0, 1) := by decide +kernel
theorem dX12_police_51 : decode cX12_police 51 = .ok (.aload_n 0, 1) := by decide +kernel
theorem dX12_police_52 : decode cX12_police 52 = .ok (.getfield 493, 3) := by decide +kernel
theorem dX12_police_55 : decode cX12_police 55 = .ok (.iconst 1, 1) := by decide +kernel
theorem dX12_police_56 : decode cX12_police 56 = .ok (.iadd, 1) := by decide +kernel
theorem dX12_police_57 : decode cX12_police 57 = .ok (.putfield 493, 3) := by decide +kernel
theorem dX12_police_60 : decode cX12_police 60 = .ok (.aload_n 0, 1) := by decide +kernel
theorem dX12_police_61 : decode cX12_police 61 = .ok (.getfield 493, 3) := by decide +kernel
theorem dX12_police_64 : decode cX12_police 64 = .ok (.ireturn, 1) := by decide +kernel
def T_X12_police (x1 : Int32) (M : Mm) (K : Int32 → Mm → Prop) : Prop := (∀ M1 : Mm, M1 = m_up M 159 0 (0 : Int32) → ((x1 = (-1 : Int32) → (∀ M11 : Mm, M11 = m_up M1 159 65 (0 : Int32) → (K (0 : Int32) M11))) ∧ (¬ x1 = (-1 : Int32) → (T_X12_isIn x1 (0 : Int32) (999 : Int32) M1 (fun r5 M4 => ((r5 = 0 → (K (-1 : Int32) M4)) ∧ (¬ r5 = 0 → (((M4 159 65) = (20 : Int32) → (K (-1 : Int32) M4)) ∧ (¬ (M4 159 65) = (20 : Int32) → (vp_in (M4 159 65) 20 ∧ (∀ M8 : Mm, M8 = m_up M4 197 ((M4 159 65)).toNatClampNeg x1 → (∀ M10 : Mm, M10 = m_up M8 159 65 ((M8 159 65) + (1 : Int32)) → (K (M10 159 65) M10)))))))))))))
set_option maxHeartbeats 4000000 in
set_option maxRecDepth 100000 in
theorem c_X12_police (l : Launch) (G : fx_G) {x1 : Int32} {M : Mm} {K : Int32 → Mm → Prop} (hT : T_X12_police x1 M K) : Met l yX12_police (fx_ws yX12_police cX12_police 2 (some .int)) (fx_rm (1)) (va_Pc [.ref (G.2.2.2 + 159), .int x1] (fx_P G SH M)) (va_Qi K (fx_R G SH) (fx_A G)) 0 0 (fx_A G) := by
  refine fx_met (own := RX12) (by decide +kernel) rfl (Nat.le_of_ble_eq_true rfl) (fun p e s m below meth c X hr hk h ls hl => ?_)
  obtain ⟨⟨hx, hb, hml, hown, hts⟩, hK, hQ⟩ := id X
  have hl : lv_has ls 2 [(0, .ref (G.2.2.2 + 159)), (1, .int x1)] := hl
  unfold T_X12_police at hT
  refine lv_aload_n hx hb dX12_police_0 rfl (lv_at hl 0 rfl) ?_
  refine lv_iconst (v := 0) hx hb dX12_police_1 (by decide) ?_
  refine fx_putI X h (k := 159) (j := 0) sh_159 rfl fl_RX12_134 dX12_police_2 (fun H locs h => ?_)
  obtain ⟨M1, eM1⟩ : ∃ z : Mm, z = m_up M 159 0 (0 : Int32) := ⟨_, rfl⟩
  have hT := hT M1 eM1
  rw [← eM1] at h
  refine lv_iload_n hx hb dX12_police_5 rfl (lv_at hl 1 rfl) ?_
  refine lv_iconst (v := -1) hx hb dX12_police_6 (by decide) ?_
  refine lv_icmp_ne (tgt := 17) hx hb dX12_police_7 (by decide) (fun hc2 => ?_) (fun hc2 => ?_)
  · have hT := hT.2 hc2
    refine lv_aload_n hx hb dX12_police_17 rfl (lv_at hl 0 rfl) ?_
    refine lv_iload_n hx hb dX12_police_18 rfl (lv_at hl 1 rfl) ?_
    refine lv_iconst (v := 0) hx hb dX12_police_19 (by decide) ?_
    refine lv_sipush (v := 999) hx hb dX12_police_20 (by decide) ?_
    refine fx_vi X h ym_X12_isIn yi_X12_isIn ys_X12_isIn (fx_s7 (List.mem_of_getElem? (i := 77) rfl) rfl) sh_159 rfl (c_X12_isIn l G hT) (As := [.int x1, .int (0 : Int32), .int (999 : Int32)]) (rest := []) rfl rfl ⟨Nat.le_of_ble_eq_true rfl, Nat.le_of_ble_eq_true rfl⟩ ⟨Nat.le_refl _, Nat.le_refl _⟩ hl.1 (Nat.le_of_ble_eq_true rfl) dX12_police_23 (fun r5 M4 H locs hT h => ?_)
    refine lv_if_eq (tgt := 38) hx hb dX12_police_26 (by decide) (fun hc6 => ?_) (fun hc6 => ?_)
    · have hT := hT.1 hc6
      refine lv_iconst (v := -1) hx hb dX12_police_38 (by decide) ?_
      exact fx_iret X hr hk h hT dX12_police_39
    · have hT := hT.2 hc6
      refine lv_aload_n hx hb dX12_police_29 rfl (lv_at hl 0 rfl) ?_
      refine fx_getI X h (k := 159) (j := 65) sh_159 rfl fl_RX12_493 dX12_police_30 ?_
      refine lv_bipush (v := 20) hx hb dX12_police_33 (by decide) ?_
      refine lv_icmp_ne (tgt := 40) hx hb dX12_police_35 (by decide) (fun hc7 => ?_) (fun hc7 => ?_)
      · have hT := hT.2 hc7
        refine lv_aload_n hx hb dX12_police_40 rfl (lv_at hl 0 rfl) ?_
        refine fx_getR X h (k := 159) (j := 66) (r := 197) sh_159 rfl fl_RX12_125 dX12_police_41 ?_
        refine lv_aload_n hx hb dX12_police_44 rfl (lv_at hl 0 rfl) ?_
        refine fx_getI X h (k := 159) (j := 65) sh_159 rfl fl_RX12_493 dX12_police_45 ?_
        refine lv_iload_n hx hb dX12_police_48 rfl (lv_at hl 1 rfl) ?_
        obtain ⟨hi9, hT⟩ := hT
        refine fx_iast X h (k := 197) sh_197 hi9 dX12_police_49 (fun H locs h => ?_)
        obtain ⟨M8, eM8⟩ : ∃ z : Mm, z = m_up M4 197 ((M4 159 65)).toNatClampNeg x1 := ⟨_, rfl⟩
        have hT := hT M8 eM8
        rw [← eM8] at h
        refine lv_aload_n hx hb dX12_police_50 rfl (lv_at hl 0 rfl) ?_
        refine lv_aload_n hx hb dX12_police_51 rfl (lv_at hl 0 rfl) ?_
        refine fx_getI X h (k := 159) (j := 65) sh_159 rfl fl_RX12_493 dX12_police_52 ?_
        refine lv_iconst (v := 1) hx hb dX12_police_55 (by decide) ?_
        refine lv_iadd hx hb dX12_police_56 ?_
        refine fx_putI X h (k := 159) (j := 65) sh_159 rfl fl_RX12_493 dX12_police_57 (fun H locs h => ?_)
        obtain ⟨M10, eM10⟩ : ∃ z : Mm, z = m_up M8 159 65 ((M8 159 65) + (1 : Int32)) := ⟨_, rfl⟩
        have hT := hT M10 eM10
        rw [← eM10] at h
        refine lv_aload_n hx hb dX12_police_60 rfl (lv_at hl 0 rfl) ?_
        refine fx_getI X h (k := 159) (j := 65) sh_159 rfl fl_RX12_493 dX12_police_61 ?_
        exact fx_iret X hr hk h hT dX12_police_64
      · have hT := hT.1 hc7
        refine lv_iconst (v := -1) hx hb dX12_police_38 (by decide) ?_
        exact fx_iret X hr hk h hT dX12_police_39
  · have hT := hT.1 hc2
    refine lv_aload_n hx hb dX12_police_10 rfl (lv_at hl 0 rfl) ?_
    refine lv_iconst (v := 0) hx hb dX12_police_11 (by decide) ?_
    refine fx_putI X h (k := 159) (j := 65) sh_159 rfl fl_RX12_493 dX12_police_12 (fun H locs h => ?_)
    obtain ⟨M11, eM11⟩ : ∃ z : Mm, z = m_up M1 159 65 (0 : Int32) := ⟨_, rfl⟩
    have hT := hT M11 eM11
    rw [← eM11] at h
    refine lv_iconst (v := 0) hx hb dX12_police_15 (by decide) ?_
    exact fx_iret X hr hk h hT dX12_police_16
/-! MockParcelsModel.common(II)I -/
theorem dX12_common_0 : decode cX12_common 0 = .ok (.iload_n 1, 1) := by decide +kernel
theorem dX12_common_1 : decode cX12_common 1 = .ok (.istore_n 3, 1) := by decide +kernel
theorem dX12_common_2 : decode cX12_common 2 = .ok (.iload_n 2, 1) := by decide +kernel
theorem dX12_common_3 : decode cX12_common 3 = .ok (.istore 4, 2) := by decide +kernel
theorem dX12_common_5 : decode cX12_common 5 = .ok (.iload 4, 2) := by decide +kernel
theorem dX12_common_7 : decode cX12_common 7 = .ok (.ifCond .eq 19, 3) := by decide +kernel
theorem dX12_common_10 : decode cX12_common 10 = .ok (.iload_n 3, 1) := by decide +kernel
theorem dX12_common_11 : decode cX12_common 11 = .ok (.iload 4, 2) := by decide +kernel
theorem dX12_common_13 : decode cX12_common 13 = .ok (.irem, 1) := by decide +kernel
theorem dX12_common_14 : decode cX12_common 14 = .ok (.istore 5, 2) := by decide +kernel
theorem dX12_common_16 : decode cX12_common 16 = .ok (.iload 4, 2) := by decide +kernel
theorem dX12_common_18 : decode cX12_common 18 = .ok (.istore_n 3, 1) := by decide +kernel
theorem dX12_common_19 : decode cX12_common 19 = .ok (.iload 5, 2) := by decide +kernel
theorem dX12_common_21 : decode cX12_common 21 = .ok (.istore 4, 2) := by decide +kernel
theorem dX12_common_23 : decode cX12_common 23 = .ok (.goto (-18), 3) := by decide +kernel
theorem dX12_common_26 : decode cX12_common 26 = .ok (.iload_n 3, 1) := by decide +kernel
theorem dX12_common_27 : decode cX12_common 27 = .ok (.ireturn, 1) := by decide +kernel
def T_X12_common_5 : Nat → Int32 → Int32 → Mm → (Int32 → Mm → Prop) → Prop
  | 0, _, _, _, _ => False
  | n + 1, x3, x4, M, K => ((x4 = 0 → (K x3 M)) ∧ (¬ x4 = 0 → (¬ x4 = 0 ∧ (∀ y3 : Int32, y3 = (x3 - x3 / x4 * x4) → (T_X12_common_5 n x4 y3 M K)))))
set_option maxHeartbeats 4000000 in
set_option maxRecDepth 100000 in
theorem w_X12_common_5 {p : Program} {l : Launch} {e : Env} {s : State} {m : MethodId} {args : Array Value} {below : List Frame} {meth : Method} {c : Code} {G : fx_G} {K : Int32 → Mm → Prop} (X : fx_C G p s m c args cX12_common 6 RX12) (hr : meth.sig.returnType = (some .int)) (hk : meth.locks = false) : ∀ (n : Nat) (x3 : Int32) (x4 : Int32) (M : Mm) (H : Heap) (locs : List Loc) (ls : Array Slot), T_X12_common_5 n x3 x4 M K → fx_H G SH M s H locs → lv_has ls 6 [(3, .int x3), (4, .int x4)] → W p l e (fx_rm (0)) s m args below meth c H locs 0 0 (MQ below (va_Qi K (fx_R G SH) (fx_A G)) args s 0 0 (fx_A G)) (F0 m 5 ls []) := by
  obtain ⟨⟨hx, hb, hml, hown, hts⟩, hK, hQ⟩ := id X
  intro n
  induction n with
  | zero =>
    intro x3 x4 M H locs ls hT
    exact hT.elim
  | succ n ih =>
    intro x3 x4 M H locs ls hT h hl
    rw [T_X12_common_5] at hT
    refine lv_iload hx hb dX12_common_5 (lv_at hl 1 rfl) ?_
    refine lv_if_eq (tgt := 26) hx hb dX12_common_7 (by decide) (fun hc1 => ?_) (fun hc1 => ?_)
    · have hT := hT.1 hc1
      refine lv_iload_n hx hb dX12_common_26 rfl (lv_at hl 0 rfl) ?_
      exact fx_iret X hr hk h hT dX12_common_27
    · have hT := hT.2 hc1
      refine lv_iload_n hx hb dX12_common_10 rfl (lv_at hl 0 rfl) ?_
      refine lv_iload hx hb dX12_common_11 (lv_at hl 1 rfl) ?_
      obtain ⟨hz2, hT⟩ := hT
      refine lv_irem hx hb dX12_common_13 hz2 ?_
      refine lv_topi (fun y3 ey3 => ?_)
      have hT := hT y3 ey3
      refine lv_istore (lv' := [(5, .int y3), (3, .int x3), (4, .int x4)]) hx hb dX12_common_14 hl (by decide) rfl (fun ls hl => ?_)
      refine lv_iload hx hb dX12_common_16 (lv_at hl 2 rfl) ?_
      refine lv_istore_n (lv' := [(3, .int x4), (5, .int y3), (4, .int x4)]) hx hb dX12_common_18 rfl hl (by decide) rfl (fun ls hl => ?_)
      refine lv_iload hx hb dX12_common_19 (lv_at hl 1 rfl) ?_
      refine lv_istore (lv' := [(4, .int y3), (3, .int x4), (5, .int y3)]) hx hb dX12_common_21 hl (by decide) rfl (fun ls hl => ?_)
      refine lv_goto (tgt := 5) hx hb dX12_common_23 (by decide) ?_
      exact ih x4 y3 M _ _ ls hT h (lv_sub hl [1, 0] rfl)
def T_X12_common (x1 : Int32) (x2 : Int32) (M : Mm) (K : Int32 → Mm → Prop) : Prop := (T_X12_common_5 5000 x1 x2 M K)
set_option maxHeartbeats 4000000 in
set_option maxRecDepth 100000 in
theorem c_X12_common (l : Launch) (G : fx_G) {x1 : Int32} {x2 : Int32} {M : Mm} {K : Int32 → Mm → Prop} (hT : T_X12_common x1 x2 M K) : Met l yX12_common (fx_ws yX12_common cX12_common 6 (some .int)) (fx_rm (0)) (va_Pc [.ref (G.2.2.2 + 159), .int x1, .int x2] (fx_P G SH M)) (va_Qi K (fx_R G SH) (fx_A G)) 0 0 (fx_A G) := by
  refine fx_met (own := RX12) (by decide +kernel) rfl (Nat.le_of_ble_eq_true rfl) (fun p e s m below meth c X hr hk h ls hl => ?_)
  obtain ⟨⟨hx, hb, hml, hown, hts⟩, hK, hQ⟩ := id X
  have hl : lv_has ls 6 [(0, .ref (G.2.2.2 + 159)), (1, .int x1), (2, .int x2)] := hl
  unfold T_X12_common at hT
  refine lv_iload_n hx hb dX12_common_0 rfl (lv_at hl 1 rfl) ?_
  refine lv_istore_n (lv' := [(3, .int x1), (0, .ref (G.2.2.2 + 159)), (1, .int x1), (2, .int x2)]) hx hb dX12_common_1 rfl hl (by decide) rfl (fun ls hl => ?_)
  refine lv_iload_n hx hb dX12_common_2 rfl (lv_at hl 3 rfl) ?_
  refine lv_istore (lv' := [(4, .int x2), (3, .int x1), (0, .ref (G.2.2.2 + 159)), (1, .int x1), (2, .int x2)]) hx hb dX12_common_3 hl (by decide) rfl (fun ls hl => ?_)
  exact w_X12_common_5 X hr hk 5000 x1 x2 M _ _ ls hT h (lv_sub hl [1, 0] rfl)
/-! MockParcelsModel.everyDay()I -/
theorem dX12_everyDay_0 : decode cX12_everyDay 0 = .ok (.iconst 0, 1) := by decide +kernel
theorem dX12_everyDay_1 : decode cX12_everyDay 1 = .ok (.istore_n 1, 1) := by decide +kernel
theorem dX12_everyDay_2 : decode cX12_everyDay 2 = .ok (.iconst 1, 1) := by decide +kernel
theorem dX12_everyDay_3 : decode cX12_everyDay 3 = .ok (.istore_n 2, 1) := by decide +kernel
theorem dX12_everyDay_4 : decode cX12_everyDay 4 = .ok (.iload_n 2, 1) := by decide +kernel
theorem dX12_everyDay_5 : decode cX12_everyDay 5 = .ok (.aload_n 0, 1) := by decide +kernel
theorem dX12_everyDay_6 : decode cX12_everyDay 6 = .ok (.getfield 493, 3) := by decide +kernel
theorem dX12_everyDay_9 : decode cX12_everyDay 9 = .ok (.if_icmp .ge 48, 3) := by decide +kernel
theorem dX12_everyDay_12 : decode cX12_everyDay 12 = .ok (.aload_n 0, 1) := by decide +kernel
theorem dX12_everyDay_13 : decode cX12_everyDay 13 = .ok (.iload_n 1, 1) := by decide +kernel
theorem dX12_everyDay_14 : decode cX12_everyDay 14 = .ok (.aload_n 0, 1) := by decide +kernel
theorem dX12_everyDay_15 : decode cX12_everyDay 15 = .ok (.aload_n 0, 1) := by decide +kernel
theorem dX12_everyDay_16 : decode cX12_everyDay 16 = .ok (.getfield 125, 3) := by decide +kernel
theorem dX12_everyDay_19 : decode cX12_everyDay 19 = .ok (.iload_n 2, 1) := by decide +kernel
theorem dX12_everyDay_20 : decode cX12_everyDay 20 = .ok (.iaload, 1) := by decide +kernel
theorem dX12_everyDay_21 : decode cX12_everyDay 21 = .ok (.aload_n 0, 1) := by decide +kernel
theorem dX12_everyDay_22 : decode cX12_everyDay 22 = .ok (.getfield 125, 3) := by decide +kernel
theorem dX12_everyDay_25 : decode cX12_everyDay 25 = .ok (.iconst 0, 1) := by decide +kernel
theorem dX12_everyDay_26 : decode cX12_everyDay 26 = .ok (.iaload, 1) := by decide +kernel
theorem dX12_everyDay_27 : decode cX12_everyDay 27 = .ok (.invokevirtual 405, 3) := by decide +kernel
theorem dX12_everyDay_30 : decode cX12_everyDay 30 = .ok (.aload_n 0, 1) := by decide +kernel
theorem dX12_everyDay_31 : decode cX12_everyDay 31 = .ok (.aload_n 0, 1) := by decide +kernel
theorem dX12_everyDay_32 : decode cX12_everyDay 32 = .ok (.getfield 125, 3) := by decide +kernel
theorem dX12_everyDay_35 : decode cX12_everyDay 35 = .ok (.iload_n 2, 1) := by decide +kernel
theorem dX12_everyDay_36 : decode cX12_everyDay 36 = .ok (.iaload, 1) := by decide +kernel
theorem dX12_everyDay_37 : decode cX12_everyDay 37 = .ok (.aload_n 0, 1) := by decide +kernel
theorem dX12_everyDay_38 : decode cX12_everyDay 38 = .ok (.getfield 125, 3) := by decide +kernel
theorem dX12_everyDay_41 : decode cX12_everyDay 41 = .ok (.iconst 0, 1) := by decide +kernel
theorem dX12_everyDay_42 : decode cX12_everyDay 42 = .ok (.iaload, 1) := by decide +kernel
theorem dX12_everyDay_43 : decode cX12_everyDay 43 = .ok (.invokevirtual 393, 3) := by decide +kernel
theorem dX12_everyDay_46 : decode cX12_everyDay 46 = .ok (.isub, 1) := by decide +kernel
theorem dX12_everyDay_47 : decode cX12_everyDay 47 = .ok (.invokevirtual 496, 3) := by decide +kernel
theorem dX12_everyDay_50 : decode cX12_everyDay 50 = .ok (.istore_n 1, 1) := by decide +kernel
theorem dX12_everyDay_51 : decode cX12_everyDay 51 = .ok (.iinc 2 1, 3) := by decide +kernel
theorem dX12_everyDay_54 : decode cX12_everyDay 54 = .ok (.goto (-50), 3) := by decide +kernel
theorem dX12_everyDay_57 : decode cX12_everyDay 57 = .ok (.iload_n 1, 1) := by decide +kernel
theorem dX12_everyDay_58 : decode cX12_everyDay 58 = .ok (.ireturn, 1) := by decide +kernel
def T_X12_everyDay_4 : Nat → Int32 → Int32 → Mm → (Int32 → Mm → Prop) → Prop
  | 0, _, _, _, _ => False
  | n + 1, x1, x2, M, K => (((M 159 65) ≤ x2 → (K x1 M)) ∧ (¬ (M 159 65) ≤ x2 → (vp_in x2 20 ∧ (T_X12_greater (M 197 (x2).toNatClampNeg) (M 197 0) M (fun r5 M4 => (vp_in x2 20 ∧ (T_X12_lesser (M4 197 (x2).toNatClampNeg) (M4 197 0) M4 (fun r9 M8 => (T_X12_common x1 (r5 - r9) M8 (fun r12 M11 => (∀ y13 : Int32, y13 = x2 + (1 : Int32) → (T_X12_everyDay_4 n r12 y13 M11 K))))))))))))
set_option maxHeartbeats 4000000 in
set_option maxRecDepth 100000 in
theorem w_X12_everyDay_4 {p : Program} {l : Launch} {e : Env} {s : State} {m : MethodId} {args : Array Value} {below : List Frame} {meth : Method} {c : Code} {G : fx_G} {K : Int32 → Mm → Prop} (X : fx_C G p s m c args cX12_everyDay 3 RX12) (hr : meth.sig.returnType = (some .int)) (hk : meth.locks = false) : ∀ (n : Nat) (x1 : Int32) (x2 : Int32) (M : Mm) (H : Heap) (locs : List Loc) (ls : Array Slot), T_X12_everyDay_4 n x1 x2 M K → fx_H G SH M s H locs → lv_has ls 3 [(0, .ref (G.2.2.2 + 159)), (1, .int x1), (2, .int x2)] → W p l e (fx_rm (1)) s m args below meth c H locs 0 0 (MQ below (va_Qi K (fx_R G SH) (fx_A G)) args s 0 0 (fx_A G)) (F0 m 4 ls []) := by
  obtain ⟨⟨hx, hb, hml, hown, hts⟩, hK, hQ⟩ := id X
  intro n
  induction n with
  | zero =>
    intro x1 x2 M H locs ls hT
    exact hT.elim
  | succ n ih =>
    intro x1 x2 M H locs ls hT h hl
    rw [T_X12_everyDay_4] at hT
    refine lv_iload_n hx hb dX12_everyDay_4 rfl (lv_at hl 2 rfl) ?_
    refine lv_aload_n hx hb dX12_everyDay_5 rfl (lv_at hl 0 rfl) ?_
    refine fx_getI X h (k := 159) (j := 65) sh_159 rfl fl_RX12_493 dX12_everyDay_6 ?_
    refine lv_icmp_ge (tgt := 57) hx hb dX12_everyDay_9 (by decide) (fun hc1 => ?_) (fun hc1 => ?_)
    · have hT := hT.1 hc1
      refine lv_iload_n hx hb dX12_everyDay_57 rfl (lv_at hl 1 rfl) ?_
      exact fx_iret X hr hk h hT dX12_everyDay_58
    · have hT := hT.2 hc1
      refine lv_aload_n hx hb dX12_everyDay_12 rfl (lv_at hl 0 rfl) ?_
      refine lv_iload_n hx hb dX12_everyDay_13 rfl (lv_at hl 1 rfl) ?_
      refine lv_aload_n hx hb dX12_everyDay_14 rfl (lv_at hl 0 rfl) ?_
      refine lv_aload_n hx hb dX12_everyDay_15 rfl (lv_at hl 0 rfl) ?_
      refine fx_getR X h (k := 159) (j := 66) (r := 197) sh_159 rfl fl_RX12_125 dX12_everyDay_16 ?_
      refine lv_iload_n hx hb dX12_everyDay_19 rfl (lv_at hl 2 rfl) ?_
      obtain ⟨hi2, hT⟩ := hT
      refine fx_iald X h (k := 197) sh_197 hi2 dX12_everyDay_20 ?_
      refine lv_aload_n hx hb dX12_everyDay_21 rfl (lv_at hl 0 rfl) ?_
      refine fx_getR X h (k := 159) (j := 66) (r := 197) sh_159 rfl fl_RX12_125 dX12_everyDay_22 ?_
      refine lv_iconst (v := 0) hx hb dX12_everyDay_25 (by decide) ?_
      refine fx_iald X h (k := 197) sh_197 (by unfold vp_in; decide) dX12_everyDay_26 ?_
      rw [show ((0 : Int32)).toNatClampNeg = 0 by decide]
      refine fx_vi X h ym_X12_greater yi_X12_greater ys_X12_greater (fx_s8 (List.mem_of_getElem? (i := 135) rfl) rfl) sh_159 rfl (c_X12_greater l G hT) (As := [.int (M 197 (x2).toNatClampNeg), .int (M 197 0)]) (rest := [.int x1, .ref (G.2.2.2 + 159)]) rfl rfl ⟨Nat.le_of_ble_eq_true rfl, Nat.le_of_ble_eq_true rfl⟩ ⟨Nat.le_refl _, Nat.le_refl _⟩ hl.1 (Nat.le_of_ble_eq_true rfl) dX12_everyDay_27 (fun r5 M4 H locs hT h => ?_)
      refine lv_aload_n hx hb dX12_everyDay_30 rfl (lv_at hl 0 rfl) ?_
      refine lv_aload_n hx hb dX12_everyDay_31 rfl (lv_at hl 0 rfl) ?_
      refine fx_getR X h (k := 159) (j := 66) (r := 197) sh_159 rfl fl_RX12_125 dX12_everyDay_32 ?_
      refine lv_iload_n hx hb dX12_everyDay_35 rfl (lv_at hl 2 rfl) ?_
      obtain ⟨hi6, hT⟩ := hT
      refine fx_iald X h (k := 197) sh_197 hi6 dX12_everyDay_36 ?_
      refine lv_aload_n hx hb dX12_everyDay_37 rfl (lv_at hl 0 rfl) ?_
      refine fx_getR X h (k := 159) (j := 66) (r := 197) sh_159 rfl fl_RX12_125 dX12_everyDay_38 ?_
      refine lv_iconst (v := 0) hx hb dX12_everyDay_41 (by decide) ?_
      refine fx_iald X h (k := 197) sh_197 (by unfold vp_in; decide) dX12_everyDay_42 ?_
      rw [show ((0 : Int32)).toNatClampNeg = 0 by decide]
      refine fx_vi X h ym_X12_lesser yi_X12_lesser ys_X12_lesser (fx_s8 (List.mem_of_getElem? (i := 107) rfl) rfl) sh_159 rfl (c_X12_lesser l G hT) (As := [.int (M4 197 (x2).toNatClampNeg), .int (M4 197 0)]) (rest := [.int r5, .int x1, .ref (G.2.2.2 + 159)]) rfl rfl ⟨Nat.le_of_ble_eq_true rfl, Nat.le_of_ble_eq_true rfl⟩ ⟨Nat.le_refl _, Nat.le_refl _⟩ hl.1 (Nat.le_of_ble_eq_true rfl) dX12_everyDay_43 (fun r9 M8 H locs hT h => ?_)
      refine lv_isub hx hb dX12_everyDay_46 ?_
      refine fx_vi X h ym_X12_common yi_X12_common ys_X12_common (fx_s9 (List.mem_of_getElem? (i := 75) rfl) rfl) sh_159 rfl (c_X12_common l G hT) (As := [.int x1, .int (r5 - r9)]) (rest := []) rfl rfl ⟨Nat.le_of_ble_eq_true rfl, Nat.le_of_ble_eq_true rfl⟩ ⟨Nat.le_refl _, Nat.le_refl _⟩ hl.1 (Nat.le_of_ble_eq_true rfl) dX12_everyDay_47 (fun r12 M11 H locs hT h => ?_)
      refine lv_istore_n (lv' := [(1, .int r12), (0, .ref (G.2.2.2 + 159)), (2, .int x2)]) hx hb dX12_everyDay_50 rfl hl (by decide) rfl (fun ls hl => ?_)
      obtain ⟨y13, ey13⟩ : ∃ z : Int32, z = x2 + (1 : Int32) := ⟨_, rfl⟩
      have hT := hT y13 ey13
      refine lv_iinc (v := y13) (lv' := [(2, .int y13), (1, .int r12), (0, .ref (G.2.2.2 + 159))]) hx hb dX12_everyDay_51 hl (k := 2) rfl (by rw [ey13]; rfl) (by decide) rfl (fun ls hl => ?_)
      refine lv_goto (tgt := 4) hx hb dX12_everyDay_54 (by decide) ?_
      exact ih r12 y13 M11 _ _ ls hT h (lv_sub hl [2, 1, 0] rfl)
def T_X12_everyDay (M : Mm) (K : Int32 → Mm → Prop) : Prop := (T_X12_everyDay_4 5000 (0 : Int32) (1 : Int32) M K)
set_option maxHeartbeats 4000000 in
set_option maxRecDepth 100000 in
theorem c_X12_everyDay (l : Launch) (G : fx_G) {M : Mm} {K : Int32 → Mm → Prop} (hT : T_X12_everyDay M K) : Met l yX12_everyDay (fx_ws yX12_everyDay cX12_everyDay 3 (some .int)) (fx_rm (1)) (va_Pc [.ref (G.2.2.2 + 159)] (fx_P G SH M)) (va_Qi K (fx_R G SH) (fx_A G)) 0 0 (fx_A G) := by
  refine fx_met (own := RX12) (by decide +kernel) rfl (Nat.le_of_ble_eq_true rfl) (fun p e s m below meth c X hr hk h ls hl => ?_)
  obtain ⟨⟨hx, hb, hml, hown, hts⟩, hK, hQ⟩ := id X
  have hl : lv_has ls 3 [(0, .ref (G.2.2.2 + 159))] := hl
  unfold T_X12_everyDay at hT
  refine lv_iconst (v := 0) hx hb dX12_everyDay_0 (by decide) ?_
  refine lv_istore_n (lv' := [(1, .int (0 : Int32)), (0, .ref (G.2.2.2 + 159))]) hx hb dX12_everyDay_1 rfl hl (by decide) rfl (fun ls hl => ?_)
  refine lv_iconst (v := 1) hx hb dX12_everyDay_2 (by decide) ?_
  refine lv_istore_n (lv' := [(2, .int (1 : Int32)), (1, .int (0 : Int32)), (0, .ref (G.2.2.2 + 159))]) hx hb dX12_everyDay_3 rfl hl (by decide) rfl (fun ls hl => ?_)
  exact w_X12_everyDay_4 X hr hk 5000 (0 : Int32) (1 : Int32) M _ _ ls hT h (lv_sub hl [2, 1, 0] rfl)
/-! MockParcelsModel.every(I)I -/
theorem dX12_every_0 : decode cX12_every 0 = .ok (.aload_n 0, 1) := by decide +kernel
theorem dX12_every_1 : decode cX12_every 1 = .ok (.iconst 0, 1) := by decide +kernel
theorem dX12_every_2 : decode cX12_every 2 = .ok (.putfield 134, 3) := by decide +kernel
theorem dX12_every_5 : decode cX12_every 5 = .ok (.aload_n 0, 1) := by decide +kernel
theorem dX12_every_6 : decode cX12_every 6 = .ok (.iload_n 1, 1) := by decide +kernel
theorem dX12_every_7 : decode cX12_every 7 = .ok (.iconst (-1), 1) := by decide +kernel
theorem dX12_every_8 : decode cX12_every 8 = .ok (.sipush 9999, 3) := by decide +kernel
theorem dX12_every_11 : decode cX12_every 11 = .ok (.invokevirtual 157, 3) := by decide +kernel
theorem dX12_every_14 : decode cX12_every 14 = .ok (.ifCond .ne 5, 3) := by decide +kernel
theorem dX12_every_17 : decode cX12_every 17 = .ok (.iconst (-1), 1) := by decide +kernel
theorem dX12_every_18 : decode cX12_every 18 = .ok (.ireturn, 1) := by decide +kernel
theorem dX12_every_19 : decode cX12_every 19 = .ok (.aload_n 0, 1) := by decide +kernel
theorem dX12_every_20 : decode cX12_every 20 = .ok (.invokevirtual 499, 3) := by decide +kernel
theorem dX12_every_23 : decode cX12_every 23 = .ok (.istore_n 2, 1) := by decide +kernel
theorem dX12_every_24 : decode cX12_every 24 = .ok (.iload_n 1, 1) := by decide +kernel
theorem dX12_every_25 : decode cX12_every 25 = .ok (.iconst (-1), 1) := by decide +kernel
theorem dX12_every_26 : decode cX12_every 26 = .ok (.if_icmp .ne 5, 3) := by decide +kernel
theorem dX12_every_29 : decode cX12_every 29 = .ok (.iload_n 2, 1) := by decide +kernel
theorem dX12_every_30 : decode cX12_every 30 = .ok (.ireturn, 1) := by decide +kernel
theorem dX12_every_31 : decode cX12_every 31 = .ok (.iload_n 2, 1) := by decide +kernel
theorem dX12_every_32 : decode cX12_every 32 = .ok (.ifCond .ne 5, 3) := by decide +kernel
theorem dX12_every_35 : decode cX12_every 35 = .ok (.iconst (-1), 1) := by decide +kernel
theorem dX12_every_36 : decode cX12_every 36 = .ok (.ireturn, 1) := by decide +kernel
theorem dX12_every_37 : decode cX12_every 37 = .ok (.aload_n 0, 1) := by decide +kernel
theorem dX12_every_38 : decode cX12_every 38 = .ok (.getfield 125, 3) := by decide +kernel
theorem dX12_every_41 : decode cX12_every 41 = .ok (.iconst 0, 1) := by decide +kernel
theorem dX12_every_42 : decode cX12_every 42 = .ok (.iaload, 1) := by decide +kernel
theorem dX12_every_43 : decode cX12_every 43 = .ok (.iload_n 2, 1) := by decide +kernel
theorem dX12_every_44 : decode cX12_every 44 = .ok (.irem, 1) := by decide +kernel
theorem dX12_every_45 : decode cX12_every 45 = .ok (.istore_n 3, 1) := by decide +kernel
theorem dX12_every_46 : decode cX12_every 46 = .ok (.iload_n 1, 1) := by decide +kernel
theorem dX12_every_47 : decode cX12_every 47 = .ok (.iload_n 3, 1) := by decide +kernel
theorem dX12_every_48 : decode cX12_every 48 = .ok (.if_icmp .ge 7, 3) := by decide +kernel
theorem dX12_every_51 : decode cX12_every 51 = .ok (.iload_n 3, 1) := by decide +kernel
theorem dX12_every_52 : decode cX12_every 52 = .ok (.goto 12, 3) := by decide +kernel
theorem dX12_every_55 : decode cX12_every 55 = .ok (.iload_n 1, 1) := by decide +kernel
theorem dX12_every_56 : decode cX12_every 56 = .ok (.iload_n 1, 1) := by decide +kernel
theorem dX12_every_57 : decode cX12_every 57 = .ok (.iload_n 3, 1) := by decide +kernel
theorem dX12_every_58 : decode cX12_every 58 = .ok (.isub, 1) := by decide +kernel
theorem dX12_every_59 : decode cX12_every 59 = .ok (.iload_n 2, 1) := by decide +kernel
theorem dX12_every_60 : decode cX12_every 60 = .ok (.irem, 1) := by decide +kernel
theorem dX12_every_61 : decode cX12_every 61 = .ok (.isub, 1) := by decide +kernel
theorem dX12_every_62 : decode cX12_every 62 = .ok (.iload_n 2, 1) := by decide +kernel
theorem dX12_every_63 : decode cX12_every 63 = .ok (.iadd, 1) := by decide +kernel
theorem dX12_every_64 : decode cX12_every 64 = .ok (.ireturn, 1) := by decide +kernel
def T_X12_every (x1 : Int32) (M : Mm) (K : Int32 → Mm → Prop) : Prop := (∀ M1 : Mm, M1 = m_up M 159 0 (0 : Int32) → (T_X12_isIn x1 (-1 : Int32) (9999 : Int32) M1 (fun r4 M3 => ((r4 = 0 → (K (-1 : Int32) M3)) ∧ (¬ r4 = 0 → (T_X12_everyDay M3 (fun r8 M7 => ((x1 = (-1 : Int32) → (K r8 M7)) ∧ (¬ x1 = (-1 : Int32) → ((r8 = 0 → (K (-1 : Int32) M7)) ∧ (¬ r8 = 0 → (¬ r8 = 0 ∧ (∀ y12 : Int32, y12 = ((M7 197 0) - (M7 197 0) / r8 * r8) → ((y12 ≤ x1 → (¬ r8 = 0 ∧ (K ((x1 - ((x1 - y12) - (x1 - y12) / r8 * r8)) + r8) M7))) ∧ (¬ y12 ≤ x1 → (K y12 M7))))))))))))))))
set_option maxHeartbeats 4000000 in
set_option maxRecDepth 100000 in
theorem c_X12_every (l : Launch) (G : fx_G) {x1 : Int32} {M : Mm} {K : Int32 → Mm → Prop} (hT : T_X12_every x1 M K) : Met l yX12_every (fx_ws yX12_every cX12_every 4 (some .int)) (fx_rm (2)) (va_Pc [.ref (G.2.2.2 + 159), .int x1] (fx_P G SH M)) (va_Qi K (fx_R G SH) (fx_A G)) 0 0 (fx_A G) := by
  refine fx_met (own := RX12) (by decide +kernel) rfl (Nat.le_of_ble_eq_true rfl) (fun p e s m below meth c X hr hk h ls hl => ?_)
  obtain ⟨⟨hx, hb, hml, hown, hts⟩, hK, hQ⟩ := id X
  have hl : lv_has ls 4 [(0, .ref (G.2.2.2 + 159)), (1, .int x1)] := hl
  unfold T_X12_every at hT
  refine lv_aload_n hx hb dX12_every_0 rfl (lv_at hl 0 rfl) ?_
  refine lv_iconst (v := 0) hx hb dX12_every_1 (by decide) ?_
  refine fx_putI X h (k := 159) (j := 0) sh_159 rfl fl_RX12_134 dX12_every_2 (fun H locs h => ?_)
  obtain ⟨M1, eM1⟩ : ∃ z : Mm, z = m_up M 159 0 (0 : Int32) := ⟨_, rfl⟩
  have hT := hT M1 eM1
  rw [← eM1] at h
  refine lv_aload_n hx hb dX12_every_5 rfl (lv_at hl 0 rfl) ?_
  refine lv_iload_n hx hb dX12_every_6 rfl (lv_at hl 1 rfl) ?_
  refine lv_iconst (v := -1) hx hb dX12_every_7 (by decide) ?_
  refine lv_sipush (v := 9999) hx hb dX12_every_8 (by decide) ?_
  refine fx_vi X h ym_X12_isIn yi_X12_isIn ys_X12_isIn (fx_s7 (List.mem_of_getElem? (i := 77) rfl) rfl) sh_159 rfl (c_X12_isIn l G hT) (As := [.int x1, .int (-1 : Int32), .int (9999 : Int32)]) (rest := []) rfl rfl ⟨Nat.le_of_ble_eq_true rfl, Nat.le_of_ble_eq_true rfl⟩ ⟨Nat.le_refl _, Nat.le_refl _⟩ hl.1 (Nat.le_of_ble_eq_true rfl) dX12_every_11 (fun r4 M3 H locs hT h => ?_)
  refine lv_if_ne (tgt := 19) hx hb dX12_every_14 (by decide) (fun hc5 => ?_) (fun hc5 => ?_)
  · have hT := hT.2 hc5
    refine lv_aload_n hx hb dX12_every_19 rfl (lv_at hl 0 rfl) ?_
    refine fx_vi X h ym_X12_everyDay yi_X12_everyDay ys_X12_everyDay (fx_s9 (List.mem_of_getElem? (i := 71) rfl) rfl) sh_159 rfl (c_X12_everyDay l G hT) (As := []) (rest := []) rfl rfl ⟨Nat.le_of_ble_eq_true rfl, Nat.le_of_ble_eq_true rfl⟩ ⟨Nat.le_refl _, Nat.le_refl _⟩ hl.1 (Nat.le_of_ble_eq_true rfl) dX12_every_20 (fun r8 M7 H locs hT h => ?_)
    refine lv_istore_n (lv' := [(2, .int r8), (0, .ref (G.2.2.2 + 159)), (1, .int x1)]) hx hb dX12_every_23 rfl hl (by decide) rfl (fun ls hl => ?_)
    refine lv_iload_n hx hb dX12_every_24 rfl (lv_at hl 2 rfl) ?_
    refine lv_iconst (v := -1) hx hb dX12_every_25 (by decide) ?_
    refine lv_icmp_ne (tgt := 31) hx hb dX12_every_26 (by decide) (fun hc9 => ?_) (fun hc9 => ?_)
    · have hT := hT.2 hc9
      refine lv_iload_n hx hb dX12_every_31 rfl (lv_at hl 0 rfl) ?_
      refine lv_if_ne (tgt := 37) hx hb dX12_every_32 (by decide) (fun hc10 => ?_) (fun hc10 => ?_)
      · have hT := hT.2 hc10
        refine lv_aload_n hx hb dX12_every_37 rfl (lv_at hl 1 rfl) ?_
        refine fx_getR X h (k := 159) (j := 66) (r := 197) sh_159 rfl fl_RX12_125 dX12_every_38 ?_
        refine lv_iconst (v := 0) hx hb dX12_every_41 (by decide) ?_
        refine fx_iald X h (k := 197) sh_197 (by unfold vp_in; decide) dX12_every_42 ?_
        rw [show ((0 : Int32)).toNatClampNeg = 0 by decide]
        refine lv_iload_n hx hb dX12_every_43 rfl (lv_at hl 0 rfl) ?_
        obtain ⟨hz11, hT⟩ := hT
        refine lv_irem hx hb dX12_every_44 hz11 ?_
        refine lv_topi (fun y12 ey12 => ?_)
        have hT := hT y12 ey12
        refine lv_istore_n (lv' := [(3, .int y12), (2, .int r8), (0, .ref (G.2.2.2 + 159)), (1, .int x1)]) hx hb dX12_every_45 rfl hl (by decide) rfl (fun ls hl => ?_)
        refine lv_iload_n hx hb dX12_every_46 rfl (lv_at hl 3 rfl) ?_
        refine lv_iload_n hx hb dX12_every_47 rfl (lv_at hl 0 rfl) ?_
        refine lv_icmp_ge (tgt := 55) hx hb dX12_every_48 (by decide) (fun hc13 => ?_) (fun hc13 => ?_)
        · have hT := hT.1 hc13
          refine lv_iload_n hx hb dX12_every_55 rfl (lv_at hl 3 rfl) ?_
          refine lv_iload_n hx hb dX12_every_56 rfl (lv_at hl 3 rfl) ?_
          refine lv_iload_n hx hb dX12_every_57 rfl (lv_at hl 0 rfl) ?_
          refine lv_isub hx hb dX12_every_58 ?_
          refine lv_iload_n hx hb dX12_every_59 rfl (lv_at hl 1 rfl) ?_
          obtain ⟨hz14, hT⟩ := hT
          refine lv_irem hx hb dX12_every_60 hz14 ?_
          refine lv_isub hx hb dX12_every_61 ?_
          refine lv_iload_n hx hb dX12_every_62 rfl (lv_at hl 1 rfl) ?_
          refine lv_iadd hx hb dX12_every_63 ?_
          exact fx_iret X hr hk h hT dX12_every_64
        · have hT := hT.2 hc13
          refine lv_iload_n hx hb dX12_every_51 rfl (lv_at hl 0 rfl) ?_
          refine lv_goto (tgt := 64) hx hb dX12_every_52 (by decide) ?_
          exact fx_iret X hr hk h hT dX12_every_64
      · have hT := hT.1 hc10
        refine lv_iconst (v := -1) hx hb dX12_every_35 (by decide) ?_
        exact fx_iret X hr hk h hT dX12_every_36
    · have hT := hT.1 hc9
      refine lv_iload_n hx hb dX12_every_29 rfl (lv_at hl 0 rfl) ?_
      exact fx_iret X hr hk h hT dX12_every_30
  · have hT := hT.1 hc5
    refine lv_iconst (v := -1) hx hb dX12_every_17 (by decide) ?_
    exact fx_iret X hr hk h hT dX12_every_18
