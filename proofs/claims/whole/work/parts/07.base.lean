/-! java/lang/Math.floorMod(II)I -/
theorem dJ9_floorMod_7cf53_0 : decode cJ9_floorMod_7cf53 0 = .ok (.iload_n 0, 1) := by decide +kernel
theorem dJ9_floorMod_7cf53_1 : decode cJ9_floorMod_7cf53 1 = .ok (.iload_n 1, 1) := by decide +kernel
theorem dJ9_floorMod_7cf53_2 : decode cJ9_floorMod_7cf53 2 = .ok (.irem, 1) := by decide +kernel
theorem dJ9_floorMod_7cf53_3 : decode cJ9_floorMod_7cf53 3 = .ok (.istore_n 2, 1) := by decide +kernel
theorem dJ9_floorMod_7cf53_4 : decode cJ9_floorMod_7cf53 4 = .ok (.iload_n 0, 1) := by decide +kernel
theorem dJ9_floorMod_7cf53_5 : decode cJ9_floorMod_7cf53 5 = .ok (.iload_n 1, 1) := by decide +kernel
theorem dJ9_floorMod_7cf53_6 : decode cJ9_floorMod_7cf53 6 = .ok (.ixor, 1) := by decide +kernel
theorem dJ9_floorMod_7cf53_7 : decode cJ9_floorMod_7cf53 7 = .ok (.ifCond .ge 11, 3) := by decide +kernel
theorem dJ9_floorMod_7cf53_10 : decode cJ9_floorMod_7cf53 10 = .ok (.iload_n 2, 1) := by decide +kernel
theorem dJ9_floorMod_7cf53_11 : decode cJ9_floorMod_7cf53 11 = .ok (.ifCond .eq 7, 3) := by decide +kernel
theorem dJ9_floorMod_7cf53_14 : decode cJ9_floorMod_7cf53 14 = .ok (.iload_n 2, 1) := by decide +kernel
theorem dJ9_floorMod_7cf53_15 : decode cJ9_floorMod_7cf53 15 = .ok (.iload_n 1, 1) := by decide +kernel
theorem dJ9_floorMod_7cf53_16 : decode cJ9_floorMod_7cf53 16 = .ok (.iadd, 1) := by decide +kernel
theorem dJ9_floorMod_7cf53_17 : decode cJ9_floorMod_7cf53 17 = .ok (.ireturn, 1) := by decide +kernel
theorem dJ9_floorMod_7cf53_18 : decode cJ9_floorMod_7cf53 18 = .ok (.iload_n 2, 1) := by decide +kernel
theorem dJ9_floorMod_7cf53_19 : decode cJ9_floorMod_7cf53 19 = .ok (.ireturn, 1) := by decide +kernel
def T_J9_floorMod_7cf53 (x0 : Int32) (x1 : Int32) (M : Mm) (K : Int32 → Mm → Prop) : Prop := (¬ x1 = 0 ∧ (∀ y2 : Int32, y2 = (x0 - x0 / x1 * x1) → ((0 ≤ (x0 ^^^ x1) → (K y2 M)) ∧ (¬ 0 ≤ (x0 ^^^ x1) → ((y2 = 0 → (K y2 M)) ∧ (¬ y2 = 0 → (K (y2 + x1) M)))))))
set_option maxHeartbeats 4000000 in
set_option maxRecDepth 100000 in
theorem c_J9_floorMod_7cf53 (l : Launch) (G : fx_G) {x0 : Int32} {x1 : Int32} {M : Mm} {K : Int32 → Mm → Prop} (hT : T_J9_floorMod_7cf53 x0 x1 M K) : Met l yJ9_floorMod_7cf53 (fx_ws yJ9_floorMod_7cf53 cJ9_floorMod_7cf53 3 (some .int)) (fx_rm (0)) (va_Pc [.int x0, .int x1] (fx_P G SH M)) (va_Qi K (fx_R G SH) (fx_A G)) 0 0 (fx_A G) := by
  refine fx_metF (own := RJ9) (by decide +kernel) rfl (Nat.le_of_ble_eq_true rfl) (fun p e s m below meth c X hr hk h ls hl => ?_)
  obtain ⟨⟨hx, hb, hml, hown, hts⟩, hK, hQ⟩ := id X
  have hl : lv_has ls 3 [(0, .int x0), (1, .int x1)] := hl
  unfold T_J9_floorMod_7cf53 at hT
  refine lv_iload_n hx hb dJ9_floorMod_7cf53_0 rfl (lv_at hl 0 rfl) ?_
  refine lv_iload_n hx hb dJ9_floorMod_7cf53_1 rfl (lv_at hl 1 rfl) ?_
  obtain ⟨hz1, hT⟩ := hT
  refine lv_irem hx hb dJ9_floorMod_7cf53_2 hz1 ?_
  refine lv_topi (fun y2 ey2 => ?_)
  have hT := hT y2 ey2
  refine lv_istore_n (lv' := [(2, .int y2), (0, .int x0), (1, .int x1)]) hx hb dJ9_floorMod_7cf53_3 rfl hl (by decide) rfl (fun ls hl => ?_)
  refine lv_iload_n hx hb dJ9_floorMod_7cf53_4 rfl (lv_at hl 1 rfl) ?_
  refine lv_iload_n hx hb dJ9_floorMod_7cf53_5 rfl (lv_at hl 2 rfl) ?_
  refine lv_ixor hx hb dJ9_floorMod_7cf53_6 ?_
  refine lv_if_ge (tgt := 18) hx hb dJ9_floorMod_7cf53_7 (by decide) (fun hc3 => ?_) (fun hc3 => ?_)
  · have hT := hT.1 hc3
    refine lv_iload_n hx hb dJ9_floorMod_7cf53_18 rfl (lv_at hl 0 rfl) ?_
    exact fx_iret X hr hk h hT dJ9_floorMod_7cf53_19
  · have hT := hT.2 hc3
    refine lv_iload_n hx hb dJ9_floorMod_7cf53_10 rfl (lv_at hl 0 rfl) ?_
    refine lv_if_eq (tgt := 18) hx hb dJ9_floorMod_7cf53_11 (by decide) (fun hc4 => ?_) (fun hc4 => ?_)
    · have hT := hT.1 hc4
      refine lv_iload_n hx hb dJ9_floorMod_7cf53_18 rfl (lv_at hl 0 rfl) ?_
      exact fx_iret X hr hk h hT dJ9_floorMod_7cf53_19
    · have hT := hT.2 hc4
      refine lv_iload_n hx hb dJ9_floorMod_7cf53_14 rfl (lv_at hl 0 rfl) ?_
      refine lv_iload_n hx hb dJ9_floorMod_7cf53_15 rfl (lv_at hl 2 rfl) ?_
      refine lv_iadd hx hb dJ9_floorMod_7cf53_16 ?_
      exact fx_iret X hr hk h hT dJ9_floorMod_7cf53_17
/-! java/lang/Integer.bitCount(I)I -/
theorem dJ6_bitCount_0f7a4_0 : decode cJ6_bitCount_0f7a4 0 = .ok (.iload_n 0, 1) := by decide +kernel
theorem dJ6_bitCount_0f7a4_1 : decode cJ6_bitCount_0f7a4 1 = .ok (.iload_n 0, 1) := by decide +kernel
theorem dJ6_bitCount_0f7a4_2 : decode cJ6_bitCount_0f7a4 2 = .ok (.iconst 1, 1) := by decide +kernel
theorem dJ6_bitCount_0f7a4_3 : decode cJ6_bitCount_0f7a4 3 = .ok (.iushr, 1) := by decide +kernel
theorem dJ6_bitCount_0f7a4_4 : decode cJ6_bitCount_0f7a4 4 = .ok (.ldc_w 265, 3) := by decide +kernel
theorem dJ6_bitCount_0f7a4_7 : decode cJ6_bitCount_0f7a4 7 = .ok (.iand, 1) := by decide +kernel
theorem dJ6_bitCount_0f7a4_8 : decode cJ6_bitCount_0f7a4 8 = .ok (.isub, 1) := by decide +kernel
theorem dJ6_bitCount_0f7a4_9 : decode cJ6_bitCount_0f7a4 9 = .ok (.istore_n 0, 1) := by decide +kernel
theorem dJ6_bitCount_0f7a4_10 : decode cJ6_bitCount_0f7a4 10 = .ok (.iload_n 0, 1) := by decide +kernel
theorem dJ6_bitCount_0f7a4_11 : decode cJ6_bitCount_0f7a4 11 = .ok (.ldc_w 266, 3) := by decide +kernel
theorem dJ6_bitCount_0f7a4_14 : decode cJ6_bitCount_0f7a4 14 = .ok (.iand, 1) := by decide +kernel
theorem dJ6_bitCount_0f7a4_15 : decode cJ6_bitCount_0f7a4 15 = .ok (.iload_n 0, 1) := by decide +kernel
theorem dJ6_bitCount_0f7a4_16 : decode cJ6_bitCount_0f7a4 16 = .ok (.iconst 2, 1) := by decide +kernel
theorem dJ6_bitCount_0f7a4_17 : decode cJ6_bitCount_0f7a4 17 = .ok (.iushr, 1) := by decide +kernel
theorem dJ6_bitCount_0f7a4_18 : decode cJ6_bitCount_0f7a4 18 = .ok (.ldc_w 266, 3) := by decide +kernel
theorem dJ6_bitCount_0f7a4_21 : decode cJ6_bitCount_0f7a4 21 = .ok (.iand, 1) := by decide +kernel
theorem dJ6_bitCount_0f7a4_22 : decode cJ6_bitCount_0f7a4 22 = .ok (.iadd, 1) := by decide +kernel
theorem dJ6_bitCount_0f7a4_23 : decode cJ6_bitCount_0f7a4 23 = .ok (.istore_n 0, 1) := by decide +kernel
theorem dJ6_bitCount_0f7a4_24 : decode cJ6_bitCount_0f7a4 24 = .ok (.iload_n 0, 1) := by decide +kernel
theorem dJ6_bitCount_0f7a4_25 : decode cJ6_bitCount_0f7a4 25 = .ok (.iload_n 0, 1) := by decide +kernel
theorem dJ6_bitCount_0f7a4_26 : decode cJ6_bitCount_0f7a4 26 = .ok (.iconst 4, 1) := by decide +kernel
theorem dJ6_bitCount_0f7a4_27 : decode cJ6_bitCount_0f7a4 27 = .ok (.iushr, 1) := by decide +kernel
theorem dJ6_bitCount_0f7a4_28 : decode cJ6_bitCount_0f7a4 28 = .ok (.iadd, 1) := by decide +kernel
theorem dJ6_bitCount_0f7a4_29 : decode cJ6_bitCount_0f7a4 29 = .ok (.ldc_w 267, 3) := by decide +kernel
theorem dJ6_bitCount_0f7a4_32 : decode cJ6_bitCount_0f7a4 32 = .ok (.iand, 1) := by decide +kernel
theorem dJ6_bitCount_0f7a4_33 : decode cJ6_bitCount_0f7a4 33 = .ok (.istore_n 0, 1) := by decide +kernel
theorem dJ6_bitCount_0f7a4_34 : decode cJ6_bitCount_0f7a4 34 = .ok (.iload_n 0, 1) := by decide +kernel
theorem dJ6_bitCount_0f7a4_35 : decode cJ6_bitCount_0f7a4 35 = .ok (.iload_n 0, 1) := by decide +kernel
theorem dJ6_bitCount_0f7a4_36 : decode cJ6_bitCount_0f7a4 36 = .ok (.bipush 8, 2) := by decide +kernel
theorem dJ6_bitCount_0f7a4_38 : decode cJ6_bitCount_0f7a4 38 = .ok (.iushr, 1) := by decide +kernel
theorem dJ6_bitCount_0f7a4_39 : decode cJ6_bitCount_0f7a4 39 = .ok (.iadd, 1) := by decide +kernel
theorem dJ6_bitCount_0f7a4_40 : decode cJ6_bitCount_0f7a4 40 = .ok (.istore_n 0, 1) := by decide +kernel
theorem dJ6_bitCount_0f7a4_41 : decode cJ6_bitCount_0f7a4 41 = .ok (.iload_n 0, 1) := by decide +kernel
theorem dJ6_bitCount_0f7a4_42 : decode cJ6_bitCount_0f7a4 42 = .ok (.iload_n 0, 1) := by decide +kernel
theorem dJ6_bitCount_0f7a4_43 : decode cJ6_bitCount_0f7a4 43 = .ok (.bipush 16, 2) := by decide +kernel
theorem dJ6_bitCount_0f7a4_45 : decode cJ6_bitCount_0f7a4 45 = .ok (.iushr, 1) := by decide +kernel
theorem dJ6_bitCount_0f7a4_46 : decode cJ6_bitCount_0f7a4 46 = .ok (.iadd, 1) := by decide +kernel
theorem dJ6_bitCount_0f7a4_47 : decode cJ6_bitCount_0f7a4 47 = .ok (.istore_n 0, 1) := by decide +kernel
theorem dJ6_bitCount_0f7a4_48 : decode cJ6_bitCount_0f7a4 48 = .ok (.iload_n 0, 1) := by decide +kernel
theorem dJ6_bitCount_0f7a4_49 : decode cJ6_bitCount_0f7a4 49 = .ok (.bipush 63, 2) := by decide +kernel
theorem dJ6_bitCount_0f7a4_51 : decode cJ6_bitCount_0f7a4 51 = .ok (.iand, 1) := by decide +kernel
theorem dJ6_bitCount_0f7a4_52 : decode cJ6_bitCount_0f7a4 52 = .ok (.ireturn, 1) := by decide +kernel
def T_J6_bitCount_0f7a4 (x0 : Int32) (M : Mm) (K : Int32 → Mm → Prop) : Prop := (∀ y1 : Int32, y1 = (x0 - ((((x0).toUInt32 >>> (((1 : Int32)).toUInt32 &&& Int32.toUInt32 31)).toInt32) &&& (1431655765 : Int32))) → (∀ y2 : Int32, y2 = ((y1 &&& (858993459 : Int32)) + ((((y1).toUInt32 >>> (((2 : Int32)).toUInt32 &&& Int32.toUInt32 31)).toInt32) &&& (858993459 : Int32))) → (∀ y3 : Int32, y3 = ((y2 + (((y2).toUInt32 >>> (((4 : Int32)).toUInt32 &&& Int32.toUInt32 31)).toInt32)) &&& (252645135 : Int32)) → (∀ y4 : Int32, y4 = (y3 + (((y3).toUInt32 >>> (((8 : Int32)).toUInt32 &&& Int32.toUInt32 31)).toInt32)) → (∀ y5 : Int32, y5 = (y4 + (((y4).toUInt32 >>> (((16 : Int32)).toUInt32 &&& Int32.toUInt32 31)).toInt32)) → (K (y5 &&& (63 : Int32)) M))))))
set_option maxHeartbeats 4000000 in
set_option maxRecDepth 100000 in
theorem c_J6_bitCount_0f7a4 (l : Launch) (G : fx_G) {x0 : Int32} {M : Mm} {K : Int32 → Mm → Prop} (hT : T_J6_bitCount_0f7a4 x0 M K) : Met l yJ6_bitCount_0f7a4 (fx_ws yJ6_bitCount_0f7a4 cJ6_bitCount_0f7a4 1 (some .int)) (fx_rm (0)) (va_Pc [.int x0] (fx_P G SH M)) (va_Qi K (fx_R G SH) (fx_A G)) 0 0 (fx_A G) := by
  refine fx_metF (own := RJ6) (by decide +kernel) rfl (Nat.le_of_ble_eq_true rfl) (fun p e s m below meth c X hr hk h ls hl => ?_)
  obtain ⟨⟨hx, hb, hml, hown, hts⟩, hK, hQ⟩ := id X
  have hl : lv_has ls 1 [(0, .int x0)] := hl
  unfold T_J6_bitCount_0f7a4 at hT
  refine lv_iload_n hx hb dJ6_bitCount_0f7a4_0 rfl (lv_at hl 0 rfl) ?_
  refine lv_iload_n hx hb dJ6_bitCount_0f7a4_1 rfl (lv_at hl 0 rfl) ?_
  refine lv_iconst (v := 1) hx hb dJ6_bitCount_0f7a4_2 (by decide) ?_
  refine lv_iushr hx hb dJ6_bitCount_0f7a4_3 rfl ?_
  refine lv_ldcw (v := 1431655765) hx hb hown (hts _ (fx_s5 (List.mem_of_getElem? (i := 70) rfl) rfl)) dJ6_bitCount_0f7a4_4 ?_
  refine lv_iand hx hb dJ6_bitCount_0f7a4_7 ?_
  refine lv_isub hx hb dJ6_bitCount_0f7a4_8 ?_
  refine lv_topi (fun y1 ey1 => ?_)
  have hT := hT y1 ey1
  refine lv_istore_n (lv' := [(0, .int y1)]) hx hb dJ6_bitCount_0f7a4_9 rfl hl (by decide) rfl (fun ls hl => ?_)
  refine lv_iload_n hx hb dJ6_bitCount_0f7a4_10 rfl (lv_at hl 0 rfl) ?_
  refine lv_ldcw (v := 858993459) hx hb hown (hts _ (fx_s5 (List.mem_of_getElem? (i := 71) rfl) rfl)) dJ6_bitCount_0f7a4_11 ?_
  refine lv_iand hx hb dJ6_bitCount_0f7a4_14 ?_
  refine lv_iload_n hx hb dJ6_bitCount_0f7a4_15 rfl (lv_at hl 0 rfl) ?_
  refine lv_iconst (v := 2) hx hb dJ6_bitCount_0f7a4_16 (by decide) ?_
  refine lv_iushr hx hb dJ6_bitCount_0f7a4_17 rfl ?_
  refine lv_ldcw (v := 858993459) hx hb hown (hts _ (fx_s5 (List.mem_of_getElem? (i := 71) rfl) rfl)) dJ6_bitCount_0f7a4_18 ?_
  refine lv_iand hx hb dJ6_bitCount_0f7a4_21 ?_
  refine lv_iadd hx hb dJ6_bitCount_0f7a4_22 ?_
  refine lv_topi (fun y2 ey2 => ?_)
  have hT := hT y2 ey2
  refine lv_istore_n (lv' := [(0, .int y2)]) hx hb dJ6_bitCount_0f7a4_23 rfl hl (by decide) rfl (fun ls hl => ?_)
  refine lv_iload_n hx hb dJ6_bitCount_0f7a4_24 rfl (lv_at hl 0 rfl) ?_
  refine lv_iload_n hx hb dJ6_bitCount_0f7a4_25 rfl (lv_at hl 0 rfl) ?_
  refine lv_iconst (v := 4) hx hb dJ6_bitCount_0f7a4_26 (by decide) ?_
  refine lv_iushr hx hb dJ6_bitCount_0f7a4_27 rfl ?_
  refine lv_iadd hx hb dJ6_bitCount_0f7a4_28 ?_
  refine lv_ldcw (v := 252645135) hx hb hown (hts _ (fx_s5 (List.mem_of_getElem? (i := 72) rfl) rfl)) dJ6_bitCount_0f7a4_29 ?_
  refine lv_iand hx hb dJ6_bitCount_0f7a4_32 ?_
  refine lv_topi (fun y3 ey3 => ?_)
  have hT := hT y3 ey3
  refine lv_istore_n (lv' := [(0, .int y3)]) hx hb dJ6_bitCount_0f7a4_33 rfl hl (by decide) rfl (fun ls hl => ?_)
  refine lv_iload_n hx hb dJ6_bitCount_0f7a4_34 rfl (lv_at hl 0 rfl) ?_
  refine lv_iload_n hx hb dJ6_bitCount_0f7a4_35 rfl (lv_at hl 0 rfl) ?_
  refine lv_bipush (v := 8) hx hb dJ6_bitCount_0f7a4_36 (by decide) ?_
  refine lv_iushr hx hb dJ6_bitCount_0f7a4_38 rfl ?_
  refine lv_iadd hx hb dJ6_bitCount_0f7a4_39 ?_
  refine lv_topi (fun y4 ey4 => ?_)
  have hT := hT y4 ey4
  refine lv_istore_n (lv' := [(0, .int y4)]) hx hb dJ6_bitCount_0f7a4_40 rfl hl (by decide) rfl (fun ls hl => ?_)
  refine lv_iload_n hx hb dJ6_bitCount_0f7a4_41 rfl (lv_at hl 0 rfl) ?_
  refine lv_iload_n hx hb dJ6_bitCount_0f7a4_42 rfl (lv_at hl 0 rfl) ?_
  refine lv_bipush (v := 16) hx hb dJ6_bitCount_0f7a4_43 (by decide) ?_
  refine lv_iushr hx hb dJ6_bitCount_0f7a4_45 rfl ?_
  refine lv_iadd hx hb dJ6_bitCount_0f7a4_46 ?_
  refine lv_topi (fun y5 ey5 => ?_)
  have hT := hT y5 ey5
  refine lv_istore_n (lv' := [(0, .int y5)]) hx hb dJ6_bitCount_0f7a4_47 rfl hl (by decide) rfl (fun ls hl => ?_)
  refine lv_iload_n hx hb dJ6_bitCount_0f7a4_48 rfl (lv_at hl 0 rfl) ?_
  refine lv_bipush (v := 63) hx hb dJ6_bitCount_0f7a4_49 (by decide) ?_
  refine lv_iand hx hb dJ6_bitCount_0f7a4_51 ?_
  exact fx_iret X hr hk h hT dJ6_bitCount_0f7a4_52
/-! MockParcels.isWithin(III)Z -/
theorem dX11_isWithin_0 : decode cX11_isWithin 0 = .ok (.iload_n 0, 1) := by decide +kernel
theorem dX11_isWithin_1 : decode cX11_isWithin 1 = .ok (.iload_n 1, 1) := by decide +kernel
theorem dX11_isWithin_2 : decode cX11_isWithin 2 = .ok (.if_icmp .lt 12, 3) := by decide +kernel
theorem dX11_isWithin_5 : decode cX11_isWithin 5 = .ok (.iload_n 0, 1) := by decide +kernel
theorem dX11_isWithin_6 : decode cX11_isWithin 6 = .ok (.iload_n 2, 1) := by decide +kernel
theorem dX11_isWithin_7 : decode cX11_isWithin 7 = .ok (.if_icmp .gt 7, 3) := by decide +kernel
theorem dX11_isWithin_10 : decode cX11_isWithin 10 = .ok (.iconst 1, 1) := by decide +kernel
theorem dX11_isWithin_11 : decode cX11_isWithin 11 = .ok (.goto 4, 3) := by decide +kernel
theorem dX11_isWithin_14 : decode cX11_isWithin 14 = .ok (.iconst 0, 1) := by decide +kernel
theorem dX11_isWithin_15 : decode cX11_isWithin 15 = .ok (.ireturn, 1) := by decide +kernel
def T_X11_isWithin (x0 : Int32) (x1 : Int32) (x2 : Int32) (M : Mm) (K : Int32 → Mm → Prop) : Prop := ((x0 < x1 → (K (0 : Int32) M)) ∧ (¬ x0 < x1 → ((x2 < x0 → (K (0 : Int32) M)) ∧ (¬ x2 < x0 → (K (1 : Int32) M)))))
set_option maxHeartbeats 4000000 in
set_option maxRecDepth 100000 in
theorem c_X11_isWithin (l : Launch) (G : fx_G) {x0 : Int32} {x1 : Int32} {x2 : Int32} {M : Mm} {K : Int32 → Mm → Prop} (hT : T_X11_isWithin x0 x1 x2 M K) : Met l yX11_isWithin (fx_ws yX11_isWithin cX11_isWithin 3 (some .boolean)) (fx_rm (0)) (va_Pc [.int x0, .int x1, .int x2] (fx_P G SH M)) (va_Qi K (fx_R G SH) (fx_A G)) 0 0 (fx_A G) := by
  refine fx_met (own := RX11) (by decide +kernel) rfl (Nat.le_of_ble_eq_true rfl) (fun p e s m below meth c X hr hk h ls hl => ?_)
  obtain ⟨⟨hx, hb, hml, hown, hts⟩, hK, hQ⟩ := id X
  have hl : lv_has ls 3 [(0, .int x0), (1, .int x1), (2, .int x2)] := hl
  unfold T_X11_isWithin at hT
  refine lv_iload_n hx hb dX11_isWithin_0 rfl (lv_at hl 0 rfl) ?_
  refine lv_iload_n hx hb dX11_isWithin_1 rfl (lv_at hl 1 rfl) ?_
  refine lv_icmp_lt (tgt := 14) hx hb dX11_isWithin_2 (by decide) (fun hc1 => ?_) (fun hc1 => ?_)
  · have hT := hT.1 hc1
    refine lv_iconst (v := 0) hx hb dX11_isWithin_14 (by decide) ?_
    exact fx_zret X hr hk h (Or.inl rfl) hT dX11_isWithin_15
  · have hT := hT.2 hc1
    refine lv_iload_n hx hb dX11_isWithin_5 rfl (lv_at hl 0 rfl) ?_
    refine lv_iload_n hx hb dX11_isWithin_6 rfl (lv_at hl 2 rfl) ?_
    refine lv_icmp_gt (tgt := 14) hx hb dX11_isWithin_7 (by decide) (fun hc2 => ?_) (fun hc2 => ?_)
    · have hT := hT.1 hc2
      refine lv_iconst (v := 0) hx hb dX11_isWithin_14 (by decide) ?_
      exact fx_zret X hr hk h (Or.inl rfl) hT dX11_isWithin_15
    · have hT := hT.2 hc2
      refine lv_iconst (v := 1) hx hb dX11_isWithin_10 (by decide) ?_
      refine lv_goto (tgt := 15) hx hb dX11_isWithin_11 (by decide) ?_
      exact fx_zret X hr hk h (Or.inr rfl) hT dX11_isWithin_15
/-! MockParcels.copyRow([I[I)V -/
theorem dX11_copyRow_0 : decode cX11_copyRow 0 = .ok (.iconst 0, 1) := by decide +kernel
theorem dX11_copyRow_1 : decode cX11_copyRow 1 = .ok (.istore_n 2, 1) := by decide +kernel
theorem dX11_copyRow_2 : decode cX11_copyRow 2 = .ok (.iload_n 2, 1) := by decide +kernel
theorem dX11_copyRow_3 : decode cX11_copyRow 3 = .ok (.aload_n 0, 1) := by decide +kernel
theorem dX11_copyRow_4 : decode cX11_copyRow 4 = .ok (.arraylength, 1) := by decide +kernel
theorem dX11_copyRow_5 : decode cX11_copyRow 5 = .ok (.if_icmp .ge 21, 3) := by decide +kernel
theorem dX11_copyRow_8 : decode cX11_copyRow 8 = .ok (.iload_n 2, 1) := by decide +kernel
theorem dX11_copyRow_9 : decode cX11_copyRow 9 = .ok (.aload_n 1, 1) := by decide +kernel
theorem dX11_copyRow_10 : decode cX11_copyRow 10 = .ok (.arraylength, 1) := by decide +kernel
theorem dX11_copyRow_11 : decode cX11_copyRow 11 = .ok (.if_icmp .ge 15, 3) := by decide +kernel
theorem dX11_copyRow_14 : decode cX11_copyRow 14 = .ok (.aload_n 1, 1) := by decide +kernel
theorem dX11_copyRow_15 : decode cX11_copyRow 15 = .ok (.iload_n 2, 1) := by decide +kernel
theorem dX11_copyRow_16 : decode cX11_copyRow 16 = .ok (.aload_n 0, 1) := by decide +kernel
theorem dX11_copyRow_17 : decode cX11_copyRow 17 = .ok (.iload_n 2, 1) := by decide +kernel
theorem dX11_copyRow_18 : decode cX11_copyRow 18 = .ok (.iaload, 1) := by decide +kernel
theorem dX11_copyRow_19 : decode cX11_copyRow 19 = .ok (.iastore, 1) := by decide +kernel
theorem dX11_copyRow_20 : decode cX11_copyRow 20 = .ok (.iinc 2 1, 3) := by decide +kernel
theorem dX11_copyRow_23 : decode cX11_copyRow 23 = .ok (.goto (-21), 3) := by decide +kernel
theorem dX11_copyRow_26 : decode cX11_copyRow 26 = .ok (.return_, 1) := by decide +kernel
def T_X11_copyRow_2 (a0 : Nat) (a1 : Nat) : Nat → Int32 → Mm → (Mm → Prop) → Prop
  | 0, _, _, _ => False
  | n + 1, x2, M, K => (((nI (ln a0)) ≤ x2 → (K M)) ∧ (¬ (nI (ln a0)) ≤ x2 → (((nI (ln a1)) ≤ x2 → (K M)) ∧ (¬ (nI (ln a1)) ≤ x2 → (vp_in x2 (ln a0) ∧ (vp_in x2 (ln a1) ∧ (∀ M4 : Mm, M4 = m_up M a1 (x2).toNatClampNeg (M a0 (x2).toNatClampNeg) → (∀ y6 : Int32, y6 = x2 + (1 : Int32) → (T_X11_copyRow_2 a0 a1 n y6 M4 K)))))))))
set_option maxHeartbeats 4000000 in
set_option maxRecDepth 100000 in
theorem w_X11_copyRow_2 {p : Program} {l : Launch} {e : Env} {s : State} {m : MethodId} {args : Array Value} {below : List Frame} {meth : Method} {c : Code} {G : fx_G} {K : Mm → Prop} {a0 : Nat} {a1 : Nat} (ha0 : SH[a0]? = some (.inl (ln a0))) (ha1 : SH[a1]? = some (.inl (ln a1))) (X : fx_C G p s m c args cX11_copyRow 3 RX11) (hr : meth.sig.returnType = none) (hk : meth.locks = false) : ∀ (n : Nat) (x2 : Int32) (M : Mm) (H : Heap) (locs : List Loc) (ls : Array Slot), T_X11_copyRow_2 a0 a1 n x2 M K → fx_H G SH M s H locs → lv_has ls 3 [(0, .ref (G.2.2.2 + a0)), (1, .ref (G.2.2.2 + a1)), (2, .int x2)] → W p l e (fx_rm (0)) s m args below meth c H locs 0 0 (MQ below (va_Qv K (fx_R G SH) (fx_A G)) args s 0 0 (fx_A G)) (F0 m 2 ls []) := by
  obtain ⟨⟨hx, hb, hml, hown, hts⟩, hK, hQ⟩ := id X
  intro n
  induction n with
  | zero =>
    intro x2 M H locs ls hT
    exact hT.elim
  | succ n ih =>
    intro x2 M H locs ls hT h hl
    rw [T_X11_copyRow_2] at hT
    refine lv_iload_n hx hb dX11_copyRow_2 rfl (lv_at hl 2 rfl) ?_
    refine lv_aload_n hx hb dX11_copyRow_3 rfl (lv_at hl 0 rfl) ?_
    refine fx_alen X h (k := a0) ha0 dX11_copyRow_4 ?_
    refine lv_icmp_ge (tgt := 26) hx hb dX11_copyRow_5 (by decide) (fun hc1 => ?_) (fun hc1 => ?_)
    · have hT := hT.1 hc1
      exact fx_vret X hr hk h hT dX11_copyRow_26
    · have hT := hT.2 hc1
      refine lv_iload_n hx hb dX11_copyRow_8 rfl (lv_at hl 2 rfl) ?_
      refine lv_aload_n hx hb dX11_copyRow_9 rfl (lv_at hl 1 rfl) ?_
      refine fx_alen X h (k := a1) ha1 dX11_copyRow_10 ?_
      refine lv_icmp_ge (tgt := 26) hx hb dX11_copyRow_11 (by decide) (fun hc2 => ?_) (fun hc2 => ?_)
      · have hT := hT.1 hc2
        exact fx_vret X hr hk h hT dX11_copyRow_26
      · have hT := hT.2 hc2
        refine lv_aload_n hx hb dX11_copyRow_14 rfl (lv_at hl 1 rfl) ?_
        refine lv_iload_n hx hb dX11_copyRow_15 rfl (lv_at hl 2 rfl) ?_
        refine lv_aload_n hx hb dX11_copyRow_16 rfl (lv_at hl 0 rfl) ?_
        refine lv_iload_n hx hb dX11_copyRow_17 rfl (lv_at hl 2 rfl) ?_
        obtain ⟨hi3, hT⟩ := hT
        refine fx_iald X h (k := a0) ha0 hi3 dX11_copyRow_18 ?_
        obtain ⟨hi5, hT⟩ := hT
        refine fx_iast X h (k := a1) ha1 hi5 dX11_copyRow_19 (fun H locs h => ?_)
        obtain ⟨M4, eM4⟩ : ∃ z : Mm, z = m_up M a1 (x2).toNatClampNeg (M a0 (x2).toNatClampNeg) := ⟨_, rfl⟩
        have hT := hT M4 eM4
        rw [← eM4] at h
        obtain ⟨y6, ey6⟩ : ∃ z : Int32, z = x2 + (1 : Int32) := ⟨_, rfl⟩
        have hT := hT y6 ey6
        refine lv_iinc (v := y6) (lv' := [(2, .int y6), (0, .ref (G.2.2.2 + a0)), (1, .ref (G.2.2.2 + a1))]) hx hb dX11_copyRow_20 hl (k := 2) rfl (by rw [ey6]; rfl) (by decide) rfl (fun ls hl => ?_)
        refine lv_goto (tgt := 2) hx hb dX11_copyRow_23 (by decide) ?_
        exact ih y6 M4 _ _ ls hT h (lv_sub hl [1, 2, 0] rfl)
def T_X11_copyRow (a0 : Nat) (a1 : Nat) (M : Mm) (K : Mm → Prop) : Prop := (T_X11_copyRow_2 a0 a1 5000 (0 : Int32) M K)
set_option maxHeartbeats 4000000 in
set_option maxRecDepth 100000 in
theorem c_X11_copyRow (l : Launch) (G : fx_G) {a0 : Nat} {a1 : Nat} (ha0 : SH[a0]? = some (.inl (ln a0))) (ha1 : SH[a1]? = some (.inl (ln a1))) {M : Mm} {K : Mm → Prop} (hT : T_X11_copyRow a0 a1 M K) : Met l yX11_copyRow (fx_ws yX11_copyRow cX11_copyRow 3 none) (fx_rm (0)) (va_Pc [.ref (G.2.2.2 + a0), .ref (G.2.2.2 + a1)] (fx_P G SH M)) (va_Qv K (fx_R G SH) (fx_A G)) 0 0 (fx_A G) := by
  refine fx_met (own := RX11) (by decide +kernel) rfl (Nat.le_of_ble_eq_true rfl) (fun p e s m below meth c X hr hk h ls hl => ?_)
  obtain ⟨⟨hx, hb, hml, hown, hts⟩, hK, hQ⟩ := id X
  have hl : lv_has ls 3 [(0, .ref (G.2.2.2 + a0)), (1, .ref (G.2.2.2 + a1))] := hl
  unfold T_X11_copyRow at hT
  refine lv_iconst (v := 0) hx hb dX11_copyRow_0 (by decide) ?_
  refine lv_istore_n (lv' := [(2, .int (0 : Int32)), (0, .ref (G.2.2.2 + a0)), (1, .ref (G.2.2.2 + a1))]) hx hb dX11_copyRow_1 rfl hl (by decide) rfl (fun ls hl => ?_)
  exact w_X11_copyRow_2 ha0 ha1 X hr hk 5000 (0 : Int32) M _ _ ls hT h (lv_sub hl [1, 2, 0] rfl)
/-! MockParcels.fillRow([II)V -/
theorem dX11_fillRow_0 : decode cX11_fillRow 0 = .ok (.iconst 0, 1) := by decide +kernel
theorem dX11_fillRow_1 : decode cX11_fillRow 1 = .ok (.istore_n 2, 1) := by decide +kernel
theorem dX11_fillRow_2 : decode cX11_fillRow 2 = .ok (.iload_n 2, 1) := by decide +kernel
theorem dX11_fillRow_3 : decode cX11_fillRow 3 = .ok (.aload_n 0, 1) := by decide +kernel
theorem dX11_fillRow_4 : decode cX11_fillRow 4 = .ok (.arraylength, 1) := by decide +kernel
theorem dX11_fillRow_5 : decode cX11_fillRow 5 = .ok (.if_icmp .ge 13, 3) := by decide +kernel
theorem dX11_fillRow_8 : decode cX11_fillRow 8 = .ok (.aload_n 0, 1) := by decide +kernel
theorem dX11_fillRow_9 : decode cX11_fillRow 9 = .ok (.iload_n 2, 1) := by decide +kernel
theorem dX11_fillRow_10 : decode cX11_fillRow 10 = .ok (.iload_n 1, 1) := by decide +kernel
theorem dX11_fillRow_11 : decode cX11_fillRow 11 = .ok (.iastore, 1) := by decide +kernel
theorem dX11_fillRow_12 : decode cX11_fillRow 12 = .ok (.iinc 2 1, 3) := by decide +kernel
theorem dX11_fillRow_15 : decode cX11_fillRow 15 = .ok (.goto (-13), 3) := by decide +kernel
theorem dX11_fillRow_18 : decode cX11_fillRow 18 = .ok (.return_, 1) := by decide +kernel
def T_X11_fillRow_2 (a0 : Nat) : Nat → Int32 → Int32 → Mm → (Mm → Prop) → Prop
  | 0, _, _, _, _ => False
  | n + 1, x1, x2, M, K => (((nI (ln a0)) ≤ x2 → (K M)) ∧ (¬ (nI (ln a0)) ≤ x2 → (vp_in x2 (ln a0) ∧ (∀ M2 : Mm, M2 = m_up M a0 (x2).toNatClampNeg x1 → (∀ y4 : Int32, y4 = x2 + (1 : Int32) → (T_X11_fillRow_2 a0 n x1 y4 M2 K))))))
set_option maxHeartbeats 4000000 in
set_option maxRecDepth 100000 in
theorem w_X11_fillRow_2 {p : Program} {l : Launch} {e : Env} {s : State} {m : MethodId} {args : Array Value} {below : List Frame} {meth : Method} {c : Code} {G : fx_G} {K : Mm → Prop} {a0 : Nat} (ha0 : SH[a0]? = some (.inl (ln a0))) (X : fx_C G p s m c args cX11_fillRow 3 RX11) (hr : meth.sig.returnType = none) (hk : meth.locks = false) : ∀ (n : Nat) (x1 : Int32) (x2 : Int32) (M : Mm) (H : Heap) (locs : List Loc) (ls : Array Slot), T_X11_fillRow_2 a0 n x1 x2 M K → fx_H G SH M s H locs → lv_has ls 3 [(0, .ref (G.2.2.2 + a0)), (1, .int x1), (2, .int x2)] → W p l e (fx_rm (0)) s m args below meth c H locs 0 0 (MQ below (va_Qv K (fx_R G SH) (fx_A G)) args s 0 0 (fx_A G)) (F0 m 2 ls []) := by
  obtain ⟨⟨hx, hb, hml, hown, hts⟩, hK, hQ⟩ := id X
  intro n
  induction n with
  | zero =>
    intro x1 x2 M H locs ls hT
    exact hT.elim
  | succ n ih =>
    intro x1 x2 M H locs ls hT h hl
    rw [T_X11_fillRow_2] at hT
    refine lv_iload_n hx hb dX11_fillRow_2 rfl (lv_at hl 2 rfl) ?_
    refine lv_aload_n hx hb dX11_fillRow_3 rfl (lv_at hl 0 rfl) ?_
    refine fx_alen X h (k := a0) ha0 dX11_fillRow_4 ?_
    refine lv_icmp_ge (tgt := 18) hx hb dX11_fillRow_5 (by decide) (fun hc1 => ?_) (fun hc1 => ?_)
    · have hT := hT.1 hc1
      exact fx_vret X hr hk h hT dX11_fillRow_18
    · have hT := hT.2 hc1
      refine lv_aload_n hx hb dX11_fillRow_8 rfl (lv_at hl 0 rfl) ?_
      refine lv_iload_n hx hb dX11_fillRow_9 rfl (lv_at hl 2 rfl) ?_
      refine lv_iload_n hx hb dX11_fillRow_10 rfl (lv_at hl 1 rfl) ?_
      obtain ⟨hi3, hT⟩ := hT
      refine fx_iast X h (k := a0) ha0 hi3 dX11_fillRow_11 (fun H locs h => ?_)
      obtain ⟨M2, eM2⟩ : ∃ z : Mm, z = m_up M a0 (x2).toNatClampNeg x1 := ⟨_, rfl⟩
      have hT := hT M2 eM2
      rw [← eM2] at h
      obtain ⟨y4, ey4⟩ : ∃ z : Int32, z = x2 + (1 : Int32) := ⟨_, rfl⟩
      have hT := hT y4 ey4
      refine lv_iinc (v := y4) (lv' := [(2, .int y4), (0, .ref (G.2.2.2 + a0)), (1, .int x1)]) hx hb dX11_fillRow_12 hl (k := 2) rfl (by rw [ey4]; rfl) (by decide) rfl (fun ls hl => ?_)
      refine lv_goto (tgt := 2) hx hb dX11_fillRow_15 (by decide) ?_
      exact ih x1 y4 M2 _ _ ls hT h (lv_sub hl [1, 2, 0] rfl)
def T_X11_fillRow (a0 : Nat) (x1 : Int32) (M : Mm) (K : Mm → Prop) : Prop := (T_X11_fillRow_2 a0 5000 x1 (0 : Int32) M K)
set_option maxHeartbeats 4000000 in
set_option maxRecDepth 100000 in
theorem c_X11_fillRow (l : Launch) (G : fx_G) {a0 : Nat} (ha0 : SH[a0]? = some (.inl (ln a0))) {x1 : Int32} {M : Mm} {K : Mm → Prop} (hT : T_X11_fillRow a0 x1 M K) : Met l yX11_fillRow (fx_ws yX11_fillRow cX11_fillRow 3 none) (fx_rm (0)) (va_Pc [.ref (G.2.2.2 + a0), .int x1] (fx_P G SH M)) (va_Qv K (fx_R G SH) (fx_A G)) 0 0 (fx_A G) := by
  refine fx_met (own := RX11) (by decide +kernel) rfl (Nat.le_of_ble_eq_true rfl) (fun p e s m below meth c X hr hk h ls hl => ?_)
  obtain ⟨⟨hx, hb, hml, hown, hts⟩, hK, hQ⟩ := id X
  have hl : lv_has ls 3 [(0, .ref (G.2.2.2 + a0)), (1, .int x1)] := hl
  unfold T_X11_fillRow at hT
  refine lv_iconst (v := 0) hx hb dX11_fillRow_0 (by decide) ?_
  refine lv_istore_n (lv' := [(2, .int (0 : Int32)), (0, .ref (G.2.2.2 + a0)), (1, .int x1)]) hx hb dX11_fillRow_1 rfl hl (by decide) rfl (fun ls hl => ?_)
  exact w_X11_fillRow_2 ha0 X hr hk 5000 x1 (0 : Int32) M _ _ ls hT h (lv_sub hl [1, 2, 0] rfl)
/-! MockParcels$Cast.hasParcel(I)Z -/
theorem dX1_hasParcel_0 : decode cX1_hasParcel 0 = .ok (.iload_n 1, 1) := by decide +kernel
theorem dX1_hasParcel_1 : decode cX1_hasParcel 1 = .ok (.ifCond .lt 21, 3) := by decide +kernel
theorem dX1_hasParcel_4 : decode cX1_hasParcel 4 = .ok (.iload_n 1, 1) := by decide +kernel
theorem dX1_hasParcel_5 : decode cX1_hasParcel 5 = .ok (.aload_n 0, 1) := by decide +kernel
theorem dX1_hasParcel_6 : decode cX1_hasParcel 6 = .ok (.getfield 9, 3) := by decide +kernel
theorem dX1_hasParcel_9 : decode cX1_hasParcel 9 = .ok (.if_icmp .ge 13, 3) := by decide +kernel
theorem dX1_hasParcel_12 : decode cX1_hasParcel 12 = .ok (.iload_n 1, 1) := by decide +kernel
theorem dX1_hasParcel_13 : decode cX1_hasParcel 13 = .ok (.bipush 16, 2) := by decide +kernel
theorem dX1_hasParcel_15 : decode cX1_hasParcel 15 = .ok (.if_icmp .ge 7, 3) := by decide +kernel
theorem dX1_hasParcel_18 : decode cX1_hasParcel 18 = .ok (.iconst 1, 1) := by decide +kernel
theorem dX1_hasParcel_19 : decode cX1_hasParcel 19 = .ok (.goto 4, 3) := by decide +kernel
theorem dX1_hasParcel_22 : decode cX1_hasParcel 22 = .ok (.iconst 0, 1) := by decide +kernel
theorem dX1_hasParcel_23 : decode cX1_hasParcel 23 = .ok (.ireturn, 1) := by decide +kernel
def T_X1_hasParcel (o : Nat) (x1 : Int32) (M : Mm) (K : Int32 → Mm → Prop) : Prop := ((x1 < 0 → (K (0 : Int32) M)) ∧ (¬ x1 < 0 → (((M o 0) ≤ x1 → (K (0 : Int32) M)) ∧ (¬ (M o 0) ≤ x1 → (((16 : Int32) ≤ x1 → (K (0 : Int32) M)) ∧ (¬ (16 : Int32) ≤ x1 → (K (1 : Int32) M)))))))
set_option maxHeartbeats 4000000 in
set_option maxRecDepth 100000 in
theorem c_X1_hasParcel (l : Launch) (G : fx_G) {o : Nat} (ho : o ∈ id_Cast) {x1 : Int32} {M : Mm} {K : Int32 → Mm → Prop} (hT : T_X1_hasParcel o x1 M K) : Met l yX1_hasParcel (fx_ws yX1_hasParcel cX1_hasParcel 2 (some .boolean)) (fx_rm (0)) (va_Pc [.ref (G.2.2.2 + o), .int x1] (fx_P G SH M)) (va_Qi K (fx_R G SH) (fx_A G)) 0 0 (fx_A G) := by
  refine fx_met (own := RX1) (by decide +kernel) rfl (Nat.le_of_ble_eq_true rfl) (fun p e s m below meth c X hr hk h ls hl => ?_)
  obtain ⟨⟨hx, hb, hml, hown, hts⟩, hK, hQ⟩ := id X
  have hl : lv_has ls 2 [(0, .ref (G.2.2.2 + o)), (1, .int x1)] := hl
  unfold T_X1_hasParcel at hT
  refine lv_iload_n hx hb dX1_hasParcel_0 rfl (lv_at hl 1 rfl) ?_
  refine lv_if_lt (tgt := 22) hx hb dX1_hasParcel_1 (by decide) (fun hc1 => ?_) (fun hc1 => ?_)
  · have hT := hT.1 hc1
    refine lv_iconst (v := 0) hx hb dX1_hasParcel_22 (by decide) ?_
    exact fx_zret X hr hk h (Or.inl rfl) hT dX1_hasParcel_23
  · have hT := hT.2 hc1
    refine lv_iload_n hx hb dX1_hasParcel_4 rfl (lv_at hl 1 rfl) ?_
    refine lv_aload_n hx hb dX1_hasParcel_5 rfl (lv_at hl 0 rfl) ?_
    refine fx_getI X h (k := o) (j := 0) (sc_Cast o ho) rfl fl_RX1_9 dX1_hasParcel_6 ?_
    refine lv_icmp_ge (tgt := 22) hx hb dX1_hasParcel_9 (by decide) (fun hc2 => ?_) (fun hc2 => ?_)
    · have hT := hT.1 hc2
      refine lv_iconst (v := 0) hx hb dX1_hasParcel_22 (by decide) ?_
      exact fx_zret X hr hk h (Or.inl rfl) hT dX1_hasParcel_23
    · have hT := hT.2 hc2
      refine lv_iload_n hx hb dX1_hasParcel_12 rfl (lv_at hl 1 rfl) ?_
      refine lv_bipush (v := 16) hx hb dX1_hasParcel_13 (by decide) ?_
      refine lv_icmp_ge (tgt := 22) hx hb dX1_hasParcel_15 (by decide) (fun hc3 => ?_) (fun hc3 => ?_)
      · have hT := hT.1 hc3
        refine lv_iconst (v := 0) hx hb dX1_hasParcel_22 (by decide) ?_
        exact fx_zret X hr hk h (Or.inl rfl) hT dX1_hasParcel_23
      · have hT := hT.2 hc3
        refine lv_iconst (v := 1) hx hb dX1_hasParcel_18 (by decide) ?_
        refine lv_goto (tgt := 23) hx hb dX1_hasParcel_19 (by decide) ?_
        exact fx_zret X hr hk h (Or.inr rfl) hT dX1_hasParcel_23
/-! MockParcels$Cast.hasBidder(I)Z -/
theorem dX1_hasBidder_0 : decode cX1_hasBidder 0 = .ok (.iload_n 1, 1) := by decide +kernel
theorem dX1_hasBidder_1 : decode cX1_hasBidder 1 = .ok (.ifCond .lt 21, 3) := by decide +kernel
theorem dX1_hasBidder_4 : decode cX1_hasBidder 4 = .ok (.iload_n 1, 1) := by decide +kernel
theorem dX1_hasBidder_5 : decode cX1_hasBidder 5 = .ok (.aload_n 0, 1) := by decide +kernel
theorem dX1_hasBidder_6 : decode cX1_hasBidder 6 = .ok (.getfield 15, 3) := by decide +kernel
theorem dX1_hasBidder_9 : decode cX1_hasBidder 9 = .ok (.if_icmp .ge 13, 3) := by decide +kernel
theorem dX1_hasBidder_12 : decode cX1_hasBidder 12 = .ok (.iload_n 1, 1) := by decide +kernel
theorem dX1_hasBidder_13 : decode cX1_hasBidder 13 = .ok (.bipush 8, 2) := by decide +kernel
theorem dX1_hasBidder_15 : decode cX1_hasBidder 15 = .ok (.if_icmp .ge 7, 3) := by decide +kernel
theorem dX1_hasBidder_18 : decode cX1_hasBidder 18 = .ok (.iconst 1, 1) := by decide +kernel
theorem dX1_hasBidder_19 : decode cX1_hasBidder 19 = .ok (.goto 4, 3) := by decide +kernel
theorem dX1_hasBidder_22 : decode cX1_hasBidder 22 = .ok (.iconst 0, 1) := by decide +kernel
theorem dX1_hasBidder_23 : decode cX1_hasBidder 23 = .ok (.ireturn, 1) := by decide +kernel
def T_X1_hasBidder (o : Nat) (x1 : Int32) (M : Mm) (K : Int32 → Mm → Prop) : Prop := ((x1 < 0 → (K (0 : Int32) M)) ∧ (¬ x1 < 0 → (((M o 1) ≤ x1 → (K (0 : Int32) M)) ∧ (¬ (M o 1) ≤ x1 → (((8 : Int32) ≤ x1 → (K (0 : Int32) M)) ∧ (¬ (8 : Int32) ≤ x1 → (K (1 : Int32) M)))))))
set_option maxHeartbeats 4000000 in
set_option maxRecDepth 100000 in
theorem c_X1_hasBidder (l : Launch) (G : fx_G) {o : Nat} (ho : o ∈ id_Cast) {x1 : Int32} {M : Mm} {K : Int32 → Mm → Prop} (hT : T_X1_hasBidder o x1 M K) : Met l yX1_hasBidder (fx_ws yX1_hasBidder cX1_hasBidder 2 (some .boolean)) (fx_rm (0)) (va_Pc [.ref (G.2.2.2 + o), .int x1] (fx_P G SH M)) (va_Qi K (fx_R G SH) (fx_A G)) 0 0 (fx_A G) := by
  refine fx_met (own := RX1) (by decide +kernel) rfl (Nat.le_of_ble_eq_true rfl) (fun p e s m below meth c X hr hk h ls hl => ?_)
  obtain ⟨⟨hx, hb, hml, hown, hts⟩, hK, hQ⟩ := id X
  have hl : lv_has ls 2 [(0, .ref (G.2.2.2 + o)), (1, .int x1)] := hl
  unfold T_X1_hasBidder at hT
  refine lv_iload_n hx hb dX1_hasBidder_0 rfl (lv_at hl 1 rfl) ?_
  refine lv_if_lt (tgt := 22) hx hb dX1_hasBidder_1 (by decide) (fun hc1 => ?_) (fun hc1 => ?_)
  · have hT := hT.1 hc1
    refine lv_iconst (v := 0) hx hb dX1_hasBidder_22 (by decide) ?_
    exact fx_zret X hr hk h (Or.inl rfl) hT dX1_hasBidder_23
  · have hT := hT.2 hc1
    refine lv_iload_n hx hb dX1_hasBidder_4 rfl (lv_at hl 1 rfl) ?_
    refine lv_aload_n hx hb dX1_hasBidder_5 rfl (lv_at hl 0 rfl) ?_
    refine fx_getI X h (k := o) (j := 1) (sc_Cast o ho) rfl fl_RX1_15 dX1_hasBidder_6 ?_
    refine lv_icmp_ge (tgt := 22) hx hb dX1_hasBidder_9 (by decide) (fun hc2 => ?_) (fun hc2 => ?_)
    · have hT := hT.1 hc2
      refine lv_iconst (v := 0) hx hb dX1_hasBidder_22 (by decide) ?_
      exact fx_zret X hr hk h (Or.inl rfl) hT dX1_hasBidder_23
    · have hT := hT.2 hc2
      refine lv_iload_n hx hb dX1_hasBidder_12 rfl (lv_at hl 1 rfl) ?_
      refine lv_bipush (v := 8) hx hb dX1_hasBidder_13 (by decide) ?_
      refine lv_icmp_ge (tgt := 22) hx hb dX1_hasBidder_15 (by decide) (fun hc3 => ?_) (fun hc3 => ?_)
      · have hT := hT.1 hc3
        refine lv_iconst (v := 0) hx hb dX1_hasBidder_22 (by decide) ?_
        exact fx_zret X hr hk h (Or.inl rfl) hT dX1_hasBidder_23
      · have hT := hT.2 hc3
        refine lv_iconst (v := 1) hx hb dX1_hasBidder_18 (by decide) ?_
        refine lv_goto (tgt := 23) hx hb dX1_hasBidder_19 (by decide) ?_
        exact fx_zret X hr hk h (Or.inr rfl) hT dX1_hasBidder_23
/-! MockParcels$Cast.addParcel(III)I -/
theorem dX1_addParcel_0 : decode cX1_addParcel 0 = .ok (.aload_n 0, 1) := by decide +kernel
theorem dX1_addParcel_1 : decode cX1_addParcel 1 = .ok (.getfield 9, 3) := by decide +kernel
theorem dX1_addParcel_4 : decode cX1_addParcel 4 = .ok (.bipush 16, 2) := by decide +kernel
theorem dX1_addParcel_6 : decode cX1_addParcel 6 = .ok (.if_icmp .lt 5, 3) := by decide +kernel
theorem dX1_addParcel_9 : decode cX1_addParcel 9 = .ok (.iconst (-1), 1) := by decide +kernel
theorem dX1_addParcel_10 : decode cX1_addParcel 10 = .ok (.ireturn, 1) := by decide +kernel
theorem dX1_addParcel_11 : decode cX1_addParcel 11 = .ok (.aload_n 0, 1) := by decide +kernel
theorem dX1_addParcel_12 : decode cX1_addParcel 12 = .ok (.getfield 18, 3) := by decide +kernel
theorem dX1_addParcel_15 : decode cX1_addParcel 15 = .ok (.aload_n 0, 1) := by decide +kernel
theorem dX1_addParcel_16 : decode cX1_addParcel 16 = .ok (.getfield 9, 3) := by decide +kernel
theorem dX1_addParcel_19 : decode cX1_addParcel 19 = .ok (.iload_n 1, 1) := by decide +kernel
theorem dX1_addParcel_20 : decode cX1_addParcel 20 = .ok (.iastore, 1) := by decide +kernel
theorem dX1_addParcel_21 : decode cX1_addParcel 21 = .ok (.aload_n 0, 1) := by decide +kernel
theorem dX1_addParcel_22 : decode cX1_addParcel 22 = .ok (.getfield 22, 3) := by decide +kernel
theorem dX1_addParcel_25 : decode cX1_addParcel 25 = .ok (.aload_n 0, 1) := by decide +kernel
theorem dX1_addParcel_26 : decode cX1_addParcel 26 = .ok (.getfield 9, 3) := by decide +kernel
theorem dX1_addParcel_29 : decode cX1_addParcel 29 = .ok (.iload_n 2, 1) := by decide +kernel
theorem dX1_addParcel_30 : decode cX1_addParcel 30 = .ok (.iastore, 1) := by decide +kernel
theorem dX1_addParcel_31 : decode cX1_addParcel 31 = .ok (.aload_n 0, 1) := by decide +kernel
theorem dX1_addParcel_32 : decode cX1_addParcel 32 = .ok (.getfield 25, 3) := by decide +kernel
theorem dX1_addParcel_35 : decode cX1_addParcel 35 = .ok (.aload_n 0, 1) := by decide +kernel
theorem dX1_addParcel_36 : decode cX1_addParcel 36 = .ok (.getfield 9, 3) := by decide +kernel
theorem dX1_addParcel_39 : decode cX1_addParcel 39 = .ok (.iload_n 3, 1) := by decide +kernel
theorem dX1_addParcel_40 : decode cX1_addParcel 40 = .ok (.iastore, 1) := by decide +kernel
theorem dX1_addParcel_41 : decode cX1_addParcel 41 = .ok (.aload_n 0, 1) := by decide +kernel
theorem dX1_addParcel_42 : decode cX1_addParcel 42 = .ok (.dup, 1) := by decide +kernel
theorem dX1_addParcel_43 : decode cX1_addParcel 43 = .ok (.getfield 9, 3) := by decide +kernel
theorem dX1_addParcel_46 : decode cX1_addParcel 46 = .ok (.iconst 1, 1) := by decide +kernel
theorem dX1_addParcel_47 : decode cX1_addParcel 47 = .ok (.iadd, 1) := by decide +kernel
theorem dX1_addParcel_48 : decode cX1_addParcel 48 = .ok (.putfield 9, 3) := by decide +kernel
theorem dX1_addParcel_51 : decode cX1_addParcel 51 = .ok (.aload_n 0, 1) := by decide +kernel
theorem dX1_addParcel_52 : decode cX1_addParcel 52 = .ok (.getfield 9, 3) := by decide +kernel
theorem dX1_addParcel_55 : decode cX1_addParcel 55 = .ok (.iconst 1, 1) := by decide +kernel
theorem dX1_addParcel_56 : decode cX1_addParcel 56 = .ok (.isub, 1) := by decide +kernel
theorem dX1_addParcel_57 : decode cX1_addParcel 57 = .ok (.ireturn, 1) := by decide +kernel
def T_X1_addParcel (o : Nat) (x1 : Int32) (x2 : Int32) (x3 : Int32) (M : Mm) (K : Int32 → Mm → Prop) : Prop := (((M o 0) < (16 : Int32) → (vp_in (M o 0) 16 ∧ (∀ M2 : Mm, M2 = m_up M (rf o 2) ((M o 0)).toNatClampNeg x1 → (vp_in (M2 o 0) 16 ∧ (∀ M4 : Mm, M4 = m_up M2 (rf o 3) ((M2 o 0)).toNatClampNeg x2 → (vp_in (M4 o 0) 16 ∧ (∀ M6 : Mm, M6 = m_up M4 (rf o 4) ((M4 o 0)).toNatClampNeg x3 → (∀ M8 : Mm, M8 = m_up M6 o 0 ((M6 o 0) + (1 : Int32)) → (K ((M8 o 0) - (1 : Int32)) M8))))))))) ∧ (¬ (M o 0) < (16 : Int32) → (K (-1 : Int32) M)))
set_option maxHeartbeats 4000000 in
set_option maxRecDepth 100000 in
theorem c_X1_addParcel (l : Launch) (G : fx_G) {o : Nat} (ho : o ∈ id_Cast) {x1 : Int32} {x2 : Int32} {x3 : Int32} {M : Mm} {K : Int32 → Mm → Prop} (hT : T_X1_addParcel o x1 x2 x3 M K) : Met l yX1_addParcel (fx_ws yX1_addParcel cX1_addParcel 4 (some .int)) (fx_rm (0)) (va_Pc [.ref (G.2.2.2 + o), .int x1, .int x2, .int x3] (fx_P G SH M)) (va_Qi K (fx_R G SH) (fx_A G)) 0 0 (fx_A G) := by
  refine fx_met (own := RX1) (by decide +kernel) rfl (Nat.le_of_ble_eq_true rfl) (fun p e s m below meth c X hr hk h ls hl => ?_)
  obtain ⟨⟨hx, hb, hml, hown, hts⟩, hK, hQ⟩ := id X
  have hl : lv_has ls 4 [(0, .ref (G.2.2.2 + o)), (1, .int x1), (2, .int x2), (3, .int x3)] := hl
  unfold T_X1_addParcel at hT
  refine lv_aload_n hx hb dX1_addParcel_0 rfl (lv_at hl 0 rfl) ?_
  refine fx_getI X h (k := o) (j := 0) (sc_Cast o ho) rfl fl_RX1_9 dX1_addParcel_1 ?_
  refine lv_bipush (v := 16) hx hb dX1_addParcel_4 (by decide) ?_
  refine lv_icmp_lt (tgt := 11) hx hb dX1_addParcel_6 (by decide) (fun hc1 => ?_) (fun hc1 => ?_)
  · have hT := hT.1 hc1
    refine lv_aload_n hx hb dX1_addParcel_11 rfl (lv_at hl 0 rfl) ?_
    refine fx_getR X h (k := o) (j := 2) (r := (rf o 2)) (sc_Cast o ho) rfl fl_RX1_18 dX1_addParcel_12 ?_
    refine lv_aload_n hx hb dX1_addParcel_15 rfl (lv_at hl 0 rfl) ?_
    refine fx_getI X h (k := o) (j := 0) (sc_Cast o ho) rfl fl_RX1_9 dX1_addParcel_16 ?_
    refine lv_iload_n hx hb dX1_addParcel_19 rfl (lv_at hl 1 rfl) ?_
    obtain ⟨hi3, hT⟩ := hT
    refine fx_iast X h (k := (rf o 2)) (sa_Cast_2 o ho) hi3 dX1_addParcel_20 (fun H locs h => ?_)
    obtain ⟨M2, eM2⟩ : ∃ z : Mm, z = m_up M (rf o 2) ((M o 0)).toNatClampNeg x1 := ⟨_, rfl⟩
    have hT := hT M2 eM2
    rw [← eM2] at h
    refine lv_aload_n hx hb dX1_addParcel_21 rfl (lv_at hl 0 rfl) ?_
    refine fx_getR X h (k := o) (j := 3) (r := (rf o 3)) (sc_Cast o ho) rfl fl_RX1_22 dX1_addParcel_22 ?_
    refine lv_aload_n hx hb dX1_addParcel_25 rfl (lv_at hl 0 rfl) ?_
    refine fx_getI X h (k := o) (j := 0) (sc_Cast o ho) rfl fl_RX1_9 dX1_addParcel_26 ?_
    refine lv_iload_n hx hb dX1_addParcel_29 rfl (lv_at hl 2 rfl) ?_
    obtain ⟨hi5, hT⟩ := hT
    refine fx_iast X h (k := (rf o 3)) (sa_Cast_3 o ho) hi5 dX1_addParcel_30 (fun H locs h => ?_)
    obtain ⟨M4, eM4⟩ : ∃ z : Mm, z = m_up M2 (rf o 3) ((M2 o 0)).toNatClampNeg x2 := ⟨_, rfl⟩
    have hT := hT M4 eM4
    rw [← eM4] at h
    refine lv_aload_n hx hb dX1_addParcel_31 rfl (lv_at hl 0 rfl) ?_
    refine fx_getR X h (k := o) (j := 4) (r := (rf o 4)) (sc_Cast o ho) rfl fl_RX1_25 dX1_addParcel_32 ?_
    refine lv_aload_n hx hb dX1_addParcel_35 rfl (lv_at hl 0 rfl) ?_
    refine fx_getI X h (k := o) (j := 0) (sc_Cast o ho) rfl fl_RX1_9 dX1_addParcel_36 ?_
    refine lv_iload_n hx hb dX1_addParcel_39 rfl (lv_at hl 3 rfl) ?_
    obtain ⟨hi7, hT⟩ := hT
    refine fx_iast X h (k := (rf o 4)) (sa_Cast_4 o ho) hi7 dX1_addParcel_40 (fun H locs h => ?_)
    obtain ⟨M6, eM6⟩ : ∃ z : Mm, z = m_up M4 (rf o 4) ((M4 o 0)).toNatClampNeg x3 := ⟨_, rfl⟩
    have hT := hT M6 eM6
    rw [← eM6] at h
    refine lv_aload_n hx hb dX1_addParcel_41 rfl (lv_at hl 0 rfl) ?_
    refine lv_dup hx hb dX1_addParcel_42 rfl ?_
    refine fx_getI X h (k := o) (j := 0) (sc_Cast o ho) rfl fl_RX1_9 dX1_addParcel_43 ?_
    refine lv_iconst (v := 1) hx hb dX1_addParcel_46 (by decide) ?_
    refine lv_iadd hx hb dX1_addParcel_47 ?_
    refine fx_putI X h (k := o) (j := 0) (sc_Cast o ho) rfl fl_RX1_9 dX1_addParcel_48 (fun H locs h => ?_)
    obtain ⟨M8, eM8⟩ : ∃ z : Mm, z = m_up M6 o 0 ((M6 o 0) + (1 : Int32)) := ⟨_, rfl⟩
    have hT := hT M8 eM8
    rw [← eM8] at h
    refine lv_aload_n hx hb dX1_addParcel_51 rfl (lv_at hl 0 rfl) ?_
    refine fx_getI X h (k := o) (j := 0) (sc_Cast o ho) rfl fl_RX1_9 dX1_addParcel_52 ?_
    refine lv_iconst (v := 1) hx hb dX1_addParcel_55 (by decide) ?_
    refine lv_isub hx hb dX1_addParcel_56 ?_
    exact fx_iret X hr hk h hT dX1_addParcel_57
  · have hT := hT.2 hc1
    refine lv_iconst (v := -1) hx hb dX1_addParcel_9 (by decide) ?_
    exact fx_iret X hr hk h hT dX1_addParcel_10
/-! MockParcels$Cast.addBidder(II)I -/
theorem dX1_addBidder_0 : decode cX1_addBidder 0 = .ok (.aload_n 0, 1) := by decide +kernel
theorem dX1_addBidder_1 : decode cX1_addBidder 1 = .ok (.getfield 15, 3) := by decide +kernel
theorem dX1_addBidder_4 : decode cX1_addBidder 4 = .ok (.bipush 8, 2) := by decide +kernel
theorem dX1_addBidder_6 : decode cX1_addBidder 6 = .ok (.if_icmp .lt 5, 3) := by decide +kernel
theorem dX1_addBidder_9 : decode cX1_addBidder 9 = .ok (.iconst (-1), 1) := by decide +kernel
theorem dX1_addBidder_10 : decode cX1_addBidder 10 = .ok (.ireturn, 1) := by decide +kernel
theorem dX1_addBidder_11 : decode cX1_addBidder 11 = .ok (.aload_n 0, 1) := by decide +kernel
theorem dX1_addBidder_12 : decode cX1_addBidder 12 = .ok (.getfield 28, 3) := by decide +kernel
theorem dX1_addBidder_15 : decode cX1_addBidder 15 = .ok (.aload_n 0, 1) := by decide +kernel
theorem dX1_addBidder_16 : decode cX1_addBidder 16 = .ok (.getfield 15, 3) := by decide +kernel
theorem dX1_addBidder_19 : decode cX1_addBidder 19 = .ok (.iload_n 1, 1) := by decide +kernel
theorem dX1_addBidder_20 : decode cX1_addBidder 20 = .ok (.iastore, 1) := by decide +kernel
theorem dX1_addBidder_21 : decode cX1_addBidder 21 = .ok (.aload_n 0, 1) := by decide +kernel
theorem dX1_addBidder_22 : decode cX1_addBidder 22 = .ok (.getfield 31, 3) := by decide +kernel
theorem dX1_addBidder_25 : decode cX1_addBidder 25 = .ok (.aload_n 0, 1) := by decide +kernel
theorem dX1_addBidder_26 : decode cX1_addBidder 26 = .ok (.getfield 15, 3) := by decide +kernel
theorem dX1_addBidder_29 : decode cX1_addBidder 29 = .ok (.iload_n 2, 1) := by decide +kernel
theorem dX1_addBidder_30 : decode cX1_addBidder 30 = .ok (.iastore, 1) := by decide +kernel
theorem dX1_addBidder_31 : decode cX1_addBidder 31 = .ok (.aload_n 0, 1) := by decide +kernel
theorem dX1_addBidder_32 : decode cX1_addBidder 32 = .ok (.dup, 1) := by decide +kernel
theorem dX1_addBidder_33 : decode cX1_addBidder 33 = .ok (.getfield 15, 3) := by decide +kernel
theorem dX1_addBidder_36 : decode cX1_addBidder 36 = .ok (.iconst 1, 1) := by decide +kernel
theorem dX1_addBidder_37 : decode cX1_addBidder 37 = .ok (.iadd, 1) := by decide +kernel
theorem dX1_addBidder_38 : decode cX1_addBidder 38 = .ok (.putfield 15, 3) := by decide +kernel
theorem dX1_addBidder_41 : decode cX1_addBidder 41 = .ok (.aload_n 0, 1) := by decide +kernel
theorem dX1_addBidder_42 : decode cX1_addBidder 42 = .ok (.getfield 15, 3) := by decide +kernel
theorem dX1_addBidder_45 : decode cX1_addBidder 45 = .ok (.iconst 1, 1) := by decide +kernel
theorem dX1_addBidder_46 : decode cX1_addBidder 46 = .ok (.isub, 1) := by decide +kernel
theorem dX1_addBidder_47 : decode cX1_addBidder 47 = .ok (.ireturn, 1) := by decide +kernel
def T_X1_addBidder (o : Nat) (x1 : Int32) (x2 : Int32) (M : Mm) (K : Int32 → Mm → Prop) : Prop := (((M o 1) < (8 : Int32) → (vp_in (M o 1) 8 ∧ (∀ M2 : Mm, M2 = m_up M (rf o 5) ((M o 1)).toNatClampNeg x1 → (vp_in (M2 o 1) 8 ∧ (∀ M4 : Mm, M4 = m_up M2 (rf o 6) ((M2 o 1)).toNatClampNeg x2 → (∀ M6 : Mm, M6 = m_up M4 o 1 ((M4 o 1) + (1 : Int32)) → (K ((M6 o 1) - (1 : Int32)) M6))))))) ∧ (¬ (M o 1) < (8 : Int32) → (K (-1 : Int32) M)))
set_option maxHeartbeats 4000000 in
set_option maxRecDepth 100000 in
theorem c_X1_addBidder (l : Launch) (G : fx_G) {o : Nat} (ho : o ∈ id_Cast) {x1 : Int32} {x2 : Int32} {M : Mm} {K : Int32 → Mm → Prop} (hT : T_X1_addBidder o x1 x2 M K) : Met l yX1_addBidder (fx_ws yX1_addBidder cX1_addBidder 3 (some .int)) (fx_rm (0)) (va_Pc [.ref (G.2.2.2 + o), .int x1, .int x2] (fx_P G SH M)) (va_Qi K (fx_R G SH) (fx_A G)) 0 0 (fx_A G) := by
  refine fx_met (own := RX1) (by decide +kernel) rfl (Nat.le_of_ble_eq_true rfl) (fun p e s m below meth c X hr hk h ls hl => ?_)
  obtain ⟨⟨hx, hb, hml, hown, hts⟩, hK, hQ⟩ := id X
  have hl : lv_has ls 3 [(0, .ref (G.2.2.2 + o)), (1, .int x1), (2, .int x2)] := hl
  unfold T_X1_addBidder at hT
  refine lv_aload_n hx hb dX1_addBidder_0 rfl (lv_at hl 0 rfl) ?_
  refine fx_getI X h (k := o) (j := 1) (sc_Cast o ho) rfl fl_RX1_15 dX1_addBidder_1 ?_
  refine lv_bipush (v := 8) hx hb dX1_addBidder_4 (by decide) ?_
  refine lv_icmp_lt (tgt := 11) hx hb dX1_addBidder_6 (by decide) (fun hc1 => ?_) (fun hc1 => ?_)
  · have hT := hT.1 hc1
    refine lv_aload_n hx hb dX1_addBidder_11 rfl (lv_at hl 0 rfl) ?_
    refine fx_getR X h (k := o) (j := 5) (r := (rf o 5)) (sc_Cast o ho) rfl fl_RX1_28 dX1_addBidder_12 ?_
    refine lv_aload_n hx hb dX1_addBidder_15 rfl (lv_at hl 0 rfl) ?_
    refine fx_getI X h (k := o) (j := 1) (sc_Cast o ho) rfl fl_RX1_15 dX1_addBidder_16 ?_
    refine lv_iload_n hx hb dX1_addBidder_19 rfl (lv_at hl 1 rfl) ?_
    obtain ⟨hi3, hT⟩ := hT
    refine fx_iast X h (k := (rf o 5)) (sa_Cast_5 o ho) hi3 dX1_addBidder_20 (fun H locs h => ?_)
    obtain ⟨M2, eM2⟩ : ∃ z : Mm, z = m_up M (rf o 5) ((M o 1)).toNatClampNeg x1 := ⟨_, rfl⟩
    have hT := hT M2 eM2
    rw [← eM2] at h
    refine lv_aload_n hx hb dX1_addBidder_21 rfl (lv_at hl 0 rfl) ?_
    refine fx_getR X h (k := o) (j := 6) (r := (rf o 6)) (sc_Cast o ho) rfl fl_RX1_31 dX1_addBidder_22 ?_
    refine lv_aload_n hx hb dX1_addBidder_25 rfl (lv_at hl 0 rfl) ?_
    refine fx_getI X h (k := o) (j := 1) (sc_Cast o ho) rfl fl_RX1_15 dX1_addBidder_26 ?_
    refine lv_iload_n hx hb dX1_addBidder_29 rfl (lv_at hl 2 rfl) ?_
    obtain ⟨hi5, hT⟩ := hT
    refine fx_iast X h (k := (rf o 6)) (sa_Cast_6 o ho) hi5 dX1_addBidder_30 (fun H locs h => ?_)
    obtain ⟨M4, eM4⟩ : ∃ z : Mm, z = m_up M2 (rf o 6) ((M2 o 1)).toNatClampNeg x2 := ⟨_, rfl⟩
    have hT := hT M4 eM4
    rw [← eM4] at h
    refine lv_aload_n hx hb dX1_addBidder_31 rfl (lv_at hl 0 rfl) ?_
    refine lv_dup hx hb dX1_addBidder_32 rfl ?_
    refine fx_getI X h (k := o) (j := 1) (sc_Cast o ho) rfl fl_RX1_15 dX1_addBidder_33 ?_
    refine lv_iconst (v := 1) hx hb dX1_addBidder_36 (by decide) ?_
    refine lv_iadd hx hb dX1_addBidder_37 ?_
    refine fx_putI X h (k := o) (j := 1) (sc_Cast o ho) rfl fl_RX1_15 dX1_addBidder_38 (fun H locs h => ?_)
    obtain ⟨M6, eM6⟩ : ∃ z : Mm, z = m_up M4 o 1 ((M4 o 1) + (1 : Int32)) := ⟨_, rfl⟩
    have hT := hT M6 eM6
    rw [← eM6] at h
    refine lv_aload_n hx hb dX1_addBidder_41 rfl (lv_at hl 0 rfl) ?_
    refine fx_getI X h (k := o) (j := 1) (sc_Cast o ho) rfl fl_RX1_15 dX1_addBidder_42 ?_
    refine lv_iconst (v := 1) hx hb dX1_addBidder_45 (by decide) ?_
    refine lv_isub hx hb dX1_addBidder_46 ?_
    exact fx_iret X hr hk h hT dX1_addBidder_47
  · have hT := hT.2 hc1
    refine lv_iconst (v := -1) hx hb dX1_addBidder_9 (by decide) ?_
    exact fx_iret X hr hk h hT dX1_addBidder_10
/-! MockParcels$Cast.copyFrom(LMockParcels$Cast;)V -/
theorem dX1_copyFrom_0 : decode cX1_copyFrom 0 = .ok (.aload_n 0, 1) := by decide +kernel
theorem dX1_copyFrom_1 : decode cX1_copyFrom 1 = .ok (.aload_n 1, 1) := by decide +kernel
theorem dX1_copyFrom_2 : decode cX1_copyFrom 2 = .ok (.getfield 9, 3) := by decide +kernel
theorem dX1_copyFrom_5 : decode cX1_copyFrom 5 = .ok (.putfield 9, 3) := by decide +kernel
theorem dX1_copyFrom_8 : decode cX1_copyFrom 8 = .ok (.aload_n 0, 1) := by decide +kernel
theorem dX1_copyFrom_9 : decode cX1_copyFrom 9 = .ok (.aload_n 1, 1) := by decide +kernel
theorem dX1_copyFrom_10 : decode cX1_copyFrom 10 = .ok (.getfield 15, 3) := by decide +kernel
theorem dX1_copyFrom_13 : decode cX1_copyFrom 13 = .ok (.putfield 15, 3) := by decide +kernel
theorem dX1_copyFrom_16 : decode cX1_copyFrom 16 = .ok (.aload_n 1, 1) := by decide +kernel
theorem dX1_copyFrom_17 : decode cX1_copyFrom 17 = .ok (.getfield 18, 3) := by decide +kernel
theorem dX1_copyFrom_20 : decode cX1_copyFrom 20 = .ok (.aload_n 0, 1) := by decide +kernel
theorem dX1_copyFrom_21 : decode cX1_copyFrom 21 = .ok (.getfield 18, 3) := by decide +kernel
theorem dX1_copyFrom_24 : decode cX1_copyFrom 24 = .ok (.invokestatic 34, 3) := by decide +kernel
theorem dX1_copyFrom_27 : decode cX1_copyFrom 27 = .ok (.aload_n 1, 1) := by decide +kernel
theorem dX1_copyFrom_28 : decode cX1_copyFrom 28 = .ok (.getfield 22, 3) := by decide +kernel
theorem dX1_copyFrom_31 : decode cX1_copyFrom 31 = .ok (.aload_n 0, 1) := by decide +kernel
theorem dX1_copyFrom_32 : decode cX1_copyFrom 32 = .ok (.getfield 22, 3) := by decide +kernel
theorem dX1_copyFrom_35 : decode cX1_copyFrom 35 = .ok (.invokestatic 34, 3) := by decide +kernel
theorem dX1_copyFrom_38 : decode cX1_copyFrom 38 = .ok (.aload_n 1, 1) := by decide +kernel
theorem dX1_copyFrom_39 : decode cX1_copyFrom 39 = .ok (.getfield 25, 3) := by decide +kernel
theorem dX1_copyFrom_42 : decode cX1_copyFrom 42 = .ok (.aload_n 0, 1) := by decide +kernel
theorem dX1_copyFrom_43 : decode cX1_copyFrom 43 = .ok (.getfield 25, 3) := by decide +kernel
theorem dX1_copyFrom_46 : decode cX1_copyFrom 46 = .ok (.invokestatic 34, 3) := by decide +kernel
theorem dX1_copyFrom_49 : decode cX1_copyFrom 49 = .ok (.aload_n 1, 1) := by decide +kernel
theorem dX1_copyFrom_50 : decode cX1_copyFrom 50 = .ok (.getfield 28, 3) := by decide +kernel
theorem dX1_copyFrom_53 : decode cX1_copyFrom 53 = .ok (.aload_n 0, 1) := by decide +kernel
theorem dX1_copyFrom_54 : decode cX1_copyFrom 54 = .ok (.getfield 28, 3) := by decide +kernel
theorem dX1_copyFrom_57 : decode cX1_copyFrom 57 = .ok (.invokestatic 34, 3) := by decide +kernel
theorem dX1_copyFrom_60 : decode cX1_copyFrom 60 = .ok (.aload_n 1, 1) := by decide +kernel
theorem dX1_copyFrom_61 : decode cX1_copyFrom 61 = .ok (.getfield 31, 3) := by decide +kernel
theorem dX1_copyFrom_64 : decode cX1_copyFrom 64 = .ok (.aload_n 0, 1) := by decide +kernel
theorem dX1_copyFrom_65 : decode cX1_copyFrom 65 = .ok (.getfield 31, 3) := by decide +kernel
theorem dX1_copyFrom_68 : decode cX1_copyFrom 68 = .ok (.invokestatic 34, 3) := by decide +kernel
theorem dX1_copyFrom_71 : decode cX1_copyFrom 71 = .ok (.return_, 1) := by decide +kernel
def T_X1_copyFrom (o : Nat) (o1 : Nat) (M : Mm) (K : Mm → Prop) : Prop := (∀ M1 : Mm, M1 = m_up M o 0 (M o1 0) → (∀ M2 : Mm, M2 = m_up M1 o 1 (M1 o1 1) → (T_X11_copyRow (rf o1 2) (rf o 2) M2 (fun M4 => (T_X11_copyRow (rf o1 3) (rf o 3) M4 (fun M6 => (T_X11_copyRow (rf o1 4) (rf o 4) M6 (fun M8 => (T_X11_copyRow (rf o1 5) (rf o 5) M8 (fun M10 => (T_X11_copyRow (rf o1 6) (rf o 6) M10 (fun M12 => (K M12)))))))))))))
set_option maxHeartbeats 4000000 in
set_option maxRecDepth 100000 in
theorem c_X1_copyFrom (l : Launch) (G : fx_G) {o : Nat} {o1 : Nat} (ho : o ∈ id_Cast) (ho1 : o1 ∈ id_Cast) {M : Mm} {K : Mm → Prop} (hT : T_X1_copyFrom o o1 M K) : Met l yX1_copyFrom (fx_ws yX1_copyFrom cX1_copyFrom 2 none) (fx_rm (1)) (va_Pc [.ref (G.2.2.2 + o), .ref (G.2.2.2 + o1)] (fx_P G SH M)) (va_Qv K (fx_R G SH) (fx_A G)) 0 0 (fx_A G) := by
  refine fx_met (own := RX1) (by decide +kernel) rfl (Nat.le_of_ble_eq_true rfl) (fun p e s m below meth c X hr hk h ls hl => ?_)
  obtain ⟨⟨hx, hb, hml, hown, hts⟩, hK, hQ⟩ := id X
  have hl : lv_has ls 2 [(0, .ref (G.2.2.2 + o)), (1, .ref (G.2.2.2 + o1))] := hl
  unfold T_X1_copyFrom at hT
  refine lv_aload_n hx hb dX1_copyFrom_0 rfl (lv_at hl 0 rfl) ?_
  refine lv_aload_n hx hb dX1_copyFrom_1 rfl (lv_at hl 1 rfl) ?_
  refine fx_getI X h (k := o1) (j := 0) (sc_Cast o1 ho1) rfl fl_RX1_9 dX1_copyFrom_2 ?_
  refine fx_putI X h (k := o) (j := 0) (sc_Cast o ho) rfl fl_RX1_9 dX1_copyFrom_5 (fun H locs h => ?_)
  obtain ⟨M1, eM1⟩ : ∃ z : Mm, z = m_up M o 0 (M o1 0) := ⟨_, rfl⟩
  have hT := hT M1 eM1
  rw [← eM1] at h
  refine lv_aload_n hx hb dX1_copyFrom_8 rfl (lv_at hl 0 rfl) ?_
  refine lv_aload_n hx hb dX1_copyFrom_9 rfl (lv_at hl 1 rfl) ?_
  refine fx_getI X h (k := o1) (j := 1) (sc_Cast o1 ho1) rfl fl_RX1_15 dX1_copyFrom_10 ?_
  refine fx_putI X h (k := o) (j := 1) (sc_Cast o ho) rfl fl_RX1_15 dX1_copyFrom_13 (fun H locs h => ?_)
  obtain ⟨M2, eM2⟩ : ∃ z : Mm, z = m_up M1 o 1 (M1 o1 1) := ⟨_, rfl⟩
  have hT := hT M2 eM2
  rw [← eM2] at h
  refine lv_aload_n hx hb dX1_copyFrom_16 rfl (lv_at hl 1 rfl) ?_
  refine fx_getR X h (k := o1) (j := 2) (r := (rf o1 2)) (sc_Cast o1 ho1) rfl fl_RX1_18 dX1_copyFrom_17 ?_
  refine lv_aload_n hx hb dX1_copyFrom_20 rfl (lv_at hl 0 rfl) ?_
  refine fx_getR X h (k := o) (j := 2) (r := (rf o 2)) (sc_Cast o ho) rfl fl_RX1_18 dX1_copyFrom_21 ?_
  refine fx_nv X h ym_X11_copyRow yt_X11_copyRow (nq_RX1_34) (c_X11_copyRow l G (ln_of (sa_Cast_2 o1 ho1)) (ln_of (sa_Cast_2 o ho)) hT) (As := [.ref (G.2.2.2 + (rf o1 2)), .ref (G.2.2.2 + (rf o 2))]) (rest := []) rfl rfl ⟨Nat.le_of_ble_eq_true rfl, Nat.le_of_ble_eq_true rfl⟩ ⟨Nat.le_refl _, Nat.le_refl _⟩ hl.1 (Nat.le_of_ble_eq_true rfl) dX1_copyFrom_24 (fun M4 H locs hT h => ?_)
  refine lv_aload_n hx hb dX1_copyFrom_27 rfl (lv_at hl 1 rfl) ?_
  refine fx_getR X h (k := o1) (j := 3) (r := (rf o1 3)) (sc_Cast o1 ho1) rfl fl_RX1_22 dX1_copyFrom_28 ?_
  refine lv_aload_n hx hb dX1_copyFrom_31 rfl (lv_at hl 0 rfl) ?_
  refine fx_getR X h (k := o) (j := 3) (r := (rf o 3)) (sc_Cast o ho) rfl fl_RX1_22 dX1_copyFrom_32 ?_
  refine fx_nv X h ym_X11_copyRow yt_X11_copyRow (nq_RX1_34) (c_X11_copyRow l G (ln_of (sa_Cast_3 o1 ho1)) (ln_of (sa_Cast_3 o ho)) hT) (As := [.ref (G.2.2.2 + (rf o1 3)), .ref (G.2.2.2 + (rf o 3))]) (rest := []) rfl rfl ⟨Nat.le_of_ble_eq_true rfl, Nat.le_of_ble_eq_true rfl⟩ ⟨Nat.le_refl _, Nat.le_refl _⟩ hl.1 (Nat.le_of_ble_eq_true rfl) dX1_copyFrom_35 (fun M6 H locs hT h => ?_)
  refine lv_aload_n hx hb dX1_copyFrom_38 rfl (lv_at hl 1 rfl) ?_
  refine fx_getR X h (k := o1) (j := 4) (r := (rf o1 4)) (sc_Cast o1 ho1) rfl fl_RX1_25 dX1_copyFrom_39 ?_
  refine lv_aload_n hx hb dX1_copyFrom_42 rfl (lv_at hl 0 rfl) ?_
  refine fx_getR X h (k := o) (j := 4) (r := (rf o 4)) (sc_Cast o ho) rfl fl_RX1_25 dX1_copyFrom_43 ?_
  refine fx_nv X h ym_X11_copyRow yt_X11_copyRow (nq_RX1_34) (c_X11_copyRow l G (ln_of (sa_Cast_4 o1 ho1)) (ln_of (sa_Cast_4 o ho)) hT) (As := [.ref (G.2.2.2 + (rf o1 4)), .ref (G.2.2.2 + (rf o 4))]) (rest := []) rfl rfl ⟨Nat.le_of_ble_eq_true rfl, Nat.le_of_ble_eq_true rfl⟩ ⟨Nat.le_refl _, Nat.le_refl _⟩ hl.1 (Nat.le_of_ble_eq_true rfl) dX1_copyFrom_46 (fun M8 H locs hT h => ?_)
  refine lv_aload_n hx hb dX1_copyFrom_49 rfl (lv_at hl 1 rfl) ?_
  refine fx_getR X h (k := o1) (j := 5) (r := (rf o1 5)) (sc_Cast o1 ho1) rfl fl_RX1_28 dX1_copyFrom_50 ?_
  refine lv_aload_n hx hb dX1_copyFrom_53 rfl (lv_at hl 0 rfl) ?_
  refine fx_getR X h (k := o) (j := 5) (r := (rf o 5)) (sc_Cast o ho) rfl fl_RX1_28 dX1_copyFrom_54 ?_
  refine fx_nv X h ym_X11_copyRow yt_X11_copyRow (nq_RX1_34) (c_X11_copyRow l G (ln_of (sa_Cast_5 o1 ho1)) (ln_of (sa_Cast_5 o ho)) hT) (As := [.ref (G.2.2.2 + (rf o1 5)), .ref (G.2.2.2 + (rf o 5))]) (rest := []) rfl rfl ⟨Nat.le_of_ble_eq_true rfl, Nat.le_of_ble_eq_true rfl⟩ ⟨Nat.le_refl _, Nat.le_refl _⟩ hl.1 (Nat.le_of_ble_eq_true rfl) dX1_copyFrom_57 (fun M10 H locs hT h => ?_)
  refine lv_aload_n hx hb dX1_copyFrom_60 rfl (lv_at hl 1 rfl) ?_
  refine fx_getR X h (k := o1) (j := 6) (r := (rf o1 6)) (sc_Cast o1 ho1) rfl fl_RX1_31 dX1_copyFrom_61 ?_
  refine lv_aload_n hx hb dX1_copyFrom_64 rfl (lv_at hl 0 rfl) ?_
  refine fx_getR X h (k := o) (j := 6) (r := (rf o 6)) (sc_Cast o ho) rfl fl_RX1_31 dX1_copyFrom_65 ?_
  refine fx_nv X h ym_X11_copyRow yt_X11_copyRow (nq_RX1_34) (c_X11_copyRow l G (ln_of (sa_Cast_6 o1 ho1)) (ln_of (sa_Cast_6 o ho)) hT) (As := [.ref (G.2.2.2 + (rf o1 6)), .ref (G.2.2.2 + (rf o 6))]) (rest := []) rfl rfl ⟨Nat.le_of_ble_eq_true rfl, Nat.le_of_ble_eq_true rfl⟩ ⟨Nat.le_refl _, Nat.le_refl _⟩ hl.1 (Nat.le_of_ble_eq_true rfl) dX1_copyFrom_68 (fun M12 H locs hT h => ?_)
  exact fx_vret X hr hk h hT dX1_copyFrom_71
/-! MockParcels$Quay.draw(I)I -/
theorem dX6_draw_0 : decode cX6_draw 0 = .ok (.aload_n 0, 1) := by decide +kernel
theorem dX6_draw_1 : decode cX6_draw 1 = .ok (.ldc 56, 2) := by decide +kernel
theorem dX6_draw_3 : decode cX6_draw 3 = .ok (.aload_n 0, 1) := by decide +kernel
theorem dX6_draw_4 : decode cX6_draw 4 = .ok (.getfield 30, 3) := by decide +kernel
theorem dX6_draw_7 : decode cX6_draw 7 = .ok (.imul, 1) := by decide +kernel
theorem dX6_draw_8 : decode cX6_draw 8 = .ok (.ldc 57, 2) := by decide +kernel
theorem dX6_draw_10 : decode cX6_draw 10 = .ok (.iadd, 1) := by decide +kernel
theorem dX6_draw_11 : decode cX6_draw 11 = .ok (.putfield 30, 3) := by decide +kernel
theorem dX6_draw_14 : decode cX6_draw 14 = .ok (.iload_n 1, 1) := by decide +kernel
theorem dX6_draw_15 : decode cX6_draw 15 = .ok (.ifCond .le 15, 3) := by decide +kernel
theorem dX6_draw_18 : decode cX6_draw 18 = .ok (.aload_n 0, 1) := by decide +kernel
theorem dX6_draw_19 : decode cX6_draw 19 = .ok (.getfield 30, 3) := by decide +kernel
theorem dX6_draw_22 : decode cX6_draw 22 = .ok (.bipush 8, 2) := by decide +kernel
theorem dX6_draw_24 : decode cX6_draw 24 = .ok (.iushr, 1) := by decide +kernel
theorem dX6_draw_25 : decode cX6_draw 25 = .ok (.iload_n 1, 1) := by decide +kernel
theorem dX6_draw_26 : decode cX6_draw 26 = .ok (.irem, 1) := by decide +kernel
theorem dX6_draw_27 : decode cX6_draw 27 = .ok (.goto 4, 3) := by decide +kernel
theorem dX6_draw_30 : decode cX6_draw 30 = .ok (.iconst 0, 1) := by decide +kernel
theorem dX6_draw_31 : decode cX6_draw 31 = .ok (.ireturn, 1) := by decide +kernel
def T_X6_draw (o : Nat) (x1 : Int32) (M : Mm) (K : Int32 → Mm → Prop) : Prop := (∀ M1 : Mm, M1 = m_up M o 6 (((1664525 : Int32) * (M o 6)) + (1013904223 : Int32)) → ((x1 ≤ 0 → (K (0 : Int32) M1)) ∧ (¬ x1 ≤ 0 → (¬ x1 = 0 ∧ (K (((((M1 o 6)).toUInt32 >>> (((8 : Int32)).toUInt32 &&& Int32.toUInt32 31)).toInt32) - ((((M1 o 6)).toUInt32 >>> (((8 : Int32)).toUInt32 &&& Int32.toUInt32 31)).toInt32) / x1 * x1) M1)))))
set_option maxHeartbeats 4000000 in
set_option maxRecDepth 100000 in
theorem c_X6_draw (l : Launch) (G : fx_G) {o : Nat} (ho : o ∈ id_Quay) {x1 : Int32} {M : Mm} {K : Int32 → Mm → Prop} (hT : T_X6_draw o x1 M K) : Met l yX6_draw (fx_ws yX6_draw cX6_draw 2 (some .int)) (fx_rm (0)) (va_Pc [.ref (G.2.2.2 + o), .int x1] (fx_P G SH M)) (va_Qi K (fx_R G SH) (fx_A G)) 0 0 (fx_A G) := by
  refine fx_met (own := RX6) (by decide +kernel) rfl (Nat.le_of_ble_eq_true rfl) (fun p e s m below meth c X hr hk h ls hl => ?_)
  obtain ⟨⟨hx, hb, hml, hown, hts⟩, hK, hQ⟩ := id X
  have hl : lv_has ls 2 [(0, .ref (G.2.2.2 + o)), (1, .int x1)] := hl
  unfold T_X6_draw at hT
  refine lv_aload_n hx hb dX6_draw_0 rfl (lv_at hl 0 rfl) ?_
  refine lv_ldc (v := 1664525) hx hb hown (hts _ (fx_s3 (List.mem_of_getElem? (i := 175) rfl) rfl)) dX6_draw_1 ?_
  refine lv_aload_n hx hb dX6_draw_3 rfl (lv_at hl 0 rfl) ?_
  refine fx_getI X h (k := o) (j := 6) (sc_Quay o ho) rfl fl_RX6_30 dX6_draw_4 ?_
  refine lv_imul hx hb dX6_draw_7 ?_
  refine lv_ldc (v := 1013904223) hx hb hown (hts _ (fx_s3 (List.mem_of_getElem? (i := 176) rfl) rfl)) dX6_draw_8 ?_
  refine lv_iadd hx hb dX6_draw_10 ?_
  refine fx_putI X h (k := o) (j := 6) (sc_Quay o ho) rfl fl_RX6_30 dX6_draw_11 (fun H locs h => ?_)
  obtain ⟨M1, eM1⟩ : ∃ z : Mm, z = m_up M o 6 (((1664525 : Int32) * (M o 6)) + (1013904223 : Int32)) := ⟨_, rfl⟩
  have hT := hT M1 eM1
  rw [← eM1] at h
  refine lv_iload_n hx hb dX6_draw_14 rfl (lv_at hl 1 rfl) ?_
  refine lv_if_le (tgt := 30) hx hb dX6_draw_15 (by decide) (fun hc2 => ?_) (fun hc2 => ?_)
  · have hT := hT.1 hc2
    refine lv_iconst (v := 0) hx hb dX6_draw_30 (by decide) ?_
    exact fx_iret X hr hk h hT dX6_draw_31
  · have hT := hT.2 hc2
    refine lv_aload_n hx hb dX6_draw_18 rfl (lv_at hl 0 rfl) ?_
    refine fx_getI X h (k := o) (j := 6) (sc_Quay o ho) rfl fl_RX6_30 dX6_draw_19 ?_
    refine lv_bipush (v := 8) hx hb dX6_draw_22 (by decide) ?_
    refine lv_iushr hx hb dX6_draw_24 rfl ?_
    refine lv_iload_n hx hb dX6_draw_25 rfl (lv_at hl 1 rfl) ?_
    obtain ⟨hz3, hT⟩ := hT
    refine lv_irem hx hb dX6_draw_26 hz3 ?_
    refine lv_goto (tgt := 31) hx hb dX6_draw_27 (by decide) ?_
    exact fx_iret X hr hk h hT dX6_draw_31
/-! MockParcels$Quay.things(I)I -/
theorem dX6_things_0 : decode cX6_things 0 = .ok (.iconst 0, 1) := by decide +kernel
theorem dX6_things_1 : decode cX6_things 1 = .ok (.istore_n 2, 1) := by decide +kernel
theorem dX6_things_2 : decode cX6_things 2 = .ok (.iconst 1, 1) := by decide +kernel
theorem dX6_things_3 : decode cX6_things 3 = .ok (.istore_n 3, 1) := by decide +kernel
theorem dX6_things_4 : decode cX6_things 4 = .ok (.iload_n 3, 1) := by decide +kernel
theorem dX6_things_5 : decode cX6_things 5 = .ok (.bipush 7, 2) := by decide +kernel
theorem dX6_things_7 : decode cX6_things 7 = .ok (.if_icmp .gt 23, 3) := by decide +kernel
theorem dX6_things_10 : decode cX6_things 10 = .ok (.iload_n 2, 1) := by decide +kernel
theorem dX6_things_11 : decode cX6_things 11 = .ok (.aload_n 0, 1) := by decide +kernel
theorem dX6_things_12 : decode cX6_things 12 = .ok (.getfield 27, 3) := by decide +kernel
theorem dX6_things_15 : decode cX6_things 15 = .ok (.iload_n 1, 1) := by decide +kernel
theorem dX6_things_16 : decode cX6_things 16 = .ok (.bipush 8, 2) := by decide +kernel
theorem dX6_things_18 : decode cX6_things 18 = .ok (.imul, 1) := by decide +kernel
theorem dX6_things_19 : decode cX6_things 19 = .ok (.iload_n 3, 1) := by decide +kernel
theorem dX6_things_20 : decode cX6_things 20 = .ok (.iadd, 1) := by decide +kernel
theorem dX6_things_21 : decode cX6_things 21 = .ok (.iaload, 1) := by decide +kernel
theorem dX6_things_22 : decode cX6_things 22 = .ok (.iadd, 1) := by decide +kernel
theorem dX6_things_23 : decode cX6_things 23 = .ok (.istore_n 2, 1) := by decide +kernel
theorem dX6_things_24 : decode cX6_things 24 = .ok (.iinc 3 1, 3) := by decide +kernel
theorem dX6_things_27 : decode cX6_things 27 = .ok (.goto (-23), 3) := by decide +kernel
theorem dX6_things_30 : decode cX6_things 30 = .ok (.iload_n 2, 1) := by decide +kernel
theorem dX6_things_31 : decode cX6_things 31 = .ok (.ireturn, 1) := by decide +kernel
def T_X6_things_4 (o : Nat) : Nat → Int32 → Int32 → Int32 → Mm → (Int32 → Mm → Prop) → Prop
  | 0, _, _, _, _, _ => False
  | n + 1, x1, x2, x3, M, K => (((7 : Int32) < x3 → (K x2 M)) ∧ (¬ (7 : Int32) < x3 → (vp_in ((x1 * (8 : Int32)) + x3) 64 ∧ (∀ y3 : Int32, y3 = (x2 + (M (rf o 5) (((x1 * (8 : Int32)) + x3)).toNatClampNeg)) → (∀ y4 : Int32, y4 = x3 + (1 : Int32) → (T_X6_things_4 o n x1 y3 y4 M K))))))
set_option maxHeartbeats 4000000 in
set_option maxRecDepth 100000 in
theorem w_X6_things_4 {p : Program} {l : Launch} {e : Env} {s : State} {m : MethodId} {args : Array Value} {below : List Frame} {meth : Method} {c : Code} {G : fx_G} {K : Int32 → Mm → Prop} {o : Nat} (ho : o ∈ id_Quay) (X : fx_C G p s m c args cX6_things 4 RX6) (hr : meth.sig.returnType = (some .int)) (hk : meth.locks = false) : ∀ (n : Nat) (x1 : Int32) (x2 : Int32) (x3 : Int32) (M : Mm) (H : Heap) (locs : List Loc) (ls : Array Slot), T_X6_things_4 o n x1 x2 x3 M K → fx_H G SH M s H locs → lv_has ls 4 [(0, .ref (G.2.2.2 + o)), (1, .int x1), (2, .int x2), (3, .int x3)] → W p l e (fx_rm (0)) s m args below meth c H locs 0 0 (MQ below (va_Qi K (fx_R G SH) (fx_A G)) args s 0 0 (fx_A G)) (F0 m 4 ls []) := by
  obtain ⟨⟨hx, hb, hml, hown, hts⟩, hK, hQ⟩ := id X
  intro n
  induction n with
  | zero =>
    intro x1 x2 x3 M H locs ls hT
    exact hT.elim
  | succ n ih =>
    intro x1 x2 x3 M H locs ls hT h hl
    rw [T_X6_things_4] at hT
    refine lv_iload_n hx hb dX6_things_4 rfl (lv_at hl 3 rfl) ?_
    refine lv_bipush (v := 7) hx hb dX6_things_5 (by decide) ?_
    refine lv_icmp_gt (tgt := 30) hx hb dX6_things_7 (by decide) (fun hc1 => ?_) (fun hc1 => ?_)
    · have hT := hT.1 hc1
      refine lv_iload_n hx hb dX6_things_30 rfl (lv_at hl 2 rfl) ?_
      exact fx_iret X hr hk h hT dX6_things_31
    · have hT := hT.2 hc1
      refine lv_iload_n hx hb dX6_things_10 rfl (lv_at hl 2 rfl) ?_
      refine lv_aload_n hx hb dX6_things_11 rfl (lv_at hl 0 rfl) ?_
      refine fx_getR X h (k := o) (j := 5) (r := (rf o 5)) (sc_Quay o ho) rfl fl_RX6_27 dX6_things_12 ?_
      refine lv_iload_n hx hb dX6_things_15 rfl (lv_at hl 1 rfl) ?_
      refine lv_bipush (v := 8) hx hb dX6_things_16 (by decide) ?_
      refine lv_imul hx hb dX6_things_18 ?_
      refine lv_iload_n hx hb dX6_things_19 rfl (lv_at hl 3 rfl) ?_
      refine lv_iadd hx hb dX6_things_20 ?_
      obtain ⟨hi2, hT⟩ := hT
      refine fx_iald X h (k := (rf o 5)) (sa_Quay_5 o ho) hi2 dX6_things_21 ?_
      refine lv_iadd hx hb dX6_things_22 ?_
      refine lv_topi (fun y3 ey3 => ?_)
      have hT := hT y3 ey3
      refine lv_istore_n (lv' := [(2, .int y3), (0, .ref (G.2.2.2 + o)), (1, .int x1), (3, .int x3)]) hx hb dX6_things_23 rfl hl (by decide) rfl (fun ls hl => ?_)
      obtain ⟨y4, ey4⟩ : ∃ z : Int32, z = x3 + (1 : Int32) := ⟨_, rfl⟩
      have hT := hT y4 ey4
      refine lv_iinc (v := y4) (lv' := [(3, .int y4), (2, .int y3), (0, .ref (G.2.2.2 + o)), (1, .int x1)]) hx hb dX6_things_24 hl (k := 3) rfl (by rw [ey4]; rfl) (by decide) rfl (fun ls hl => ?_)
      refine lv_goto (tgt := 4) hx hb dX6_things_27 (by decide) ?_
      exact ih x1 y3 y4 M _ _ ls hT h (lv_sub hl [2, 3, 1, 0] rfl)
def T_X6_things (o : Nat) (x1 : Int32) (M : Mm) (K : Int32 → Mm → Prop) : Prop := (T_X6_things_4 o 5000 x1 (0 : Int32) (1 : Int32) M K)
set_option maxHeartbeats 4000000 in
set_option maxRecDepth 100000 in
theorem c_X6_things (l : Launch) (G : fx_G) {o : Nat} (ho : o ∈ id_Quay) {x1 : Int32} {M : Mm} {K : Int32 → Mm → Prop} (hT : T_X6_things o x1 M K) : Met l yX6_things (fx_ws yX6_things cX6_things 4 (some .int)) (fx_rm (0)) (va_Pc [.ref (G.2.2.2 + o), .int x1] (fx_P G SH M)) (va_Qi K (fx_R G SH) (fx_A G)) 0 0 (fx_A G) := by
  refine fx_met (own := RX6) (by decide +kernel) rfl (Nat.le_of_ble_eq_true rfl) (fun p e s m below meth c X hr hk h ls hl => ?_)
  obtain ⟨⟨hx, hb, hml, hown, hts⟩, hK, hQ⟩ := id X
  have hl : lv_has ls 4 [(0, .ref (G.2.2.2 + o)), (1, .int x1)] := hl
  unfold T_X6_things at hT
  refine lv_iconst (v := 0) hx hb dX6_things_0 (by decide) ?_
  refine lv_istore_n (lv' := [(2, .int (0 : Int32)), (0, .ref (G.2.2.2 + o)), (1, .int x1)]) hx hb dX6_things_1 rfl hl (by decide) rfl (fun ls hl => ?_)
  refine lv_iconst (v := 1) hx hb dX6_things_2 (by decide) ?_
  refine lv_istore_n (lv' := [(3, .int (1 : Int32)), (2, .int (0 : Int32)), (0, .ref (G.2.2.2 + o)), (1, .int x1)]) hx hb dX6_things_3 rfl hl (by decide) rfl (fun ls hl => ?_)
  exact w_X6_things_4 ho X hr hk 5000 x1 (0 : Int32) (1 : Int32) M _ _ ls hT h (lv_sub hl [2, 3, 1, 0] rfl)
/-! MockParcels$Quay.unsold(I)I -/
theorem dX6_unsold_0 : decode cX6_unsold 0 = .ok (.iconst 0, 1) := by decide +kernel
theorem dX6_unsold_1 : decode cX6_unsold 1 = .ok (.istore_n 2, 1) := by decide +kernel
theorem dX6_unsold_2 : decode cX6_unsold 2 = .ok (.iconst 0, 1) := by decide +kernel
theorem dX6_unsold_3 : decode cX6_unsold 3 = .ok (.istore_n 3, 1) := by decide +kernel
theorem dX6_unsold_4 : decode cX6_unsold 4 = .ok (.iload_n 3, 1) := by decide +kernel
theorem dX6_unsold_5 : decode cX6_unsold 5 = .ok (.iload_n 1, 1) := by decide +kernel
theorem dX6_unsold_6 : decode cX6_unsold 6 = .ok (.if_icmp .ge 31, 3) := by decide +kernel
theorem dX6_unsold_9 : decode cX6_unsold 9 = .ok (.iload_n 3, 1) := by decide +kernel
theorem dX6_unsold_10 : decode cX6_unsold 10 = .ok (.bipush 16, 2) := by decide +kernel
theorem dX6_unsold_12 : decode cX6_unsold 12 = .ok (.if_icmp .ge 25, 3) := by decide +kernel
theorem dX6_unsold_15 : decode cX6_unsold 15 = .ok (.aload_n 0, 1) := by decide +kernel
theorem dX6_unsold_16 : decode cX6_unsold 16 = .ok (.getfield 9, 3) := by decide +kernel
theorem dX6_unsold_19 : decode cX6_unsold 19 = .ok (.iload_n 3, 1) := by decide +kernel
theorem dX6_unsold_20 : decode cX6_unsold 20 = .ok (.iaload, 1) := by decide +kernel
theorem dX6_unsold_21 : decode cX6_unsold 21 = .ok (.iconst (-1), 1) := by decide +kernel
theorem dX6_unsold_22 : decode cX6_unsold 22 = .ok (.if_icmp .ne 9, 3) := by decide +kernel
theorem dX6_unsold_25 : decode cX6_unsold 25 = .ok (.iload_n 2, 1) := by decide +kernel
theorem dX6_unsold_26 : decode cX6_unsold 26 = .ok (.iconst 1, 1) := by decide +kernel
theorem dX6_unsold_27 : decode cX6_unsold 27 = .ok (.iload_n 3, 1) := by decide +kernel
theorem dX6_unsold_28 : decode cX6_unsold 28 = .ok (.ishl, 1) := by decide +kernel
theorem dX6_unsold_29 : decode cX6_unsold 29 = .ok (.ior, 1) := by decide +kernel
theorem dX6_unsold_30 : decode cX6_unsold 30 = .ok (.istore_n 2, 1) := by decide +kernel
theorem dX6_unsold_31 : decode cX6_unsold 31 = .ok (.iinc 3 1, 3) := by decide +kernel
theorem dX6_unsold_34 : decode cX6_unsold 34 = .ok (.goto (-30), 3) := by decide +kernel
theorem dX6_unsold_37 : decode cX6_unsold 37 = .ok (.iload_n 2, 1) := by decide +kernel
theorem dX6_unsold_38 : decode cX6_unsold 38 = .ok (.ireturn, 1) := by decide +kernel
def T_X6_unsold_31 (B4 : Int32 → Int32 → Int32 → Mm → Prop) (o : Nat) (x1 : Int32) (x2 : Int32) (x3 : Int32) (M : Mm) (K : Int32 → Mm → Prop) : Prop := (∀ y1 : Int32, y1 = x3 + (1 : Int32) → (B4 x1 x2 y1 M))
set_option maxHeartbeats 4000000 in
set_option maxRecDepth 100000 in
theorem w_X6_unsold_31 {p : Program} {l : Launch} {e : Env} {s : State} {m : MethodId} {args : Array Value} {below : List Frame} {meth : Method} {c : Code} {G : fx_G} {K : Int32 → Mm → Prop} {B4 : Int32 → Int32 → Int32 → Mm → Prop} {o : Nat} (ho : o ∈ id_Quay) (X : fx_C G p s m c args cX6_unsold 4 RX6) (hr : meth.sig.returnType = (some .int)) (hk : meth.locks = false) (hB4 : ∀ (x1 : Int32) (x2 : Int32) (x3 : Int32) (M : Mm) (H : Heap) (locs : List Loc) (ls : Array Slot), B4 x1 x2 x3 M → fx_H G SH M s H locs → lv_has ls 4 [(0, .ref (G.2.2.2 + o)), (1, .int x1), (2, .int x2), (3, .int x3)] → W p l e (fx_rm (0)) s m args below meth c H locs 0 0 (MQ below (va_Qi K (fx_R G SH) (fx_A G)) args s 0 0 (fx_A G)) (F0 m 4 ls [])) : ∀ (x1 : Int32) (x2 : Int32) (x3 : Int32) (M : Mm) (H : Heap) (locs : List Loc) (ls : Array Slot), T_X6_unsold_31 B4 o x1 x2 x3 M K → fx_H G SH M s H locs → lv_has ls 4 [(0, .ref (G.2.2.2 + o)), (1, .int x1), (2, .int x2), (3, .int x3)] → W p l e (fx_rm (0)) s m args below meth c H locs 0 0 (MQ below (va_Qi K (fx_R G SH) (fx_A G)) args s 0 0 (fx_A G)) (F0 m 31 ls []) := by
  obtain ⟨⟨hx, hb, hml, hown, hts⟩, hK, hQ⟩ := id X
  intro x1 x2 x3 M H locs ls hT h hl
  unfold T_X6_unsold_31 at hT
  obtain ⟨y1, ey1⟩ : ∃ z : Int32, z = x3 + (1 : Int32) := ⟨_, rfl⟩
  have hT := hT y1 ey1
  refine lv_iinc (v := y1) (lv' := [(3, .int y1), (0, .ref (G.2.2.2 + o)), (1, .int x1), (2, .int x2)]) hx hb dX6_unsold_31 hl (k := 3) rfl (by rw [ey1]; rfl) (by decide) rfl (fun ls hl => ?_)
  refine lv_goto (tgt := 4) hx hb dX6_unsold_34 (by decide) ?_
  exact hB4 x1 x2 y1 M _ _ ls hT h (lv_sub hl [1, 2, 3, 0] rfl)
def T_X6_unsold_4 (o : Nat) : Nat → Int32 → Int32 → Int32 → Mm → (Int32 → Mm → Prop) → Prop
  | 0, _, _, _, _, _ => False
  | n + 1, x1, x2, x3, M, K => ((x1 ≤ x3 → (K x2 M)) ∧ (¬ x1 ≤ x3 → (((16 : Int32) ≤ x3 → (K x2 M)) ∧ (¬ (16 : Int32) ≤ x3 → (vp_in x3 16 ∧ (((M (rf o 0) (x3).toNatClampNeg) = (-1 : Int32) → (∀ y6 : Int32, y6 = (x2 ||| ((1 : Int32) <<< (x3 &&& 31))) → (T_X6_unsold_31 (fun x1 x2 x3 M => T_X6_unsold_4 o n x1 x2 x3 M K) o x1 y6 x3 M K))) ∧ (¬ (M (rf o 0) (x3).toNatClampNeg) = (-1 : Int32) → (T_X6_unsold_31 (fun x1 x2 x3 M => T_X6_unsold_4 o n x1 x2 x3 M K) o x1 x2 x3 M K))))))))
set_option maxHeartbeats 4000000 in
set_option maxRecDepth 100000 in
theorem w_X6_unsold_4 {p : Program} {l : Launch} {e : Env} {s : State} {m : MethodId} {args : Array Value} {below : List Frame} {meth : Method} {c : Code} {G : fx_G} {K : Int32 → Mm → Prop} {o : Nat} (ho : o ∈ id_Quay) (X : fx_C G p s m c args cX6_unsold 4 RX6) (hr : meth.sig.returnType = (some .int)) (hk : meth.locks = false) : ∀ (n : Nat) (x1 : Int32) (x2 : Int32) (x3 : Int32) (M : Mm) (H : Heap) (locs : List Loc) (ls : Array Slot), T_X6_unsold_4 o n x1 x2 x3 M K → fx_H G SH M s H locs → lv_has ls 4 [(0, .ref (G.2.2.2 + o)), (1, .int x1), (2, .int x2), (3, .int x3)] → W p l e (fx_rm (0)) s m args below meth c H locs 0 0 (MQ below (va_Qi K (fx_R G SH) (fx_A G)) args s 0 0 (fx_A G)) (F0 m 4 ls []) := by
  obtain ⟨⟨hx, hb, hml, hown, hts⟩, hK, hQ⟩ := id X
  intro n
  induction n with
  | zero =>
    intro x1 x2 x3 M H locs ls hT
    exact hT.elim
  | succ n ih =>
    intro x1 x2 x3 M H locs ls hT h hl
    rw [T_X6_unsold_4] at hT
    refine lv_iload_n hx hb dX6_unsold_4 rfl (lv_at hl 3 rfl) ?_
    refine lv_iload_n hx hb dX6_unsold_5 rfl (lv_at hl 1 rfl) ?_
    refine lv_icmp_ge (tgt := 37) hx hb dX6_unsold_6 (by decide) (fun hc2 => ?_) (fun hc2 => ?_)
    · have hT := hT.1 hc2
      refine lv_iload_n hx hb dX6_unsold_37 rfl (lv_at hl 2 rfl) ?_
      exact fx_iret X hr hk h hT dX6_unsold_38
    · have hT := hT.2 hc2
      refine lv_iload_n hx hb dX6_unsold_9 rfl (lv_at hl 3 rfl) ?_
      refine lv_bipush (v := 16) hx hb dX6_unsold_10 (by decide) ?_
      refine lv_icmp_ge (tgt := 37) hx hb dX6_unsold_12 (by decide) (fun hc3 => ?_) (fun hc3 => ?_)
      · have hT := hT.1 hc3
        refine lv_iload_n hx hb dX6_unsold_37 rfl (lv_at hl 2 rfl) ?_
        exact fx_iret X hr hk h hT dX6_unsold_38
      · have hT := hT.2 hc3
        refine lv_aload_n hx hb dX6_unsold_15 rfl (lv_at hl 0 rfl) ?_
        refine fx_getR X h (k := o) (j := 0) (r := (rf o 0)) (sc_Quay o ho) rfl fl_RX6_9 dX6_unsold_16 ?_
        refine lv_iload_n hx hb dX6_unsold_19 rfl (lv_at hl 3 rfl) ?_
        obtain ⟨hi4, hT⟩ := hT
        refine fx_iald X h (k := (rf o 0)) (sa_Quay_0 o ho) hi4 dX6_unsold_20 ?_
        refine lv_iconst (v := -1) hx hb dX6_unsold_21 (by decide) ?_
        refine lv_icmp_ne (tgt := 31) hx hb dX6_unsold_22 (by decide) (fun hc5 => ?_) (fun hc5 => ?_)
        · have hT := hT.2 hc5
          exact w_X6_unsold_31 ho X hr hk (B4 := (fun x1 x2 x3 M => T_X6_unsold_4 o n x1 x2 x3 M K)) ih x1 x2 x3 M _ _ ls hT h (lv_sub hl [0, 1, 2, 3] rfl)
        · have hT := hT.1 hc5
          refine lv_iload_n hx hb dX6_unsold_25 rfl (lv_at hl 2 rfl) ?_
          refine lv_iconst (v := 1) hx hb dX6_unsold_26 (by decide) ?_
          refine lv_iload_n hx hb dX6_unsold_27 rfl (lv_at hl 3 rfl) ?_
          refine lv_ishl hx hb dX6_unsold_28 ?_
          refine lv_ior hx hb dX6_unsold_29 ?_
          refine lv_topi (fun y6 ey6 => ?_)
          have hT := hT y6 ey6
          refine lv_istore_n (lv' := [(2, .int y6), (0, .ref (G.2.2.2 + o)), (1, .int x1), (3, .int x3)]) hx hb dX6_unsold_30 rfl hl (by decide) rfl (fun ls hl => ?_)
          exact w_X6_unsold_31 ho X hr hk (B4 := (fun x1 x2 x3 M => T_X6_unsold_4 o n x1 x2 x3 M K)) ih x1 y6 x3 M _ _ ls hT h (lv_sub hl [1, 2, 0, 3] rfl)
def T_X6_unsold (o : Nat) (x1 : Int32) (M : Mm) (K : Int32 → Mm → Prop) : Prop := (T_X6_unsold_4 o 5000 x1 (0 : Int32) (0 : Int32) M K)
set_option maxHeartbeats 4000000 in
set_option maxRecDepth 100000 in
theorem c_X6_unsold (l : Launch) (G : fx_G) {o : Nat} (ho : o ∈ id_Quay) {x1 : Int32} {M : Mm} {K : Int32 → Mm → Prop} (hT : T_X6_unsold o x1 M K) : Met l yX6_unsold (fx_ws yX6_unsold cX6_unsold 4 (some .int)) (fx_rm (0)) (va_Pc [.ref (G.2.2.2 + o), .int x1] (fx_P G SH M)) (va_Qi K (fx_R G SH) (fx_A G)) 0 0 (fx_A G) := by
  refine fx_met (own := RX6) (by decide +kernel) rfl (Nat.le_of_ble_eq_true rfl) (fun p e s m below meth c X hr hk h ls hl => ?_)
  obtain ⟨⟨hx, hb, hml, hown, hts⟩, hK, hQ⟩ := id X
  have hl : lv_has ls 4 [(0, .ref (G.2.2.2 + o)), (1, .int x1)] := hl
  unfold T_X6_unsold at hT
  refine lv_iconst (v := 0) hx hb dX6_unsold_0 (by decide) ?_
  refine lv_istore_n (lv' := [(2, .int (0 : Int32)), (0, .ref (G.2.2.2 + o)), (1, .int x1)]) hx hb dX6_unsold_1 rfl hl (by decide) rfl (fun ls hl => ?_)
  refine lv_iconst (v := 0) hx hb dX6_unsold_2 (by decide) ?_
  refine lv_istore_n (lv' := [(3, .int (0 : Int32)), (2, .int (0 : Int32)), (0, .ref (G.2.2.2 + o)), (1, .int x1)]) hx hb dX6_unsold_3 rfl hl (by decide) rfl (fun ls hl => ?_)
  exact w_X6_unsold_4 ho X hr hk 5000 x1 (0 : Int32) (0 : Int32) M _ _ ls hT h (lv_sub hl [2, 3, 1, 0] rfl)
/-! MockParcels$Quay.copyFrom(LMockParcels$Quay;)V -/
theorem dX6_copyFrom_0 : decode cX6_copyFrom 0 = .ok (.aload_n 1, 1) := by decide +kernel
theorem dX6_copyFrom_1 : decode cX6_copyFrom 1 = .ok (.getfield 9, 3) := by decide +kernel
theorem dX6_copyFrom_4 : decode cX6_copyFrom 4 = .ok (.aload_n 0, 1) := by decide +kernel
theorem dX6_copyFrom_5 : decode cX6_copyFrom 5 = .ok (.getfield 9, 3) := by decide +kernel
theorem dX6_copyFrom_8 : decode cX6_copyFrom 8 = .ok (.invokestatic 58, 3) := by decide +kernel
theorem dX6_copyFrom_11 : decode cX6_copyFrom 11 = .ok (.aload_n 1, 1) := by decide +kernel
theorem dX6_copyFrom_12 : decode cX6_copyFrom 12 = .ok (.getfield 15, 3) := by decide +kernel
theorem dX6_copyFrom_15 : decode cX6_copyFrom 15 = .ok (.aload_n 0, 1) := by decide +kernel
theorem dX6_copyFrom_16 : decode cX6_copyFrom 16 = .ok (.getfield 15, 3) := by decide +kernel
theorem dX6_copyFrom_19 : decode cX6_copyFrom 19 = .ok (.invokestatic 58, 3) := by decide +kernel
theorem dX6_copyFrom_22 : decode cX6_copyFrom 22 = .ok (.aload_n 1, 1) := by decide +kernel
theorem dX6_copyFrom_23 : decode cX6_copyFrom 23 = .ok (.getfield 18, 3) := by decide +kernel
theorem dX6_copyFrom_26 : decode cX6_copyFrom 26 = .ok (.aload_n 0, 1) := by decide +kernel
theorem dX6_copyFrom_27 : decode cX6_copyFrom 27 = .ok (.getfield 18, 3) := by decide +kernel
theorem dX6_copyFrom_30 : decode cX6_copyFrom 30 = .ok (.invokestatic 58, 3) := by decide +kernel
theorem dX6_copyFrom_33 : decode cX6_copyFrom 33 = .ok (.aload_n 1, 1) := by decide +kernel
theorem dX6_copyFrom_34 : decode cX6_copyFrom 34 = .ok (.getfield 21, 3) := by decide +kernel
theorem dX6_copyFrom_37 : decode cX6_copyFrom 37 = .ok (.aload_n 0, 1) := by decide +kernel
theorem dX6_copyFrom_38 : decode cX6_copyFrom 38 = .ok (.getfield 21, 3) := by decide +kernel
theorem dX6_copyFrom_41 : decode cX6_copyFrom 41 = .ok (.invokestatic 58, 3) := by decide +kernel
theorem dX6_copyFrom_44 : decode cX6_copyFrom 44 = .ok (.aload_n 1, 1) := by decide +kernel
theorem dX6_copyFrom_45 : decode cX6_copyFrom 45 = .ok (.getfield 24, 3) := by decide +kernel
theorem dX6_copyFrom_48 : decode cX6_copyFrom 48 = .ok (.aload_n 0, 1) := by decide +kernel
theorem dX6_copyFrom_49 : decode cX6_copyFrom 49 = .ok (.getfield 24, 3) := by decide +kernel
theorem dX6_copyFrom_52 : decode cX6_copyFrom 52 = .ok (.invokestatic 58, 3) := by decide +kernel
theorem dX6_copyFrom_55 : decode cX6_copyFrom 55 = .ok (.aload_n 1, 1) := by decide +kernel
theorem dX6_copyFrom_56 : decode cX6_copyFrom 56 = .ok (.getfield 27, 3) := by decide +kernel
theorem dX6_copyFrom_59 : decode cX6_copyFrom 59 = .ok (.aload_n 0, 1) := by decide +kernel
theorem dX6_copyFrom_60 : decode cX6_copyFrom 60 = .ok (.getfield 27, 3) := by decide +kernel
theorem dX6_copyFrom_63 : decode cX6_copyFrom 63 = .ok (.invokestatic 58, 3) := by decide +kernel
theorem dX6_copyFrom_66 : decode cX6_copyFrom 66 = .ok (.aload_n 0, 1) := by decide +kernel
theorem dX6_copyFrom_67 : decode cX6_copyFrom 67 = .ok (.aload_n 1, 1) := by decide +kernel
theorem dX6_copyFrom_68 : decode cX6_copyFrom 68 = .ok (.getfield 30, 3) := by decide +kernel
theorem dX6_copyFrom_71 : decode cX6_copyFrom 71 = .ok (.putfield 30, 3) := by decide +kernel
theorem dX6_copyFrom_74 : decode cX6_copyFrom 74 = .ok (.aload_n 0, 1) := by decide +kernel
theorem dX6_copyFrom_75 : decode cX6_copyFrom 75 = .ok (.aload_n 1, 1) := by decide +kernel
theorem dX6_copyFrom_76 : decode cX6_copyFrom 76 = .ok (.getfield 34, 3) := by decide +kernel
theorem dX6_copyFrom_79 : decode cX6_copyFrom 79 = .ok (.putfield 34, 3) := by decide +kernel
theorem dX6_copyFrom_82 : decode cX6_copyFrom 82 = .ok (.aload_n 0, 1) := by decide +kernel
theorem dX6_copyFrom_83 : decode cX6_copyFrom 83 = .ok (.aload_n 1, 1) := by decide +kernel
theorem dX6_copyFrom_84 : decode cX6_copyFrom 84 = .ok (.getfield 37, 3) := by decide +kernel
theorem dX6_copyFrom_87 : decode cX6_copyFrom 87 = .ok (.putfield 37, 3) := by decide +kernel
theorem dX6_copyFrom_90 : decode cX6_copyFrom 90 = .ok (.aload_n 0, 1) := by decide +kernel
theorem dX6_copyFrom_91 : decode cX6_copyFrom 91 = .ok (.aload_n 1, 1) := by decide +kernel
theorem dX6_copyFrom_92 : decode cX6_copyFrom 92 = .ok (.getfield 40, 3) := by decide +kernel
theorem dX6_copyFrom_95 : decode cX6_copyFrom 95 = .ok (.putfield 40, 3) := by decide +kernel
theorem dX6_copyFrom_98 : decode cX6_copyFrom 98 = .ok (.aload_n 0, 1) := by decide +kernel
theorem dX6_copyFrom_99 : decode cX6_copyFrom 99 = .ok (.aload_n 1, 1) := by decide +kernel
theorem dX6_copyFrom_100 : decode cX6_copyFrom 100 = .ok (.getfield 43, 3) := by decide +kernel
theorem dX6_copyFrom_103 : decode cX6_copyFrom 103 = .ok (.putfield 43, 3) := by decide +kernel
theorem dX6_copyFrom_106 : decode cX6_copyFrom 106 = .ok (.aload_n 0, 1) := by decide +kernel
theorem dX6_copyFrom_107 : decode cX6_copyFrom 107 = .ok (.aload_n 1, 1) := by decide +kernel
theorem dX6_copyFrom_108 : decode cX6_copyFrom 108 = .ok (.getfield 46, 3) := by decide +kernel
theorem dX6_copyFrom_111 : decode cX6_copyFrom 111 = .ok (.putfield 46, 3) := by decide +kernel
theorem dX6_copyFrom_114 : decode cX6_copyFrom 114 = .ok (.aload_n 0, 1) := by decide +kernel
theorem dX6_copyFrom_115 : decode cX6_copyFrom 115 = .ok (.aload_n 1, 1) := by decide +kernel
theorem dX6_copyFrom_116 : decode cX6_copyFrom 116 = .ok (.getfield 49, 3) := by decide +kernel
theorem dX6_copyFrom_119 : decode cX6_copyFrom 119 = .ok (.putfield 49, 3) := by decide +kernel
theorem dX6_copyFrom_122 : decode cX6_copyFrom 122 = .ok (.return_, 1) := by decide +kernel
def T_X6_copyFrom (o : Nat) (o1 : Nat) (M : Mm) (K : Mm → Prop) : Prop := (T_X11_copyRow (rf o1 0) (rf o 0) M (fun M2 => (T_X11_copyRow (rf o1 1) (rf o 1) M2 (fun M4 => (T_X11_copyRow (rf o1 2) (rf o 2) M4 (fun M6 => (T_X11_copyRow (rf o1 3) (rf o 3) M6 (fun M8 => (T_X11_copyRow (rf o1 4) (rf o 4) M8 (fun M10 => (T_X11_copyRow (rf o1 5) (rf o 5) M10 (fun M12 => (∀ M13 : Mm, M13 = m_up M12 o 6 (M12 o1 6) → (∀ M14 : Mm, M14 = m_up M13 o 7 (M13 o1 7) → (∀ M15 : Mm, M15 = m_up M14 o 8 (M14 o1 8) → (∀ M16 : Mm, M16 = m_up M15 o 9 (M15 o1 9) → (∀ M17 : Mm, M17 = m_up M16 o 10 (M16 o1 10) → (∀ M18 : Mm, M18 = m_up M17 o 11 (M17 o1 11) → (∀ M19 : Mm, M19 = m_up M18 o 12 (M18 o1 12) → (K M19))))))))))))))))))))
set_option maxHeartbeats 4000000 in
set_option maxRecDepth 100000 in
theorem c_X6_copyFrom (l : Launch) (G : fx_G) {o : Nat} {o1 : Nat} (ho : o ∈ id_Quay) (ho1 : o1 ∈ id_Quay) {M : Mm} {K : Mm → Prop} (hT : T_X6_copyFrom o o1 M K) : Met l yX6_copyFrom (fx_ws yX6_copyFrom cX6_copyFrom 2 none) (fx_rm (1)) (va_Pc [.ref (G.2.2.2 + o), .ref (G.2.2.2 + o1)] (fx_P G SH M)) (va_Qv K (fx_R G SH) (fx_A G)) 0 0 (fx_A G) := by
  refine fx_met (own := RX6) (by decide +kernel) rfl (Nat.le_of_ble_eq_true rfl) (fun p e s m below meth c X hr hk h ls hl => ?_)
  obtain ⟨⟨hx, hb, hml, hown, hts⟩, hK, hQ⟩ := id X
  have hl : lv_has ls 2 [(0, .ref (G.2.2.2 + o)), (1, .ref (G.2.2.2 + o1))] := hl
  unfold T_X6_copyFrom at hT
  refine lv_aload_n hx hb dX6_copyFrom_0 rfl (lv_at hl 1 rfl) ?_
  refine fx_getR X h (k := o1) (j := 0) (r := (rf o1 0)) (sc_Quay o1 ho1) rfl fl_RX6_9 dX6_copyFrom_1 ?_
  refine lv_aload_n hx hb dX6_copyFrom_4 rfl (lv_at hl 0 rfl) ?_
  refine fx_getR X h (k := o) (j := 0) (r := (rf o 0)) (sc_Quay o ho) rfl fl_RX6_9 dX6_copyFrom_5 ?_
  refine fx_nv X h ym_X11_copyRow yt_X11_copyRow (nq_RX6_58) (c_X11_copyRow l G (ln_of (sa_Quay_0 o1 ho1)) (ln_of (sa_Quay_0 o ho)) hT) (As := [.ref (G.2.2.2 + (rf o1 0)), .ref (G.2.2.2 + (rf o 0))]) (rest := []) rfl rfl ⟨Nat.le_of_ble_eq_true rfl, Nat.le_of_ble_eq_true rfl⟩ ⟨Nat.le_refl _, Nat.le_refl _⟩ hl.1 (Nat.le_of_ble_eq_true rfl) dX6_copyFrom_8 (fun M2 H locs hT h => ?_)
  refine lv_aload_n hx hb dX6_copyFrom_11 rfl (lv_at hl 1 rfl) ?_
  refine fx_getR X h (k := o1) (j := 1) (r := (rf o1 1)) (sc_Quay o1 ho1) rfl fl_RX6_15 dX6_copyFrom_12 ?_
  refine lv_aload_n hx hb dX6_copyFrom_15 rfl (lv_at hl 0 rfl) ?_
  refine fx_getR X h (k := o) (j := 1) (r := (rf o 1)) (sc_Quay o ho) rfl fl_RX6_15 dX6_copyFrom_16 ?_
  refine fx_nv X h ym_X11_copyRow yt_X11_copyRow (nq_RX6_58) (c_X11_copyRow l G (ln_of (sa_Quay_1 o1 ho1)) (ln_of (sa_Quay_1 o ho)) hT) (As := [.ref (G.2.2.2 + (rf o1 1)), .ref (G.2.2.2 + (rf o 1))]) (rest := []) rfl rfl ⟨Nat.le_of_ble_eq_true rfl, Nat.le_of_ble_eq_true rfl⟩ ⟨Nat.le_refl _, Nat.le_refl _⟩ hl.1 (Nat.le_of_ble_eq_true rfl) dX6_copyFrom_19 (fun M4 H locs hT h => ?_)
  refine lv_aload_n hx hb dX6_copyFrom_22 rfl (lv_at hl 1 rfl) ?_
  refine fx_getR X h (k := o1) (j := 2) (r := (rf o1 2)) (sc_Quay o1 ho1) rfl fl_RX6_18 dX6_copyFrom_23 ?_
  refine lv_aload_n hx hb dX6_copyFrom_26 rfl (lv_at hl 0 rfl) ?_
  refine fx_getR X h (k := o) (j := 2) (r := (rf o 2)) (sc_Quay o ho) rfl fl_RX6_18 dX6_copyFrom_27 ?_
  refine fx_nv X h ym_X11_copyRow yt_X11_copyRow (nq_RX6_58) (c_X11_copyRow l G (ln_of (sa_Quay_2 o1 ho1)) (ln_of (sa_Quay_2 o ho)) hT) (As := [.ref (G.2.2.2 + (rf o1 2)), .ref (G.2.2.2 + (rf o 2))]) (rest := []) rfl rfl ⟨Nat.le_of_ble_eq_true rfl, Nat.le_of_ble_eq_true rfl⟩ ⟨Nat.le_refl _, Nat.le_refl _⟩ hl.1 (Nat.le_of_ble_eq_true rfl) dX6_copyFrom_30 (fun M6 H locs hT h => ?_)
  refine lv_aload_n hx hb dX6_copyFrom_33 rfl (lv_at hl 1 rfl) ?_
  refine fx_getR X h (k := o1) (j := 3) (r := (rf o1 3)) (sc_Quay o1 ho1) rfl fl_RX6_21 dX6_copyFrom_34 ?_
  refine lv_aload_n hx hb dX6_copyFrom_37 rfl (lv_at hl 0 rfl) ?_
  refine fx_getR X h (k := o) (j := 3) (r := (rf o 3)) (sc_Quay o ho) rfl fl_RX6_21 dX6_copyFrom_38 ?_
  refine fx_nv X h ym_X11_copyRow yt_X11_copyRow (nq_RX6_58) (c_X11_copyRow l G (ln_of (sa_Quay_3 o1 ho1)) (ln_of (sa_Quay_3 o ho)) hT) (As := [.ref (G.2.2.2 + (rf o1 3)), .ref (G.2.2.2 + (rf o 3))]) (rest := []) rfl rfl ⟨Nat.le_of_ble_eq_true rfl, Nat.le_of_ble_eq_true rfl⟩ ⟨Nat.le_refl _, Nat.le_refl _⟩ hl.1 (Nat.le_of_ble_eq_true rfl) dX6_copyFrom_41 (fun M8 H locs hT h => ?_)
  refine lv_aload_n hx hb dX6_copyFrom_44 rfl (lv_at hl 1 rfl) ?_
  refine fx_getR X h (k := o1) (j := 4) (r := (rf o1 4)) (sc_Quay o1 ho1) rfl fl_RX6_24 dX6_copyFrom_45 ?_
  refine lv_aload_n hx hb dX6_copyFrom_48 rfl (lv_at hl 0 rfl) ?_
  refine fx_getR X h (k := o) (j := 4) (r := (rf o 4)) (sc_Quay o ho) rfl fl_RX6_24 dX6_copyFrom_49 ?_
  refine fx_nv X h ym_X11_copyRow yt_X11_copyRow (nq_RX6_58) (c_X11_copyRow l G (ln_of (sa_Quay_4 o1 ho1)) (ln_of (sa_Quay_4 o ho)) hT) (As := [.ref (G.2.2.2 + (rf o1 4)), .ref (G.2.2.2 + (rf o 4))]) (rest := []) rfl rfl ⟨Nat.le_of_ble_eq_true rfl, Nat.le_of_ble_eq_true rfl⟩ ⟨Nat.le_refl _, Nat.le_refl _⟩ hl.1 (Nat.le_of_ble_eq_true rfl) dX6_copyFrom_52 (fun M10 H locs hT h => ?_)
  refine lv_aload_n hx hb dX6_copyFrom_55 rfl (lv_at hl 1 rfl) ?_
  refine fx_getR X h (k := o1) (j := 5) (r := (rf o1 5)) (sc_Quay o1 ho1) rfl fl_RX6_27 dX6_copyFrom_56 ?_
  refine lv_aload_n hx hb dX6_copyFrom_59 rfl (lv_at hl 0 rfl) ?_
  refine fx_getR X h (k := o) (j := 5) (r := (rf o 5)) (sc_Quay o ho) rfl fl_RX6_27 dX6_copyFrom_60 ?_
  refine fx_nv X h ym_X11_copyRow yt_X11_copyRow (nq_RX6_58) (c_X11_copyRow l G (ln_of (sa_Quay_5 o1 ho1)) (ln_of (sa_Quay_5 o ho)) hT) (As := [.ref (G.2.2.2 + (rf o1 5)), .ref (G.2.2.2 + (rf o 5))]) (rest := []) rfl rfl ⟨Nat.le_of_ble_eq_true rfl, Nat.le_of_ble_eq_true rfl⟩ ⟨Nat.le_refl _, Nat.le_refl _⟩ hl.1 (Nat.le_of_ble_eq_true rfl) dX6_copyFrom_63 (fun M12 H locs hT h => ?_)
  refine lv_aload_n hx hb dX6_copyFrom_66 rfl (lv_at hl 0 rfl) ?_
  refine lv_aload_n hx hb dX6_copyFrom_67 rfl (lv_at hl 1 rfl) ?_
  refine fx_getI X h (k := o1) (j := 6) (sc_Quay o1 ho1) rfl fl_RX6_30 dX6_copyFrom_68 ?_
  refine fx_putI X h (k := o) (j := 6) (sc_Quay o ho) rfl fl_RX6_30 dX6_copyFrom_71 (fun H locs h => ?_)
  obtain ⟨M13, eM13⟩ : ∃ z : Mm, z = m_up M12 o 6 (M12 o1 6) := ⟨_, rfl⟩
  have hT := hT M13 eM13
  rw [← eM13] at h
  refine lv_aload_n hx hb dX6_copyFrom_74 rfl (lv_at hl 0 rfl) ?_
  refine lv_aload_n hx hb dX6_copyFrom_75 rfl (lv_at hl 1 rfl) ?_
  refine fx_getI X h (k := o1) (j := 7) (sc_Quay o1 ho1) rfl fl_RX6_34 dX6_copyFrom_76 ?_
  refine fx_putI X h (k := o) (j := 7) (sc_Quay o ho) rfl fl_RX6_34 dX6_copyFrom_79 (fun H locs h => ?_)
  obtain ⟨M14, eM14⟩ : ∃ z : Mm, z = m_up M13 o 7 (M13 o1 7) := ⟨_, rfl⟩
  have hT := hT M14 eM14
  rw [← eM14] at h
  refine lv_aload_n hx hb dX6_copyFrom_82 rfl (lv_at hl 0 rfl) ?_
  refine lv_aload_n hx hb dX6_copyFrom_83 rfl (lv_at hl 1 rfl) ?_
  refine fx_getI X h (k := o1) (j := 8) (sc_Quay o1 ho1) rfl fl_RX6_37 dX6_copyFrom_84 ?_
  refine fx_putI X h (k := o) (j := 8) (sc_Quay o ho) rfl fl_RX6_37 dX6_copyFrom_87 (fun H locs h => ?_)
  obtain ⟨M15, eM15⟩ : ∃ z : Mm, z = m_up M14 o 8 (M14 o1 8) := ⟨_, rfl⟩
  have hT := hT M15 eM15
  rw [← eM15] at h
  refine lv_aload_n hx hb dX6_copyFrom_90 rfl (lv_at hl 0 rfl) ?_
  refine lv_aload_n hx hb dX6_copyFrom_91 rfl (lv_at hl 1 rfl) ?_
  refine fx_getI X h (k := o1) (j := 9) (sc_Quay o1 ho1) rfl fl_RX6_40 dX6_copyFrom_92 ?_
  refine fx_putI X h (k := o) (j := 9) (sc_Quay o ho) rfl fl_RX6_40 dX6_copyFrom_95 (fun H locs h => ?_)
  obtain ⟨M16, eM16⟩ : ∃ z : Mm, z = m_up M15 o 9 (M15 o1 9) := ⟨_, rfl⟩
  have hT := hT M16 eM16
  rw [← eM16] at h
  refine lv_aload_n hx hb dX6_copyFrom_98 rfl (lv_at hl 0 rfl) ?_
  refine lv_aload_n hx hb dX6_copyFrom_99 rfl (lv_at hl 1 rfl) ?_
  refine fx_getI X h (k := o1) (j := 10) (sc_Quay o1 ho1) rfl fl_RX6_43 dX6_copyFrom_100 ?_
  refine fx_putI X h (k := o) (j := 10) (sc_Quay o ho) rfl fl_RX6_43 dX6_copyFrom_103 (fun H locs h => ?_)
  obtain ⟨M17, eM17⟩ : ∃ z : Mm, z = m_up M16 o 10 (M16 o1 10) := ⟨_, rfl⟩
  have hT := hT M17 eM17
  rw [← eM17] at h
  refine lv_aload_n hx hb dX6_copyFrom_106 rfl (lv_at hl 0 rfl) ?_
  refine lv_aload_n hx hb dX6_copyFrom_107 rfl (lv_at hl 1 rfl) ?_
  refine fx_getI X h (k := o1) (j := 11) (sc_Quay o1 ho1) rfl fl_RX6_46 dX6_copyFrom_108 ?_
  refine fx_putI X h (k := o) (j := 11) (sc_Quay o ho) rfl fl_RX6_46 dX6_copyFrom_111 (fun H locs h => ?_)
  obtain ⟨M18, eM18⟩ : ∃ z : Mm, z = m_up M17 o 11 (M17 o1 11) := ⟨_, rfl⟩
  have hT := hT M18 eM18
  rw [← eM18] at h
  refine lv_aload_n hx hb dX6_copyFrom_114 rfl (lv_at hl 0 rfl) ?_
  refine lv_aload_n hx hb dX6_copyFrom_115 rfl (lv_at hl 1 rfl) ?_
  refine fx_getI X h (k := o1) (j := 12) (sc_Quay o1 ho1) rfl fl_RX6_49 dX6_copyFrom_116 ?_
  refine fx_putI X h (k := o) (j := 12) (sc_Quay o ho) rfl fl_RX6_49 dX6_copyFrom_119 (fun H locs h => ?_)
  obtain ⟨M19, eM19⟩ : ∃ z : Mm, z = m_up M18 o 12 (M18 o1 12) := ⟨_, rfl⟩
  have hT := hT M19 eM19
  rw [← eM19] at h
  exact fx_vret X hr hk h hT dX6_copyFrom_122
/-! MockParcels$Past.keep(LMockParcels$Quay;)V -/
theorem dX4_keep_0 : decode cX4_keep 0 = .ok (.aload_n 0, 1) := by decide +kernel
theorem dX4_keep_1 : decode cX4_keep 1 = .ok (.getfield 11, 3) := by decide +kernel
theorem dX4_keep_4 : decode cX4_keep 4 = .ok (.aload_n 0, 1) := by decide +kernel
theorem dX4_keep_5 : decode cX4_keep 5 = .ok (.getfield 17, 3) := by decide +kernel
theorem dX4_keep_8 : decode cX4_keep 8 = .ok (.aload_n 0, 1) := by decide +kernel
theorem dX4_keep_9 : decode cX4_keep 9 = .ok (.getfield 21, 3) := by decide +kernel
theorem dX4_keep_12 : decode cX4_keep 12 = .ok (.iadd, 1) := by decide +kernel
theorem dX4_keep_13 : decode cX4_keep 13 = .ok (.bipush 6, 2) := by decide +kernel
theorem dX4_keep_15 : decode cX4_keep 15 = .ok (.irem, 1) := by decide +kernel
theorem dX4_keep_16 : decode cX4_keep 16 = .ok (.aaload, 1) := by decide +kernel
theorem dX4_keep_17 : decode cX4_keep 17 = .ok (.astore_n 2, 1) := by decide +kernel
theorem dX4_keep_18 : decode cX4_keep 18 = .ok (.aload_n 2, 1) := by decide +kernel
theorem dX4_keep_19 : decode cX4_keep 19 = .ok (.ifnull 8, 3) := by decide +kernel
theorem dX4_keep_22 : decode cX4_keep 22 = .ok (.aload_n 2, 1) := by decide +kernel
theorem dX4_keep_23 : decode cX4_keep 23 = .ok (.aload_n 1, 1) := by decide +kernel
theorem dX4_keep_24 : decode cX4_keep 24 = .ok (.invokevirtual 25, 3) := by decide +kernel
theorem dX4_keep_27 : decode cX4_keep 27 = .ok (.aload_n 0, 1) := by decide +kernel
theorem dX4_keep_28 : decode cX4_keep 28 = .ok (.getfield 21, 3) := by decide +kernel
theorem dX4_keep_31 : decode cX4_keep 31 = .ok (.bipush 6, 2) := by decide +kernel
theorem dX4_keep_33 : decode cX4_keep 33 = .ok (.if_icmp .ge 16, 3) := by decide +kernel
theorem dX4_keep_36 : decode cX4_keep 36 = .ok (.aload_n 0, 1) := by decide +kernel
theorem dX4_keep_37 : decode cX4_keep 37 = .ok (.dup, 1) := by decide +kernel
theorem dX4_keep_38 : decode cX4_keep 38 = .ok (.getfield 21, 3) := by decide +kernel
theorem dX4_keep_41 : decode cX4_keep 41 = .ok (.iconst 1, 1) := by decide +kernel
theorem dX4_keep_42 : decode cX4_keep 42 = .ok (.iadd, 1) := by decide +kernel
theorem dX4_keep_43 : decode cX4_keep 43 = .ok (.putfield 21, 3) := by decide +kernel
theorem dX4_keep_46 : decode cX4_keep 46 = .ok (.goto 16, 3) := by decide +kernel
theorem dX4_keep_49 : decode cX4_keep 49 = .ok (.aload_n 0, 1) := by decide +kernel
theorem dX4_keep_50 : decode cX4_keep 50 = .ok (.aload_n 0, 1) := by decide +kernel
theorem dX4_keep_51 : decode cX4_keep 51 = .ok (.getfield 17, 3) := by decide +kernel
theorem dX4_keep_54 : decode cX4_keep 54 = .ok (.iconst 1, 1) := by decide +kernel
theorem dX4_keep_55 : decode cX4_keep 55 = .ok (.iadd, 1) := by decide +kernel
theorem dX4_keep_56 : decode cX4_keep 56 = .ok (.bipush 6, 2) := by decide +kernel
theorem dX4_keep_58 : decode cX4_keep 58 = .ok (.irem, 1) := by decide +kernel
theorem dX4_keep_59 : decode cX4_keep 59 = .ok (.putfield 17, 3) := by decide +kernel
theorem dX4_keep_62 : decode cX4_keep 62 = .ok (.return_, 1) := by decide +kernel
def T_X4_keep (o1 : Nat) (M : Mm) (K : Mm → Prop) : Prop := (vp_in (((M 79 1) + (M 79 2)) - ((M 79 1) + (M 79 2)) / (6 : Int32) * (6 : Int32)) 6 ∧ (T_X6_copyFrom (qr ((((M 79 1) + (M 79 2)) - ((M 79 1) + (M 79 2)) / (6 : Int32) * (6 : Int32))).toNatClampNeg) o1 M (fun M4 => (((6 : Int32) ≤ (M4 79 2) → (∀ M6 : Mm, M6 = m_up M4 79 1 (((M4 79 1) + (1 : Int32)) - ((M4 79 1) + (1 : Int32)) / (6 : Int32) * (6 : Int32)) → (K M6))) ∧ (¬ (6 : Int32) ≤ (M4 79 2) → (∀ M7 : Mm, M7 = m_up M4 79 2 ((M4 79 2) + (1 : Int32)) → (K M7)))))))
set_option maxHeartbeats 4000000 in
set_option maxRecDepth 100000 in
theorem c_X4_keep (l : Launch) (G : fx_G) {o1 : Nat} (ho1 : o1 ∈ id_Quay) {M : Mm} {K : Mm → Prop} (hT : T_X4_keep o1 M K) : Met l yX4_keep (fx_ws yX4_keep cX4_keep 3 none) (fx_rm (2)) (va_Pc [.ref (G.2.2.2 + 79), .ref (G.2.2.2 + o1)] (fx_P G SH M)) (va_Qv K (fx_R G SH) (fx_A G)) 0 0 (fx_A G) := by
  refine fx_met (own := RX4) (by decide +kernel) rfl (Nat.le_of_ble_eq_true rfl) (fun p e s m below meth c X hr hk h ls hl => ?_)
  obtain ⟨⟨hx, hb, hml, hown, hts⟩, hK, hQ⟩ := id X
  have hl : lv_has ls 3 [(0, .ref (G.2.2.2 + 79)), (1, .ref (G.2.2.2 + o1))] := hl
  unfold T_X4_keep at hT
  refine lv_aload_n hx hb dX4_keep_0 rfl (lv_at hl 0 rfl) ?_
  refine fx_getR X h (k := 79) (j := 0) (r := 80) sh_79 rfl fl_RX4_11 dX4_keep_1 ?_
  refine lv_aload_n hx hb dX4_keep_4 rfl (lv_at hl 0 rfl) ?_
  refine fx_getI X h (k := 79) (j := 1) sh_79 rfl fl_RX4_17 dX4_keep_5 ?_
  refine lv_aload_n hx hb dX4_keep_8 rfl (lv_at hl 0 rfl) ?_
  refine fx_getI X h (k := 79) (j := 2) sh_79 rfl fl_RX4_21 dX4_keep_9 ?_
  refine lv_iadd hx hb dX4_keep_12 ?_
  refine lv_bipush (v := 6) hx hb dX4_keep_13 (by decide) ?_
  refine lv_irem hx hb dX4_keep_15 (by decide) ?_
  obtain ⟨hi1, hT⟩ := hT
  refine fx_aald X h (k := 80) (r := (qr ((((M 79 1) + (M 79 2)) - ((M 79 1) + (M 79 2)) / (6 : Int32) * (6 : Int32))).toNatClampNeg)) sh_80 hi1 (qr_ok hi1) dX4_keep_16 ?_
  refine lv_astore_n (lv' := [(2, .ref (G.2.2.2 + (qr ((((M 79 1) + (M 79 2)) - ((M 79 1) + (M 79 2)) / (6 : Int32) * (6 : Int32))).toNatClampNeg))), (0, .ref (G.2.2.2 + 79)), (1, .ref (G.2.2.2 + o1))]) hx hb dX4_keep_17 rfl hl (by decide) rfl (fun ls hl => ?_)
  refine lv_aload_n hx hb dX4_keep_18 rfl (lv_at hl 0 rfl) ?_
  refine lv_ifnull hx hb dX4_keep_19 ?_
  refine lv_aload_n hx hb dX4_keep_22 rfl (lv_at hl 0 rfl) ?_
  refine lv_aload_n hx hb dX4_keep_23 rfl (lv_at hl 2 rfl) ?_
  refine fx_vv X h ym_X6_copyFrom yi_X6_copyFrom ys_X6_copyFrom (fx_s3 (List.mem_of_getElem? (i := 108) rfl) rfl) (sc_Quay (qr ((((M 79 1) + (M 79 2)) - ((M 79 1) + (M 79 2)) / (6 : Int32) * (6 : Int32))).toNatClampNeg) (qr_in _)) rfl (c_X6_copyFrom l G (qr_in _) ho1 hT) (As := [.ref (G.2.2.2 + o1)]) (rest := []) rfl rfl ⟨Nat.le_of_ble_eq_true rfl, Nat.le_of_ble_eq_true rfl⟩ ⟨Nat.le_refl _, Nat.le_refl _⟩ hl.1 (Nat.le_of_ble_eq_true rfl) dX4_keep_24 (fun M4 H locs hT h => ?_)
  refine lv_aload_n hx hb dX4_keep_27 rfl (lv_at hl 1 rfl) ?_
  refine fx_getI X h (k := 79) (j := 2) sh_79 rfl fl_RX4_21 dX4_keep_28 ?_
  refine lv_bipush (v := 6) hx hb dX4_keep_31 (by decide) ?_
  refine lv_icmp_ge (tgt := 49) hx hb dX4_keep_33 (by decide) (fun hc5 => ?_) (fun hc5 => ?_)
  · have hT := hT.1 hc5
    refine lv_aload_n hx hb dX4_keep_49 rfl (lv_at hl 1 rfl) ?_
    refine lv_aload_n hx hb dX4_keep_50 rfl (lv_at hl 1 rfl) ?_
    refine fx_getI X h (k := 79) (j := 1) sh_79 rfl fl_RX4_17 dX4_keep_51 ?_
    refine lv_iconst (v := 1) hx hb dX4_keep_54 (by decide) ?_
    refine lv_iadd hx hb dX4_keep_55 ?_
    refine lv_bipush (v := 6) hx hb dX4_keep_56 (by decide) ?_
    refine lv_irem hx hb dX4_keep_58 (by decide) ?_
    refine fx_putI X h (k := 79) (j := 1) sh_79 rfl fl_RX4_17 dX4_keep_59 (fun H locs h => ?_)
    obtain ⟨M6, eM6⟩ : ∃ z : Mm, z = m_up M4 79 1 (((M4 79 1) + (1 : Int32)) - ((M4 79 1) + (1 : Int32)) / (6 : Int32) * (6 : Int32)) := ⟨_, rfl⟩
    have hT := hT M6 eM6
    rw [← eM6] at h
    exact fx_vret X hr hk h hT dX4_keep_62
  · have hT := hT.2 hc5
    refine lv_aload_n hx hb dX4_keep_36 rfl (lv_at hl 1 rfl) ?_
    refine lv_dup hx hb dX4_keep_37 rfl ?_
    refine fx_getI X h (k := 79) (j := 2) sh_79 rfl fl_RX4_21 dX4_keep_38 ?_
    refine lv_iconst (v := 1) hx hb dX4_keep_41 (by decide) ?_
    refine lv_iadd hx hb dX4_keep_42 ?_
    refine fx_putI X h (k := 79) (j := 2) sh_79 rfl fl_RX4_21 dX4_keep_43 (fun H locs h => ?_)
    obtain ⟨M7, eM7⟩ : ∃ z : Mm, z = m_up M4 79 2 ((M4 79 2) + (1 : Int32)) := ⟨_, rfl⟩
    have hT := hT M7 eM7
    rw [← eM7] at h
    refine lv_goto (tgt := 62) hx hb dX4_keep_46 (by decide) ?_
    exact fx_vret X hr hk h hT dX4_keep_62
/-! MockParcels$Past.goBack(LMockParcels$Quay;)Z -/
theorem dX4_goBack_0 : decode cX4_goBack 0 = .ok (.aload_n 0, 1) := by decide +kernel
theorem dX4_goBack_1 : decode cX4_goBack 1 = .ok (.getfield 21, 3) := by decide +kernel
theorem dX4_goBack_4 : decode cX4_goBack 4 = .ok (.ifCond .ne 5, 3) := by decide +kernel
theorem dX4_goBack_7 : decode cX4_goBack 7 = .ok (.iconst 0, 1) := by decide +kernel
theorem dX4_goBack_8 : decode cX4_goBack 8 = .ok (.ireturn, 1) := by decide +kernel
theorem dX4_goBack_9 : decode cX4_goBack 9 = .ok (.aload_n 0, 1) := by decide +kernel
theorem dX4_goBack_10 : decode cX4_goBack 10 = .ok (.dup, 1) := by decide +kernel
theorem dX4_goBack_11 : decode cX4_goBack 11 = .ok (.getfield 21, 3) := by decide +kernel
theorem dX4_goBack_14 : decode cX4_goBack 14 = .ok (.iconst 1, 1) := by decide +kernel
theorem dX4_goBack_15 : decode cX4_goBack 15 = .ok (.isub, 1) := by decide +kernel
theorem dX4_goBack_16 : decode cX4_goBack 16 = .ok (.putfield 21, 3) := by decide +kernel
theorem dX4_goBack_19 : decode cX4_goBack 19 = .ok (.aload_n 0, 1) := by decide +kernel
theorem dX4_goBack_20 : decode cX4_goBack 20 = .ok (.getfield 11, 3) := by decide +kernel
theorem dX4_goBack_23 : decode cX4_goBack 23 = .ok (.aload_n 0, 1) := by decide +kernel
theorem dX4_goBack_24 : decode cX4_goBack 24 = .ok (.getfield 17, 3) := by decide +kernel
theorem dX4_goBack_27 : decode cX4_goBack 27 = .ok (.aload_n 0, 1) := by decide +kernel
theorem dX4_goBack_28 : decode cX4_goBack 28 = .ok (.getfield 21, 3) := by decide +kernel
theorem dX4_goBack_31 : decode cX4_goBack 31 = .ok (.iadd, 1) := by decide +kernel
theorem dX4_goBack_32 : decode cX4_goBack 32 = .ok (.bipush 6, 2) := by decide +kernel
theorem dX4_goBack_34 : decode cX4_goBack 34 = .ok (.irem, 1) := by decide +kernel
theorem dX4_goBack_35 : decode cX4_goBack 35 = .ok (.aaload, 1) := by decide +kernel
theorem dX4_goBack_36 : decode cX4_goBack 36 = .ok (.astore_n 2, 1) := by decide +kernel
theorem dX4_goBack_37 : decode cX4_goBack 37 = .ok (.aload_n 2, 1) := by decide +kernel
theorem dX4_goBack_38 : decode cX4_goBack 38 = .ok (.ifnull 8, 3) := by decide +kernel
theorem dX4_goBack_41 : decode cX4_goBack 41 = .ok (.aload_n 1, 1) := by decide +kernel
theorem dX4_goBack_42 : decode cX4_goBack 42 = .ok (.aload_n 2, 1) := by decide +kernel
theorem dX4_goBack_43 : decode cX4_goBack 43 = .ok (.invokevirtual 25, 3) := by decide +kernel
theorem dX4_goBack_46 : decode cX4_goBack 46 = .ok (.iconst 1, 1) := by decide +kernel
theorem dX4_goBack_47 : decode cX4_goBack 47 = .ok (.ireturn, 1) := by decide +kernel
def T_X4_goBack (o1 : Nat) (M : Mm) (K : Int32 → Mm → Prop) : Prop := (((M 79 2) = 0 → (K (0 : Int32) M)) ∧ (¬ (M 79 2) = 0 → (∀ M2 : Mm, M2 = m_up M 79 2 ((M 79 2) - (1 : Int32)) → (vp_in (((M2 79 1) + (M2 79 2)) - ((M2 79 1) + (M2 79 2)) / (6 : Int32) * (6 : Int32)) 6 ∧ (T_X6_copyFrom o1 (qr ((((M2 79 1) + (M2 79 2)) - ((M2 79 1) + (M2 79 2)) / (6 : Int32) * (6 : Int32))).toNatClampNeg) M2 (fun M6 => (K (1 : Int32) M6)))))))
set_option maxHeartbeats 4000000 in
set_option maxRecDepth 100000 in
theorem c_X4_goBack (l : Launch) (G : fx_G) {o1 : Nat} (ho1 : o1 ∈ id_Quay) {M : Mm} {K : Int32 → Mm → Prop} (hT : T_X4_goBack o1 M K) : Met l yX4_goBack (fx_ws yX4_goBack cX4_goBack 3 (some .boolean)) (fx_rm (2)) (va_Pc [.ref (G.2.2.2 + 79), .ref (G.2.2.2 + o1)] (fx_P G SH M)) (va_Qi K (fx_R G SH) (fx_A G)) 0 0 (fx_A G) := by
  refine fx_met (own := RX4) (by decide +kernel) rfl (Nat.le_of_ble_eq_true rfl) (fun p e s m below meth c X hr hk h ls hl => ?_)
  obtain ⟨⟨hx, hb, hml, hown, hts⟩, hK, hQ⟩ := id X
  have hl : lv_has ls 3 [(0, .ref (G.2.2.2 + 79)), (1, .ref (G.2.2.2 + o1))] := hl
  unfold T_X4_goBack at hT
  refine lv_aload_n hx hb dX4_goBack_0 rfl (lv_at hl 0 rfl) ?_
  refine fx_getI X h (k := 79) (j := 2) sh_79 rfl fl_RX4_21 dX4_goBack_1 ?_
  refine lv_if_ne (tgt := 9) hx hb dX4_goBack_4 (by decide) (fun hc1 => ?_) (fun hc1 => ?_)
  · have hT := hT.2 hc1
    refine lv_aload_n hx hb dX4_goBack_9 rfl (lv_at hl 0 rfl) ?_
    refine lv_dup hx hb dX4_goBack_10 rfl ?_
    refine fx_getI X h (k := 79) (j := 2) sh_79 rfl fl_RX4_21 dX4_goBack_11 ?_
    refine lv_iconst (v := 1) hx hb dX4_goBack_14 (by decide) ?_
    refine lv_isub hx hb dX4_goBack_15 ?_
    refine fx_putI X h (k := 79) (j := 2) sh_79 rfl fl_RX4_21 dX4_goBack_16 (fun H locs h => ?_)
    obtain ⟨M2, eM2⟩ : ∃ z : Mm, z = m_up M 79 2 ((M 79 2) - (1 : Int32)) := ⟨_, rfl⟩
    have hT := hT M2 eM2
    rw [← eM2] at h
    refine lv_aload_n hx hb dX4_goBack_19 rfl (lv_at hl 0 rfl) ?_
    refine fx_getR X h (k := 79) (j := 0) (r := 80) sh_79 rfl fl_RX4_11 dX4_goBack_20 ?_
    refine lv_aload_n hx hb dX4_goBack_23 rfl (lv_at hl 0 rfl) ?_
    refine fx_getI X h (k := 79) (j := 1) sh_79 rfl fl_RX4_17 dX4_goBack_24 ?_
    refine lv_aload_n hx hb dX4_goBack_27 rfl (lv_at hl 0 rfl) ?_
    refine fx_getI X h (k := 79) (j := 2) sh_79 rfl fl_RX4_21 dX4_goBack_28 ?_
    refine lv_iadd hx hb dX4_goBack_31 ?_
    refine lv_bipush (v := 6) hx hb dX4_goBack_32 (by decide) ?_
    refine lv_irem hx hb dX4_goBack_34 (by decide) ?_
    obtain ⟨hi3, hT⟩ := hT
    refine fx_aald X h (k := 80) (r := (qr ((((M2 79 1) + (M2 79 2)) - ((M2 79 1) + (M2 79 2)) / (6 : Int32) * (6 : Int32))).toNatClampNeg)) sh_80 hi3 (qr_ok hi3) dX4_goBack_35 ?_
    refine lv_astore_n (lv' := [(2, .ref (G.2.2.2 + (qr ((((M2 79 1) + (M2 79 2)) - ((M2 79 1) + (M2 79 2)) / (6 : Int32) * (6 : Int32))).toNatClampNeg))), (0, .ref (G.2.2.2 + 79)), (1, .ref (G.2.2.2 + o1))]) hx hb dX4_goBack_36 rfl hl (by decide) rfl (fun ls hl => ?_)
    refine lv_aload_n hx hb dX4_goBack_37 rfl (lv_at hl 0 rfl) ?_
    refine lv_ifnull hx hb dX4_goBack_38 ?_
    refine lv_aload_n hx hb dX4_goBack_41 rfl (lv_at hl 2 rfl) ?_
    refine lv_aload_n hx hb dX4_goBack_42 rfl (lv_at hl 0 rfl) ?_
    refine fx_vv X h ym_X6_copyFrom yi_X6_copyFrom ys_X6_copyFrom (fx_s3 (List.mem_of_getElem? (i := 108) rfl) rfl) (sc_Quay o1 ho1) rfl (c_X6_copyFrom l G ho1 (qr_in _) hT) (As := [.ref (G.2.2.2 + (qr ((((M2 79 1) + (M2 79 2)) - ((M2 79 1) + (M2 79 2)) / (6 : Int32) * (6 : Int32))).toNatClampNeg))]) (rest := []) rfl rfl ⟨Nat.le_of_ble_eq_true rfl, Nat.le_of_ble_eq_true rfl⟩ ⟨Nat.le_refl _, Nat.le_refl _⟩ hl.1 (Nat.le_of_ble_eq_true rfl) dX4_goBack_43 (fun M6 H locs hT h => ?_)
    refine lv_iconst (v := 1) hx hb dX4_goBack_46 (by decide) ?_
    exact fx_zret X hr hk h (Or.inr rfl) hT dX4_goBack_47
  · have hT := hT.1 hc1
    refine lv_iconst (v := 0) hx hb dX4_goBack_7 (by decide) ?_
    exact fx_zret X hr hk h (Or.inl rfl) hT dX4_goBack_8
/-! MockParcels$Past.forget()V -/
theorem dX4_forget_0 : decode cX4_forget 0 = .ok (.aload_n 0, 1) := by decide +kernel
theorem dX4_forget_1 : decode cX4_forget 1 = .ok (.iconst 0, 1) := by decide +kernel
theorem dX4_forget_2 : decode cX4_forget 2 = .ok (.putfield 17, 3) := by decide +kernel
theorem dX4_forget_5 : decode cX4_forget 5 = .ok (.aload_n 0, 1) := by decide +kernel
theorem dX4_forget_6 : decode cX4_forget 6 = .ok (.iconst 0, 1) := by decide +kernel
theorem dX4_forget_7 : decode cX4_forget 7 = .ok (.putfield 21, 3) := by decide +kernel
theorem dX4_forget_10 : decode cX4_forget 10 = .ok (.return_, 1) := by decide +kernel
def T_X4_forget (M : Mm) (K : Mm → Prop) : Prop := (∀ M1 : Mm, M1 = m_up M 79 1 (0 : Int32) → (∀ M2 : Mm, M2 = m_up M1 79 2 (0 : Int32) → (K M2)))
set_option maxHeartbeats 4000000 in
set_option maxRecDepth 100000 in
theorem c_X4_forget (l : Launch) (G : fx_G) {M : Mm} {K : Mm → Prop} (hT : T_X4_forget M K) : Met l yX4_forget (fx_ws yX4_forget cX4_forget 1 none) (fx_rm (0)) (va_Pc [.ref (G.2.2.2 + 79)] (fx_P G SH M)) (va_Qv K (fx_R G SH) (fx_A G)) 0 0 (fx_A G) := by
  refine fx_met (own := RX4) (by decide +kernel) rfl (Nat.le_of_ble_eq_true rfl) (fun p e s m below meth c X hr hk h ls hl => ?_)
  obtain ⟨⟨hx, hb, hml, hown, hts⟩, hK, hQ⟩ := id X
  have hl : lv_has ls 1 [(0, .ref (G.2.2.2 + 79))] := hl
  unfold T_X4_forget at hT
  refine lv_aload_n hx hb dX4_forget_0 rfl (lv_at hl 0 rfl) ?_
  refine lv_iconst (v := 0) hx hb dX4_forget_1 (by decide) ?_
  refine fx_putI X h (k := 79) (j := 1) sh_79 rfl fl_RX4_17 dX4_forget_2 (fun H locs h => ?_)
  obtain ⟨M1, eM1⟩ : ∃ z : Mm, z = m_up M 79 1 (0 : Int32) := ⟨_, rfl⟩
  have hT := hT M1 eM1
  rw [← eM1] at h
  refine lv_aload_n hx hb dX4_forget_5 rfl (lv_at hl 0 rfl) ?_
  refine lv_iconst (v := 0) hx hb dX4_forget_6 (by decide) ?_
  refine fx_putI X h (k := 79) (j := 2) sh_79 rfl fl_RX4_21 dX4_forget_7 (fun H locs h => ?_)
  obtain ⟨M2, eM2⟩ : ∃ z : Mm, z = m_up M1 79 2 (0 : Int32) := ⟨_, rfl⟩
  have hT := hT M2 eM2
  rw [← eM2] at h
  exact fx_vret X hr hk h hT dX4_forget_10
/-! MockParcels$Plans.clear()V -/
theorem dX5_clear_0 : decode cX5_clear 0 = .ok (.aload_n 0, 1) := by decide +kernel
theorem dX5_clear_1 : decode cX5_clear 1 = .ok (.getfield 9, 3) := by decide +kernel
theorem dX5_clear_4 : decode cX5_clear 4 = .ok (.iconst (-1), 1) := by decide +kernel
theorem dX5_clear_5 : decode cX5_clear 5 = .ok (.invokestatic 40, 3) := by decide +kernel
theorem dX5_clear_8 : decode cX5_clear 8 = .ok (.aload_n 0, 1) := by decide +kernel
theorem dX5_clear_9 : decode cX5_clear 9 = .ok (.getfield 15, 3) := by decide +kernel
theorem dX5_clear_12 : decode cX5_clear 12 = .ok (.iconst 0, 1) := by decide +kernel
theorem dX5_clear_13 : decode cX5_clear 13 = .ok (.invokestatic 40, 3) := by decide +kernel
theorem dX5_clear_16 : decode cX5_clear 16 = .ok (.aload_n 0, 1) := by decide +kernel
theorem dX5_clear_17 : decode cX5_clear 17 = .ok (.iconst 0, 1) := by decide +kernel
theorem dX5_clear_18 : decode cX5_clear 18 = .ok (.putfield 30, 3) := by decide +kernel
theorem dX5_clear_21 : decode cX5_clear 21 = .ok (.aload_n 0, 1) := by decide +kernel
theorem dX5_clear_22 : decode cX5_clear 22 = .ok (.iconst 0, 1) := by decide +kernel
theorem dX5_clear_23 : decode cX5_clear 23 = .ok (.putfield 34, 3) := by decide +kernel
theorem dX5_clear_26 : decode cX5_clear 26 = .ok (.aload_n 0, 1) := by decide +kernel
theorem dX5_clear_27 : decode cX5_clear 27 = .ok (.iconst 0, 1) := by decide +kernel
theorem dX5_clear_28 : decode cX5_clear 28 = .ok (.putfield 37, 3) := by decide +kernel
theorem dX5_clear_31 : decode cX5_clear 31 = .ok (.return_, 1) := by decide +kernel
def T_X5_clear (o : Nat) (M : Mm) (K : Mm → Prop) : Prop := (T_X11_fillRow (rf o 0) (-1 : Int32) M (fun M2 => (T_X11_fillRow (rf o 1) (0 : Int32) M2 (fun M4 => (∀ M5 : Mm, M5 = m_up M4 o 6 (0 : Int32) → (∀ M6 : Mm, M6 = m_up M5 o 7 (0 : Int32) → (∀ M7 : Mm, M7 = m_up M6 o 8 (0 : Int32) → (K M7))))))))
set_option maxHeartbeats 4000000 in
set_option maxRecDepth 100000 in
theorem c_X5_clear (l : Launch) (G : fx_G) {o : Nat} (ho : o ∈ id_Plans) {M : Mm} {K : Mm → Prop} (hT : T_X5_clear o M K) : Met l yX5_clear (fx_ws yX5_clear cX5_clear 1 none) (fx_rm (1)) (va_Pc [.ref (G.2.2.2 + o)] (fx_P G SH M)) (va_Qv K (fx_R G SH) (fx_A G)) 0 0 (fx_A G) := by
  refine fx_met (own := RX5) (by decide +kernel) rfl (Nat.le_of_ble_eq_true rfl) (fun p e s m below meth c X hr hk h ls hl => ?_)
  obtain ⟨⟨hx, hb, hml, hown, hts⟩, hK, hQ⟩ := id X
  have hl : lv_has ls 1 [(0, .ref (G.2.2.2 + o))] := hl
  unfold T_X5_clear at hT
  refine lv_aload_n hx hb dX5_clear_0 rfl (lv_at hl 0 rfl) ?_
  refine fx_getR X h (k := o) (j := 0) (r := (rf o 0)) (sc_Plans o ho) rfl fl_RX5_9 dX5_clear_1 ?_
  refine lv_iconst (v := -1) hx hb dX5_clear_4 (by decide) ?_
  refine fx_nv X h ym_X11_fillRow yt_X11_fillRow (nq_RX5_40) (c_X11_fillRow l G (ln_of (sa_Plans_0 o ho)) hT) (As := [.ref (G.2.2.2 + (rf o 0)), .int (-1 : Int32)]) (rest := []) rfl rfl ⟨Nat.le_of_ble_eq_true rfl, Nat.le_of_ble_eq_true rfl⟩ ⟨Nat.le_refl _, Nat.le_refl _⟩ hl.1 (Nat.le_of_ble_eq_true rfl) dX5_clear_5 (fun M2 H locs hT h => ?_)
  refine lv_aload_n hx hb dX5_clear_8 rfl (lv_at hl 0 rfl) ?_
  refine fx_getR X h (k := o) (j := 1) (r := (rf o 1)) (sc_Plans o ho) rfl fl_RX5_15 dX5_clear_9 ?_
  refine lv_iconst (v := 0) hx hb dX5_clear_12 (by decide) ?_
  refine fx_nv X h ym_X11_fillRow yt_X11_fillRow (nq_RX5_40) (c_X11_fillRow l G (ln_of (sa_Plans_1 o ho)) hT) (As := [.ref (G.2.2.2 + (rf o 1)), .int (0 : Int32)]) (rest := []) rfl rfl ⟨Nat.le_of_ble_eq_true rfl, Nat.le_of_ble_eq_true rfl⟩ ⟨Nat.le_refl _, Nat.le_refl _⟩ hl.1 (Nat.le_of_ble_eq_true rfl) dX5_clear_13 (fun M4 H locs hT h => ?_)
  refine lv_aload_n hx hb dX5_clear_16 rfl (lv_at hl 0 rfl) ?_
  refine lv_iconst (v := 0) hx hb dX5_clear_17 (by decide) ?_
  refine fx_putI X h (k := o) (j := 6) (sc_Plans o ho) rfl fl_RX5_30 dX5_clear_18 (fun H locs h => ?_)
  obtain ⟨M5, eM5⟩ : ∃ z : Mm, z = m_up M4 o 6 (0 : Int32) := ⟨_, rfl⟩
  have hT := hT M5 eM5
  rw [← eM5] at h
  refine lv_aload_n hx hb dX5_clear_21 rfl (lv_at hl 0 rfl) ?_
  refine lv_iconst (v := 0) hx hb dX5_clear_22 (by decide) ?_
  refine fx_putI X h (k := o) (j := 7) (sc_Plans o ho) rfl fl_RX5_34 dX5_clear_23 (fun H locs h => ?_)
  obtain ⟨M6, eM6⟩ : ∃ z : Mm, z = m_up M5 o 7 (0 : Int32) := ⟨_, rfl⟩
  have hT := hT M6 eM6
  rw [← eM6] at h
  refine lv_aload_n hx hb dX5_clear_26 rfl (lv_at hl 0 rfl) ?_
  refine lv_iconst (v := 0) hx hb dX5_clear_27 (by decide) ?_
  refine fx_putI X h (k := o) (j := 8) (sc_Plans o ho) rfl fl_RX5_37 dX5_clear_28 (fun H locs h => ?_)
  obtain ⟨M7, eM7⟩ : ∃ z : Mm, z = m_up M6 o 8 (0 : Int32) := ⟨_, rfl⟩
  have hT := hT M7 eM7
  rw [← eM7] at h
  exact fx_vret X hr hk h hT dX5_clear_31
/-! MockParcels$Plans.addFollows(II)V -/
theorem dX5_addFollows_0 : decode cX5_addFollows 0 = .ok (.iload_n 1, 1) := by decide +kernel
theorem dX5_addFollows_1 : decode cX5_addFollows 1 = .ok (.iconst 0, 1) := by decide +kernel
theorem dX5_addFollows_2 : decode cX5_addFollows 2 = .ok (.bipush 7, 2) := by decide +kernel
theorem dX5_addFollows_4 : decode cX5_addFollows 4 = .ok (.invokestatic 44, 3) := by decide +kernel
theorem dX5_addFollows_7 : decode cX5_addFollows 7 = .ok (.ifCond .eq 20, 3) := by decide +kernel
theorem dX5_addFollows_10 : decode cX5_addFollows 10 = .ok (.aload_n 0, 1) := by decide +kernel
theorem dX5_addFollows_11 : decode cX5_addFollows 11 = .ok (.getfield 9, 3) := by decide +kernel
theorem dX5_addFollows_14 : decode cX5_addFollows 14 = .ok (.iload_n 1, 1) := by decide +kernel
theorem dX5_addFollows_15 : decode cX5_addFollows 15 = .ok (.iload_n 2, 1) := by decide +kernel
theorem dX5_addFollows_16 : decode cX5_addFollows 16 = .ok (.iastore, 1) := by decide +kernel
theorem dX5_addFollows_17 : decode cX5_addFollows 17 = .ok (.aload_n 0, 1) := by decide +kernel
theorem dX5_addFollows_18 : decode cX5_addFollows 18 = .ok (.dup, 1) := by decide +kernel
theorem dX5_addFollows_19 : decode cX5_addFollows 19 = .ok (.getfield 30, 3) := by decide +kernel
theorem dX5_addFollows_22 : decode cX5_addFollows 22 = .ok (.iconst 1, 1) := by decide +kernel
theorem dX5_addFollows_23 : decode cX5_addFollows 23 = .ok (.iadd, 1) := by decide +kernel
theorem dX5_addFollows_24 : decode cX5_addFollows 24 = .ok (.putfield 30, 3) := by decide +kernel
theorem dX5_addFollows_27 : decode cX5_addFollows 27 = .ok (.return_, 1) := by decide +kernel
def T_X5_addFollows (o : Nat) (x1 : Int32) (x2 : Int32) (M : Mm) (K : Mm → Prop) : Prop := (T_X11_isWithin x1 (0 : Int32) (7 : Int32) M (fun r3 M2 => ((r3 = 0 → (K M2)) ∧ (¬ r3 = 0 → (vp_in x1 8 ∧ (∀ M5 : Mm, M5 = m_up M2 (rf o 0) (x1).toNatClampNeg x2 → (∀ M7 : Mm, M7 = m_up M5 o 6 ((M5 o 6) + (1 : Int32)) → (K M7))))))))
set_option maxHeartbeats 4000000 in
set_option maxRecDepth 100000 in
theorem c_X5_addFollows (l : Launch) (G : fx_G) {o : Nat} (ho : o ∈ id_Plans) {x1 : Int32} {x2 : Int32} {M : Mm} {K : Mm → Prop} (hT : T_X5_addFollows o x1 x2 M K) : Met l yX5_addFollows (fx_ws yX5_addFollows cX5_addFollows 3 none) (fx_rm (1)) (va_Pc [.ref (G.2.2.2 + o), .int x1, .int x2] (fx_P G SH M)) (va_Qv K (fx_R G SH) (fx_A G)) 0 0 (fx_A G) := by
  refine fx_met (own := RX5) (by decide +kernel) rfl (Nat.le_of_ble_eq_true rfl) (fun p e s m below meth c X hr hk h ls hl => ?_)
  obtain ⟨⟨hx, hb, hml, hown, hts⟩, hK, hQ⟩ := id X
  have hl : lv_has ls 3 [(0, .ref (G.2.2.2 + o)), (1, .int x1), (2, .int x2)] := hl
  unfold T_X5_addFollows at hT
  refine lv_iload_n hx hb dX5_addFollows_0 rfl (lv_at hl 1 rfl) ?_
  refine lv_iconst (v := 0) hx hb dX5_addFollows_1 (by decide) ?_
  refine lv_bipush (v := 7) hx hb dX5_addFollows_2 (by decide) ?_
  refine fx_ni X h ym_X11_isWithin yt_X11_isWithin (nq_RX5_44) (c_X11_isWithin l G hT) (As := [.int x1, .int (0 : Int32), .int (7 : Int32)]) (rest := []) rfl rfl ⟨Nat.le_of_ble_eq_true rfl, Nat.le_of_ble_eq_true rfl⟩ ⟨Nat.le_refl _, Nat.le_refl _⟩ hl.1 (Nat.le_of_ble_eq_true rfl) dX5_addFollows_4 (fun r3 M2 H locs hT h => ?_)
  refine lv_if_eq (tgt := 27) hx hb dX5_addFollows_7 (by decide) (fun hc4 => ?_) (fun hc4 => ?_)
  · have hT := hT.1 hc4
    exact fx_vret X hr hk h hT dX5_addFollows_27
  · have hT := hT.2 hc4
    refine lv_aload_n hx hb dX5_addFollows_10 rfl (lv_at hl 0 rfl) ?_
    refine fx_getR X h (k := o) (j := 0) (r := (rf o 0)) (sc_Plans o ho) rfl fl_RX5_9 dX5_addFollows_11 ?_
    refine lv_iload_n hx hb dX5_addFollows_14 rfl (lv_at hl 1 rfl) ?_
    refine lv_iload_n hx hb dX5_addFollows_15 rfl (lv_at hl 2 rfl) ?_
    obtain ⟨hi6, hT⟩ := hT
    refine fx_iast X h (k := (rf o 0)) (sa_Plans_0 o ho) hi6 dX5_addFollows_16 (fun H locs h => ?_)
    obtain ⟨M5, eM5⟩ : ∃ z : Mm, z = m_up M2 (rf o 0) (x1).toNatClampNeg x2 := ⟨_, rfl⟩
    have hT := hT M5 eM5
    rw [← eM5] at h
    refine lv_aload_n hx hb dX5_addFollows_17 rfl (lv_at hl 0 rfl) ?_
    refine lv_dup hx hb dX5_addFollows_18 rfl ?_
    refine fx_getI X h (k := o) (j := 6) (sc_Plans o ho) rfl fl_RX5_30 dX5_addFollows_19 ?_
    refine lv_iconst (v := 1) hx hb dX5_addFollows_22 (by decide) ?_
    refine lv_iadd hx hb dX5_addFollows_23 ?_
    refine fx_putI X h (k := o) (j := 6) (sc_Plans o ho) rfl fl_RX5_30 dX5_addFollows_24 (fun H locs h => ?_)
    obtain ⟨M7, eM7⟩ : ∃ z : Mm, z = m_up M5 o 6 ((M5 o 6) + (1 : Int32)) := ⟨_, rfl⟩
    have hT := hT M7 eM7
    rw [← eM7] at h
    exact fx_vret X hr hk h hT dX5_addFollows_27
/-! MockParcels$Plans.addWants(III)V -/
theorem dX5_addWants_0 : decode cX5_addWants 0 = .ok (.iload_n 1, 1) := by decide +kernel
theorem dX5_addWants_1 : decode cX5_addWants 1 = .ok (.iconst 0, 1) := by decide +kernel
theorem dX5_addWants_2 : decode cX5_addWants 2 = .ok (.bipush 7, 2) := by decide +kernel
theorem dX5_addWants_4 : decode cX5_addWants 4 = .ok (.invokestatic 44, 3) := by decide +kernel
theorem dX5_addWants_7 : decode cX5_addWants 7 = .ok (.ifCond .eq 35, 3) := by decide +kernel
theorem dX5_addWants_10 : decode cX5_addWants 10 = .ok (.iload_n 2, 1) := by decide +kernel
theorem dX5_addWants_11 : decode cX5_addWants 11 = .ok (.iconst 1, 1) := by decide +kernel
theorem dX5_addWants_12 : decode cX5_addWants 12 = .ok (.bipush 7, 2) := by decide +kernel
theorem dX5_addWants_14 : decode cX5_addWants 14 = .ok (.invokestatic 44, 3) := by decide +kernel
theorem dX5_addWants_17 : decode cX5_addWants 17 = .ok (.ifCond .eq 25, 3) := by decide +kernel
theorem dX5_addWants_20 : decode cX5_addWants 20 = .ok (.aload_n 0, 1) := by decide +kernel
theorem dX5_addWants_21 : decode cX5_addWants 21 = .ok (.getfield 15, 3) := by decide +kernel
theorem dX5_addWants_24 : decode cX5_addWants 24 = .ok (.iload_n 1, 1) := by decide +kernel
theorem dX5_addWants_25 : decode cX5_addWants 25 = .ok (.bipush 8, 2) := by decide +kernel
theorem dX5_addWants_27 : decode cX5_addWants 27 = .ok (.imul, 1) := by decide +kernel
theorem dX5_addWants_28 : decode cX5_addWants 28 = .ok (.iload_n 2, 1) := by decide +kernel
theorem dX5_addWants_29 : decode cX5_addWants 29 = .ok (.iadd, 1) := by decide +kernel
theorem dX5_addWants_30 : decode cX5_addWants 30 = .ok (.iload_n 3, 1) := by decide +kernel
theorem dX5_addWants_31 : decode cX5_addWants 31 = .ok (.iastore, 1) := by decide +kernel
theorem dX5_addWants_32 : decode cX5_addWants 32 = .ok (.aload_n 0, 1) := by decide +kernel
theorem dX5_addWants_33 : decode cX5_addWants 33 = .ok (.dup, 1) := by decide +kernel
theorem dX5_addWants_34 : decode cX5_addWants 34 = .ok (.getfield 34, 3) := by decide +kernel
theorem dX5_addWants_37 : decode cX5_addWants 37 = .ok (.iconst 1, 1) := by decide +kernel
theorem dX5_addWants_38 : decode cX5_addWants 38 = .ok (.iadd, 1) := by decide +kernel
theorem dX5_addWants_39 : decode cX5_addWants 39 = .ok (.putfield 34, 3) := by decide +kernel
theorem dX5_addWants_42 : decode cX5_addWants 42 = .ok (.return_, 1) := by decide +kernel
def T_X5_addWants (o : Nat) (x1 : Int32) (x2 : Int32) (x3 : Int32) (M : Mm) (K : Mm → Prop) : Prop := (T_X11_isWithin x1 (0 : Int32) (7 : Int32) M (fun r3 M2 => ((r3 = 0 → (K M2)) ∧ (¬ r3 = 0 → (T_X11_isWithin x2 (1 : Int32) (7 : Int32) M2 (fun r7 M6 => ((r7 = 0 → (K M6)) ∧ (¬ r7 = 0 → (vp_in ((x1 * (8 : Int32)) + x2) 64 ∧ (∀ M9 : Mm, M9 = m_up M6 (rf o 1) (((x1 * (8 : Int32)) + x2)).toNatClampNeg x3 → (∀ M11 : Mm, M11 = m_up M9 o 7 ((M9 o 7) + (1 : Int32)) → (K M11))))))))))))
set_option maxHeartbeats 4000000 in
set_option maxRecDepth 100000 in
theorem c_X5_addWants (l : Launch) (G : fx_G) {o : Nat} (ho : o ∈ id_Plans) {x1 : Int32} {x2 : Int32} {x3 : Int32} {M : Mm} {K : Mm → Prop} (hT : T_X5_addWants o x1 x2 x3 M K) : Met l yX5_addWants (fx_ws yX5_addWants cX5_addWants 4 none) (fx_rm (1)) (va_Pc [.ref (G.2.2.2 + o), .int x1, .int x2, .int x3] (fx_P G SH M)) (va_Qv K (fx_R G SH) (fx_A G)) 0 0 (fx_A G) := by
  refine fx_met (own := RX5) (by decide +kernel) rfl (Nat.le_of_ble_eq_true rfl) (fun p e s m below meth c X hr hk h ls hl => ?_)
  obtain ⟨⟨hx, hb, hml, hown, hts⟩, hK, hQ⟩ := id X
  have hl : lv_has ls 4 [(0, .ref (G.2.2.2 + o)), (1, .int x1), (2, .int x2), (3, .int x3)] := hl
  unfold T_X5_addWants at hT
  refine lv_iload_n hx hb dX5_addWants_0 rfl (lv_at hl 1 rfl) ?_
  refine lv_iconst (v := 0) hx hb dX5_addWants_1 (by decide) ?_
  refine lv_bipush (v := 7) hx hb dX5_addWants_2 (by decide) ?_
  refine fx_ni X h ym_X11_isWithin yt_X11_isWithin (nq_RX5_44) (c_X11_isWithin l G hT) (As := [.int x1, .int (0 : Int32), .int (7 : Int32)]) (rest := []) rfl rfl ⟨Nat.le_of_ble_eq_true rfl, Nat.le_of_ble_eq_true rfl⟩ ⟨Nat.le_refl _, Nat.le_refl _⟩ hl.1 (Nat.le_of_ble_eq_true rfl) dX5_addWants_4 (fun r3 M2 H locs hT h => ?_)
  refine lv_if_eq (tgt := 42) hx hb dX5_addWants_7 (by decide) (fun hc4 => ?_) (fun hc4 => ?_)
  · have hT := hT.1 hc4
    exact fx_vret X hr hk h hT dX5_addWants_42
  · have hT := hT.2 hc4
    refine lv_iload_n hx hb dX5_addWants_10 rfl (lv_at hl 2 rfl) ?_
    refine lv_iconst (v := 1) hx hb dX5_addWants_11 (by decide) ?_
    refine lv_bipush (v := 7) hx hb dX5_addWants_12 (by decide) ?_
    refine fx_ni X h ym_X11_isWithin yt_X11_isWithin (nq_RX5_44) (c_X11_isWithin l G hT) (As := [.int x2, .int (1 : Int32), .int (7 : Int32)]) (rest := []) rfl rfl ⟨Nat.le_of_ble_eq_true rfl, Nat.le_of_ble_eq_true rfl⟩ ⟨Nat.le_refl _, Nat.le_refl _⟩ hl.1 (Nat.le_of_ble_eq_true rfl) dX5_addWants_14 (fun r7 M6 H locs hT h => ?_)
    refine lv_if_eq (tgt := 42) hx hb dX5_addWants_17 (by decide) (fun hc8 => ?_) (fun hc8 => ?_)
    · have hT := hT.1 hc8
      exact fx_vret X hr hk h hT dX5_addWants_42
    · have hT := hT.2 hc8
      refine lv_aload_n hx hb dX5_addWants_20 rfl (lv_at hl 0 rfl) ?_
      refine fx_getR X h (k := o) (j := 1) (r := (rf o 1)) (sc_Plans o ho) rfl fl_RX5_15 dX5_addWants_21 ?_
      refine lv_iload_n hx hb dX5_addWants_24 rfl (lv_at hl 1 rfl) ?_
      refine lv_bipush (v := 8) hx hb dX5_addWants_25 (by decide) ?_
      refine lv_imul hx hb dX5_addWants_27 ?_
      refine lv_iload_n hx hb dX5_addWants_28 rfl (lv_at hl 2 rfl) ?_
      refine lv_iadd hx hb dX5_addWants_29 ?_
      refine lv_iload_n hx hb dX5_addWants_30 rfl (lv_at hl 3 rfl) ?_
      obtain ⟨hi10, hT⟩ := hT
      refine fx_iast X h (k := (rf o 1)) (sa_Plans_1 o ho) hi10 dX5_addWants_31 (fun H locs h => ?_)
      obtain ⟨M9, eM9⟩ : ∃ z : Mm, z = m_up M6 (rf o 1) (((x1 * (8 : Int32)) + x2)).toNatClampNeg x3 := ⟨_, rfl⟩
      have hT := hT M9 eM9
      rw [← eM9] at h
      refine lv_aload_n hx hb dX5_addWants_32 rfl (lv_at hl 0 rfl) ?_
      refine lv_dup hx hb dX5_addWants_33 rfl ?_
      refine fx_getI X h (k := o) (j := 7) (sc_Plans o ho) rfl fl_RX5_34 dX5_addWants_34 ?_
      refine lv_iconst (v := 1) hx hb dX5_addWants_37 (by decide) ?_
      refine lv_iadd hx hb dX5_addWants_38 ?_
      refine fx_putI X h (k := o) (j := 7) (sc_Plans o ho) rfl fl_RX5_34 dX5_addWants_39 (fun H locs h => ?_)
      obtain ⟨M11, eM11⟩ : ∃ z : Mm, z = m_up M9 o 7 ((M9 o 7) + (1 : Int32)) := ⟨_, rfl⟩
      have hT := hT M11 eM11
      rw [← eM11] at h
      exact fx_vret X hr hk h hT dX5_addWants_42
/-! MockParcels$Plans.addDay(IIII)V -/
theorem dX5_addDay_0 : decode cX5_addDay 0 = .ok (.aload_n 0, 1) := by decide +kernel
theorem dX5_addDay_1 : decode cX5_addDay 1 = .ok (.getfield 37, 3) := by decide +kernel
theorem dX5_addDay_4 : decode cX5_addDay 4 = .ok (.bipush 16, 2) := by decide +kernel
theorem dX5_addDay_6 : decode cX5_addDay 6 = .ok (.if_icmp .ge 54, 3) := by decide +kernel
theorem dX5_addDay_9 : decode cX5_addDay 9 = .ok (.aload_n 0, 1) := by decide +kernel
theorem dX5_addDay_10 : decode cX5_addDay 10 = .ok (.getfield 18, 3) := by decide +kernel
theorem dX5_addDay_13 : decode cX5_addDay 13 = .ok (.aload_n 0, 1) := by decide +kernel
theorem dX5_addDay_14 : decode cX5_addDay 14 = .ok (.getfield 37, 3) := by decide +kernel
theorem dX5_addDay_17 : decode cX5_addDay 17 = .ok (.iload_n 1, 1) := by decide +kernel
theorem dX5_addDay_18 : decode cX5_addDay 18 = .ok (.iastore, 1) := by decide +kernel
theorem dX5_addDay_19 : decode cX5_addDay 19 = .ok (.aload_n 0, 1) := by decide +kernel
theorem dX5_addDay_20 : decode cX5_addDay 20 = .ok (.getfield 21, 3) := by decide +kernel
theorem dX5_addDay_23 : decode cX5_addDay 23 = .ok (.aload_n 0, 1) := by decide +kernel
theorem dX5_addDay_24 : decode cX5_addDay 24 = .ok (.getfield 37, 3) := by decide +kernel
theorem dX5_addDay_27 : decode cX5_addDay 27 = .ok (.iload_n 2, 1) := by decide +kernel
theorem dX5_addDay_28 : decode cX5_addDay 28 = .ok (.iastore, 1) := by decide +kernel
theorem dX5_addDay_29 : decode cX5_addDay 29 = .ok (.aload_n 0, 1) := by decide +kernel
theorem dX5_addDay_30 : decode cX5_addDay 30 = .ok (.getfield 24, 3) := by decide +kernel
theorem dX5_addDay_33 : decode cX5_addDay 33 = .ok (.aload_n 0, 1) := by decide +kernel
theorem dX5_addDay_34 : decode cX5_addDay 34 = .ok (.getfield 37, 3) := by decide +kernel
theorem dX5_addDay_37 : decode cX5_addDay 37 = .ok (.iload_n 3, 1) := by decide +kernel
theorem dX5_addDay_38 : decode cX5_addDay 38 = .ok (.iastore, 1) := by decide +kernel
theorem dX5_addDay_39 : decode cX5_addDay 39 = .ok (.aload_n 0, 1) := by decide +kernel
theorem dX5_addDay_40 : decode cX5_addDay 40 = .ok (.getfield 27, 3) := by decide +kernel
theorem dX5_addDay_43 : decode cX5_addDay 43 = .ok (.aload_n 0, 1) := by decide +kernel
theorem dX5_addDay_44 : decode cX5_addDay 44 = .ok (.getfield 37, 3) := by decide +kernel
theorem dX5_addDay_47 : decode cX5_addDay 47 = .ok (.iload 4, 2) := by decide +kernel
theorem dX5_addDay_49 : decode cX5_addDay 49 = .ok (.iastore, 1) := by decide +kernel
theorem dX5_addDay_50 : decode cX5_addDay 50 = .ok (.aload_n 0, 1) := by decide +kernel
theorem dX5_addDay_51 : decode cX5_addDay 51 = .ok (.dup, 1) := by decide +kernel
theorem dX5_addDay_52 : decode cX5_addDay 52 = .ok (.getfield 37, 3) := by decide +kernel
theorem dX5_addDay_55 : decode cX5_addDay 55 = .ok (.iconst 1, 1) := by decide +kernel
theorem dX5_addDay_56 : decode cX5_addDay 56 = .ok (.iadd, 1) := by decide +kernel
theorem dX5_addDay_57 : decode cX5_addDay 57 = .ok (.putfield 37, 3) := by decide +kernel
theorem dX5_addDay_60 : decode cX5_addDay 60 = .ok (.return_, 1) := by decide +kernel
def T_X5_addDay (o : Nat) (x1 : Int32) (x2 : Int32) (x3 : Int32) (x4 : Int32) (M : Mm) (K : Mm → Prop) : Prop := (((16 : Int32) ≤ (M o 8) → (K M)) ∧ (¬ (16 : Int32) ≤ (M o 8) → (vp_in (M o 8) 16 ∧ (∀ M2 : Mm, M2 = m_up M (rf o 2) ((M o 8)).toNatClampNeg x1 → (vp_in (M2 o 8) 16 ∧ (∀ M4 : Mm, M4 = m_up M2 (rf o 3) ((M2 o 8)).toNatClampNeg x2 → (vp_in (M4 o 8) 16 ∧ (∀ M6 : Mm, M6 = m_up M4 (rf o 4) ((M4 o 8)).toNatClampNeg x3 → (vp_in (M6 o 8) 16 ∧ (∀ M8 : Mm, M8 = m_up M6 (rf o 5) ((M6 o 8)).toNatClampNeg x4 → (∀ M10 : Mm, M10 = m_up M8 o 8 ((M8 o 8) + (1 : Int32)) → (K M10))))))))))))
set_option maxHeartbeats 4000000 in
set_option maxRecDepth 100000 in
theorem c_X5_addDay (l : Launch) (G : fx_G) {o : Nat} (ho : o ∈ id_Plans) {x1 : Int32} {x2 : Int32} {x3 : Int32} {x4 : Int32} {M : Mm} {K : Mm → Prop} (hT : T_X5_addDay o x1 x2 x3 x4 M K) : Met l yX5_addDay (fx_ws yX5_addDay cX5_addDay 5 none) (fx_rm (0)) (va_Pc [.ref (G.2.2.2 + o), .int x1, .int x2, .int x3, .int x4] (fx_P G SH M)) (va_Qv K (fx_R G SH) (fx_A G)) 0 0 (fx_A G) := by
  refine fx_met (own := RX5) (by decide +kernel) rfl (Nat.le_of_ble_eq_true rfl) (fun p e s m below meth c X hr hk h ls hl => ?_)
  obtain ⟨⟨hx, hb, hml, hown, hts⟩, hK, hQ⟩ := id X
  have hl : lv_has ls 5 [(0, .ref (G.2.2.2 + o)), (1, .int x1), (2, .int x2), (3, .int x3), (4, .int x4)] := hl
  unfold T_X5_addDay at hT
  refine lv_aload_n hx hb dX5_addDay_0 rfl (lv_at hl 0 rfl) ?_
  refine fx_getI X h (k := o) (j := 8) (sc_Plans o ho) rfl fl_RX5_37 dX5_addDay_1 ?_
  refine lv_bipush (v := 16) hx hb dX5_addDay_4 (by decide) ?_
  refine lv_icmp_ge (tgt := 60) hx hb dX5_addDay_6 (by decide) (fun hc1 => ?_) (fun hc1 => ?_)
  · have hT := hT.1 hc1
    exact fx_vret X hr hk h hT dX5_addDay_60
  · have hT := hT.2 hc1
    refine lv_aload_n hx hb dX5_addDay_9 rfl (lv_at hl 0 rfl) ?_
    refine fx_getR X h (k := o) (j := 2) (r := (rf o 2)) (sc_Plans o ho) rfl fl_RX5_18 dX5_addDay_10 ?_
    refine lv_aload_n hx hb dX5_addDay_13 rfl (lv_at hl 0 rfl) ?_
    refine fx_getI X h (k := o) (j := 8) (sc_Plans o ho) rfl fl_RX5_37 dX5_addDay_14 ?_
    refine lv_iload_n hx hb dX5_addDay_17 rfl (lv_at hl 1 rfl) ?_
    obtain ⟨hi3, hT⟩ := hT
    refine fx_iast X h (k := (rf o 2)) (sa_Plans_2 o ho) hi3 dX5_addDay_18 (fun H locs h => ?_)
    obtain ⟨M2, eM2⟩ : ∃ z : Mm, z = m_up M (rf o 2) ((M o 8)).toNatClampNeg x1 := ⟨_, rfl⟩
    have hT := hT M2 eM2
    rw [← eM2] at h
    refine lv_aload_n hx hb dX5_addDay_19 rfl (lv_at hl 0 rfl) ?_
    refine fx_getR X h (k := o) (j := 3) (r := (rf o 3)) (sc_Plans o ho) rfl fl_RX5_21 dX5_addDay_20 ?_
    refine lv_aload_n hx hb dX5_addDay_23 rfl (lv_at hl 0 rfl) ?_
    refine fx_getI X h (k := o) (j := 8) (sc_Plans o ho) rfl fl_RX5_37 dX5_addDay_24 ?_
    refine lv_iload_n hx hb dX5_addDay_27 rfl (lv_at hl 2 rfl) ?_
    obtain ⟨hi5, hT⟩ := hT
    refine fx_iast X h (k := (rf o 3)) (sa_Plans_3 o ho) hi5 dX5_addDay_28 (fun H locs h => ?_)
    obtain ⟨M4, eM4⟩ : ∃ z : Mm, z = m_up M2 (rf o 3) ((M2 o 8)).toNatClampNeg x2 := ⟨_, rfl⟩
    have hT := hT M4 eM4
    rw [← eM4] at h
    refine lv_aload_n hx hb dX5_addDay_29 rfl (lv_at hl 0 rfl) ?_
    refine fx_getR X h (k := o) (j := 4) (r := (rf o 4)) (sc_Plans o ho) rfl fl_RX5_24 dX5_addDay_30 ?_
    refine lv_aload_n hx hb dX5_addDay_33 rfl (lv_at hl 0 rfl) ?_
    refine fx_getI X h (k := o) (j := 8) (sc_Plans o ho) rfl fl_RX5_37 dX5_addDay_34 ?_
    refine lv_iload_n hx hb dX5_addDay_37 rfl (lv_at hl 3 rfl) ?_
    obtain ⟨hi7, hT⟩ := hT
    refine fx_iast X h (k := (rf o 4)) (sa_Plans_4 o ho) hi7 dX5_addDay_38 (fun H locs h => ?_)
    obtain ⟨M6, eM6⟩ : ∃ z : Mm, z = m_up M4 (rf o 4) ((M4 o 8)).toNatClampNeg x3 := ⟨_, rfl⟩
    have hT := hT M6 eM6
    rw [← eM6] at h
    refine lv_aload_n hx hb dX5_addDay_39 rfl (lv_at hl 0 rfl) ?_
    refine fx_getR X h (k := o) (j := 5) (r := (rf o 5)) (sc_Plans o ho) rfl fl_RX5_27 dX5_addDay_40 ?_
    refine lv_aload_n hx hb dX5_addDay_43 rfl (lv_at hl 0 rfl) ?_
    refine fx_getI X h (k := o) (j := 8) (sc_Plans o ho) rfl fl_RX5_37 dX5_addDay_44 ?_
    refine lv_iload hx hb dX5_addDay_47 (lv_at hl 4 rfl) ?_
    obtain ⟨hi9, hT⟩ := hT
    refine fx_iast X h (k := (rf o 5)) (sa_Plans_5 o ho) hi9 dX5_addDay_49 (fun H locs h => ?_)
    obtain ⟨M8, eM8⟩ : ∃ z : Mm, z = m_up M6 (rf o 5) ((M6 o 8)).toNatClampNeg x4 := ⟨_, rfl⟩
    have hT := hT M8 eM8
    rw [← eM8] at h
    refine lv_aload_n hx hb dX5_addDay_50 rfl (lv_at hl 0 rfl) ?_
    refine lv_dup hx hb dX5_addDay_51 rfl ?_
    refine fx_getI X h (k := o) (j := 8) (sc_Plans o ho) rfl fl_RX5_37 dX5_addDay_52 ?_
    refine lv_iconst (v := 1) hx hb dX5_addDay_55 (by decide) ?_
    refine lv_iadd hx hb dX5_addDay_56 ?_
    refine fx_putI X h (k := o) (j := 8) (sc_Plans o ho) rfl fl_RX5_37 dX5_addDay_57 (fun H locs h => ?_)
    obtain ⟨M10, eM10⟩ : ∃ z : Mm, z = m_up M8 o 8 ((M8 o 8) + (1 : Int32)) := ⟨_, rfl⟩
    have hT := hT M10 eM10
    rw [← eM10] at h
    exact fx_vret X hr hk h hT dX5_addDay_60
/-! MockParcels$Plans.copyFollows(LMockParcels$Plans;)V -/
theorem dX5_copyFollows_0 : decode cX5_copyFollows 0 = .ok (.aload_n 1, 1) := by decide +kernel
theorem dX5_copyFollows_1 : decode cX5_copyFollows 1 = .ok (.getfield 9, 3) := by decide +kernel
theorem dX5_copyFollows_4 : decode cX5_copyFollows 4 = .ok (.aload_n 0, 1) := by decide +kernel
theorem dX5_copyFollows_5 : decode cX5_copyFollows 5 = .ok (.getfield 9, 3) := by decide +kernel
theorem dX5_copyFollows_8 : decode cX5_copyFollows 8 = .ok (.invokestatic 48, 3) := by decide +kernel
theorem dX5_copyFollows_11 : decode cX5_copyFollows 11 = .ok (.aload_n 0, 1) := by decide +kernel
theorem dX5_copyFollows_12 : decode cX5_copyFollows 12 = .ok (.aload_n 1, 1) := by decide +kernel
theorem dX5_copyFollows_13 : decode cX5_copyFollows 13 = .ok (.getfield 30, 3) := by decide +kernel
theorem dX5_copyFollows_16 : decode cX5_copyFollows 16 = .ok (.putfield 30, 3) := by decide +kernel
theorem dX5_copyFollows_19 : decode cX5_copyFollows 19 = .ok (.return_, 1) := by decide +kernel
def T_X5_copyFollows (o : Nat) (o1 : Nat) (M : Mm) (K : Mm → Prop) : Prop := (T_X11_copyRow (rf o1 0) (rf o 0) M (fun M2 => (∀ M3 : Mm, M3 = m_up M2 o 6 (M2 o1 6) → (K M3))))
set_option maxHeartbeats 4000000 in
set_option maxRecDepth 100000 in
theorem c_X5_copyFollows (l : Launch) (G : fx_G) {o : Nat} {o1 : Nat} (ho : o ∈ id_Plans) (ho1 : o1 ∈ id_Plans) {M : Mm} {K : Mm → Prop} (hT : T_X5_copyFollows o o1 M K) : Met l yX5_copyFollows (fx_ws yX5_copyFollows cX5_copyFollows 2 none) (fx_rm (1)) (va_Pc [.ref (G.2.2.2 + o), .ref (G.2.2.2 + o1)] (fx_P G SH M)) (va_Qv K (fx_R G SH) (fx_A G)) 0 0 (fx_A G) := by
  refine fx_met (own := RX5) (by decide +kernel) rfl (Nat.le_of_ble_eq_true rfl) (fun p e s m below meth c X hr hk h ls hl => ?_)
  obtain ⟨⟨hx, hb, hml, hown, hts⟩, hK, hQ⟩ := id X
  have hl : lv_has ls 2 [(0, .ref (G.2.2.2 + o)), (1, .ref (G.2.2.2 + o1))] := hl
  unfold T_X5_copyFollows at hT
  refine lv_aload_n hx hb dX5_copyFollows_0 rfl (lv_at hl 1 rfl) ?_
  refine fx_getR X h (k := o1) (j := 0) (r := (rf o1 0)) (sc_Plans o1 ho1) rfl fl_RX5_9 dX5_copyFollows_1 ?_
  refine lv_aload_n hx hb dX5_copyFollows_4 rfl (lv_at hl 0 rfl) ?_
  refine fx_getR X h (k := o) (j := 0) (r := (rf o 0)) (sc_Plans o ho) rfl fl_RX5_9 dX5_copyFollows_5 ?_
  refine fx_nv X h ym_X11_copyRow yt_X11_copyRow (nq_RX5_48) (c_X11_copyRow l G (ln_of (sa_Plans_0 o1 ho1)) (ln_of (sa_Plans_0 o ho)) hT) (As := [.ref (G.2.2.2 + (rf o1 0)), .ref (G.2.2.2 + (rf o 0))]) (rest := []) rfl rfl ⟨Nat.le_of_ble_eq_true rfl, Nat.le_of_ble_eq_true rfl⟩ ⟨Nat.le_refl _, Nat.le_refl _⟩ hl.1 (Nat.le_of_ble_eq_true rfl) dX5_copyFollows_8 (fun M2 H locs hT h => ?_)
  refine lv_aload_n hx hb dX5_copyFollows_11 rfl (lv_at hl 0 rfl) ?_
  refine lv_aload_n hx hb dX5_copyFollows_12 rfl (lv_at hl 1 rfl) ?_
  refine fx_getI X h (k := o1) (j := 6) (sc_Plans o1 ho1) rfl fl_RX5_30 dX5_copyFollows_13 ?_
  refine fx_putI X h (k := o) (j := 6) (sc_Plans o ho) rfl fl_RX5_30 dX5_copyFollows_16 (fun H locs h => ?_)
  obtain ⟨M3, eM3⟩ : ∃ z : Mm, z = m_up M2 o 6 (M2 o1 6) := ⟨_, rfl⟩
  have hT := hT M3 eM3
  rw [← eM3] at h
  exact fx_vret X hr hk h hT dX5_copyFollows_19
/-! MockParcels$Plans.copyWants(LMockParcels$Plans;)V -/
theorem dX5_copyWants_0 : decode cX5_copyWants 0 = .ok (.aload_n 1, 1) := by decide +kernel
theorem dX5_copyWants_1 : decode cX5_copyWants 1 = .ok (.getfield 15, 3) := by decide +kernel
theorem dX5_copyWants_4 : decode cX5_copyWants 4 = .ok (.aload_n 0, 1) := by decide +kernel
theorem dX5_copyWants_5 : decode cX5_copyWants 5 = .ok (.getfield 15, 3) := by decide +kernel
theorem dX5_copyWants_8 : decode cX5_copyWants 8 = .ok (.invokestatic 48, 3) := by decide +kernel
theorem dX5_copyWants_11 : decode cX5_copyWants 11 = .ok (.aload_n 0, 1) := by decide +kernel
theorem dX5_copyWants_12 : decode cX5_copyWants 12 = .ok (.aload_n 1, 1) := by decide +kernel
theorem dX5_copyWants_13 : decode cX5_copyWants 13 = .ok (.getfield 34, 3) := by decide +kernel
theorem dX5_copyWants_16 : decode cX5_copyWants 16 = .ok (.putfield 34, 3) := by decide +kernel
theorem dX5_copyWants_19 : decode cX5_copyWants 19 = .ok (.return_, 1) := by decide +kernel
def T_X5_copyWants (o : Nat) (o1 : Nat) (M : Mm) (K : Mm → Prop) : Prop := (T_X11_copyRow (rf o1 1) (rf o 1) M (fun M2 => (∀ M3 : Mm, M3 = m_up M2 o 7 (M2 o1 7) → (K M3))))
set_option maxHeartbeats 4000000 in
set_option maxRecDepth 100000 in
theorem c_X5_copyWants (l : Launch) (G : fx_G) {o : Nat} {o1 : Nat} (ho : o ∈ id_Plans) (ho1 : o1 ∈ id_Plans) {M : Mm} {K : Mm → Prop} (hT : T_X5_copyWants o o1 M K) : Met l yX5_copyWants (fx_ws yX5_copyWants cX5_copyWants 2 none) (fx_rm (1)) (va_Pc [.ref (G.2.2.2 + o), .ref (G.2.2.2 + o1)] (fx_P G SH M)) (va_Qv K (fx_R G SH) (fx_A G)) 0 0 (fx_A G) := by
  refine fx_met (own := RX5) (by decide +kernel) rfl (Nat.le_of_ble_eq_true rfl) (fun p e s m below meth c X hr hk h ls hl => ?_)
  obtain ⟨⟨hx, hb, hml, hown, hts⟩, hK, hQ⟩ := id X
  have hl : lv_has ls 2 [(0, .ref (G.2.2.2 + o)), (1, .ref (G.2.2.2 + o1))] := hl
  unfold T_X5_copyWants at hT
  refine lv_aload_n hx hb dX5_copyWants_0 rfl (lv_at hl 1 rfl) ?_
  refine fx_getR X h (k := o1) (j := 1) (r := (rf o1 1)) (sc_Plans o1 ho1) rfl fl_RX5_15 dX5_copyWants_1 ?_
  refine lv_aload_n hx hb dX5_copyWants_4 rfl (lv_at hl 0 rfl) ?_
  refine fx_getR X h (k := o) (j := 1) (r := (rf o 1)) (sc_Plans o ho) rfl fl_RX5_15 dX5_copyWants_5 ?_
  refine fx_nv X h ym_X11_copyRow yt_X11_copyRow (nq_RX5_48) (c_X11_copyRow l G (ln_of (sa_Plans_1 o1 ho1)) (ln_of (sa_Plans_1 o ho)) hT) (As := [.ref (G.2.2.2 + (rf o1 1)), .ref (G.2.2.2 + (rf o 1))]) (rest := []) rfl rfl ⟨Nat.le_of_ble_eq_true rfl, Nat.le_of_ble_eq_true rfl⟩ ⟨Nat.le_refl _, Nat.le_refl _⟩ hl.1 (Nat.le_of_ble_eq_true rfl) dX5_copyWants_8 (fun M2 H locs hT h => ?_)
  refine lv_aload_n hx hb dX5_copyWants_11 rfl (lv_at hl 0 rfl) ?_
  refine lv_aload_n hx hb dX5_copyWants_12 rfl (lv_at hl 1 rfl) ?_
  refine fx_getI X h (k := o1) (j := 7) (sc_Plans o1 ho1) rfl fl_RX5_34 dX5_copyWants_13 ?_
  refine fx_putI X h (k := o) (j := 7) (sc_Plans o ho) rfl fl_RX5_34 dX5_copyWants_16 (fun H locs h => ?_)
  obtain ⟨M3, eM3⟩ : ∃ z : Mm, z = m_up M2 o 7 (M2 o1 7) := ⟨_, rfl⟩
  have hT := hT M3 eM3
  rw [← eM3] at h
  exact fx_vret X hr hk h hT dX5_copyWants_19
/-! MockParcels$Plans.copyWeek(LMockParcels$Plans;)V -/
theorem dX5_copyWeek_0 : decode cX5_copyWeek 0 = .ok (.aload_n 1, 1) := by decide +kernel
theorem dX5_copyWeek_1 : decode cX5_copyWeek 1 = .ok (.getfield 18, 3) := by decide +kernel
theorem dX5_copyWeek_4 : decode cX5_copyWeek 4 = .ok (.aload_n 0, 1) := by decide +kernel
theorem dX5_copyWeek_5 : decode cX5_copyWeek 5 = .ok (.getfield 18, 3) := by decide +kernel
theorem dX5_copyWeek_8 : decode cX5_copyWeek 8 = .ok (.invokestatic 48, 3) := by decide +kernel
theorem dX5_copyWeek_11 : decode cX5_copyWeek 11 = .ok (.aload_n 1, 1) := by decide +kernel
theorem dX5_copyWeek_12 : decode cX5_copyWeek 12 = .ok (.getfield 21, 3) := by decide +kernel
theorem dX5_copyWeek_15 : decode cX5_copyWeek 15 = .ok (.aload_n 0, 1) := by decide +kernel
theorem dX5_copyWeek_16 : decode cX5_copyWeek 16 = .ok (.getfield 21, 3) := by decide +kernel
theorem dX5_copyWeek_19 : decode cX5_copyWeek 19 = .ok (.invokestatic 48, 3) := by decide +kernel
theorem dX5_copyWeek_22 : decode cX5_copyWeek 22 = .ok (.aload_n 1, 1) := by decide +kernel
theorem dX5_copyWeek_23 : decode cX5_copyWeek 23 = .ok (.getfield 24, 3) := by decide +kernel
theorem dX5_copyWeek_26 : decode cX5_copyWeek 26 = .ok (.aload_n 0, 1) := by decide +kernel
theorem dX5_copyWeek_27 : decode cX5_copyWeek 27 = .ok (.getfield 24, 3) := by decide +kernel
theorem dX5_copyWeek_30 : decode cX5_copyWeek 30 = .ok (.invokestatic 48, 3) := by decide +kernel
theorem dX5_copyWeek_33 : decode cX5_copyWeek 33 = .ok (.aload_n 1, 1) := by decide +kernel
theorem dX5_copyWeek_34 : decode cX5_copyWeek 34 = .ok (.getfield 27, 3) := by decide +kernel
theorem dX5_copyWeek_37 : decode cX5_copyWeek 37 = .ok (.aload_n 0, 1) := by decide +kernel
theorem dX5_copyWeek_38 : decode cX5_copyWeek 38 = .ok (.getfield 27, 3) := by decide +kernel
theorem dX5_copyWeek_41 : decode cX5_copyWeek 41 = .ok (.invokestatic 48, 3) := by decide +kernel
theorem dX5_copyWeek_44 : decode cX5_copyWeek 44 = .ok (.aload_n 0, 1) := by decide +kernel
theorem dX5_copyWeek_45 : decode cX5_copyWeek 45 = .ok (.aload_n 1, 1) := by decide +kernel
theorem dX5_copyWeek_46 : decode cX5_copyWeek 46 = .ok (.getfield 37, 3) := by decide +kernel
theorem dX5_copyWeek_49 : decode cX5_copyWeek 49 = .ok (.putfield 37, 3) := by decide +kernel
theorem dX5_copyWeek_52 : decode cX5_copyWeek 52 = .ok (.return_, 1) := by decide +kernel
def T_X5_copyWeek (o : Nat) (o1 : Nat) (M : Mm) (K : Mm → Prop) : Prop := (T_X11_copyRow (rf o1 2) (rf o 2) M (fun M2 => (T_X11_copyRow (rf o1 3) (rf o 3) M2 (fun M4 => (T_X11_copyRow (rf o1 4) (rf o 4) M4 (fun M6 => (T_X11_copyRow (rf o1 5) (rf o 5) M6 (fun M8 => (∀ M9 : Mm, M9 = m_up M8 o 8 (M8 o1 8) → (K M9))))))))))
set_option maxHeartbeats 4000000 in
set_option maxRecDepth 100000 in
theorem c_X5_copyWeek (l : Launch) (G : fx_G) {o : Nat} {o1 : Nat} (ho : o ∈ id_Plans) (ho1 : o1 ∈ id_Plans) {M : Mm} {K : Mm → Prop} (hT : T_X5_copyWeek o o1 M K) : Met l yX5_copyWeek (fx_ws yX5_copyWeek cX5_copyWeek 2 none) (fx_rm (1)) (va_Pc [.ref (G.2.2.2 + o), .ref (G.2.2.2 + o1)] (fx_P G SH M)) (va_Qv K (fx_R G SH) (fx_A G)) 0 0 (fx_A G) := by
  refine fx_met (own := RX5) (by decide +kernel) rfl (Nat.le_of_ble_eq_true rfl) (fun p e s m below meth c X hr hk h ls hl => ?_)
  obtain ⟨⟨hx, hb, hml, hown, hts⟩, hK, hQ⟩ := id X
  have hl : lv_has ls 2 [(0, .ref (G.2.2.2 + o)), (1, .ref (G.2.2.2 + o1))] := hl
  unfold T_X5_copyWeek at hT
  refine lv_aload_n hx hb dX5_copyWeek_0 rfl (lv_at hl 1 rfl) ?_
  refine fx_getR X h (k := o1) (j := 2) (r := (rf o1 2)) (sc_Plans o1 ho1) rfl fl_RX5_18 dX5_copyWeek_1 ?_
  refine lv_aload_n hx hb dX5_copyWeek_4 rfl (lv_at hl 0 rfl) ?_
  refine fx_getR X h (k := o) (j := 2) (r := (rf o 2)) (sc_Plans o ho) rfl fl_RX5_18 dX5_copyWeek_5 ?_
  refine fx_nv X h ym_X11_copyRow yt_X11_copyRow (nq_RX5_48) (c_X11_copyRow l G (ln_of (sa_Plans_2 o1 ho1)) (ln_of (sa_Plans_2 o ho)) hT) (As := [.ref (G.2.2.2 + (rf o1 2)), .ref (G.2.2.2 + (rf o 2))]) (rest := []) rfl rfl ⟨Nat.le_of_ble_eq_true rfl, Nat.le_of_ble_eq_true rfl⟩ ⟨Nat.le_refl _, Nat.le_refl _⟩ hl.1 (Nat.le_of_ble_eq_true rfl) dX5_copyWeek_8 (fun M2 H locs hT h => ?_)
  refine lv_aload_n hx hb dX5_copyWeek_11 rfl (lv_at hl 1 rfl) ?_
  refine fx_getR X h (k := o1) (j := 3) (r := (rf o1 3)) (sc_Plans o1 ho1) rfl fl_RX5_21 dX5_copyWeek_12 ?_
  refine lv_aload_n hx hb dX5_copyWeek_15 rfl (lv_at hl 0 rfl) ?_
  refine fx_getR X h (k := o) (j := 3) (r := (rf o 3)) (sc_Plans o ho) rfl fl_RX5_21 dX5_copyWeek_16 ?_
  refine fx_nv X h ym_X11_copyRow yt_X11_copyRow (nq_RX5_48) (c_X11_copyRow l G (ln_of (sa_Plans_3 o1 ho1)) (ln_of (sa_Plans_3 o ho)) hT) (As := [.ref (G.2.2.2 + (rf o1 3)), .ref (G.2.2.2 + (rf o 3))]) (rest := []) rfl rfl ⟨Nat.le_of_ble_eq_true rfl, Nat.le_of_ble_eq_true rfl⟩ ⟨Nat.le_refl _, Nat.le_refl _⟩ hl.1 (Nat.le_of_ble_eq_true rfl) dX5_copyWeek_19 (fun M4 H locs hT h => ?_)
  refine lv_aload_n hx hb dX5_copyWeek_22 rfl (lv_at hl 1 rfl) ?_
  refine fx_getR X h (k := o1) (j := 4) (r := (rf o1 4)) (sc_Plans o1 ho1) rfl fl_RX5_24 dX5_copyWeek_23 ?_
  refine lv_aload_n hx hb dX5_copyWeek_26 rfl (lv_at hl 0 rfl) ?_
  refine fx_getR X h (k := o) (j := 4) (r := (rf o 4)) (sc_Plans o ho) rfl fl_RX5_24 dX5_copyWeek_27 ?_
  refine fx_nv X h ym_X11_copyRow yt_X11_copyRow (nq_RX5_48) (c_X11_copyRow l G (ln_of (sa_Plans_4 o1 ho1)) (ln_of (sa_Plans_4 o ho)) hT) (As := [.ref (G.2.2.2 + (rf o1 4)), .ref (G.2.2.2 + (rf o 4))]) (rest := []) rfl rfl ⟨Nat.le_of_ble_eq_true rfl, Nat.le_of_ble_eq_true rfl⟩ ⟨Nat.le_refl _, Nat.le_refl _⟩ hl.1 (Nat.le_of_ble_eq_true rfl) dX5_copyWeek_30 (fun M6 H locs hT h => ?_)
  refine lv_aload_n hx hb dX5_copyWeek_33 rfl (lv_at hl 1 rfl) ?_
  refine fx_getR X h (k := o1) (j := 5) (r := (rf o1 5)) (sc_Plans o1 ho1) rfl fl_RX5_27 dX5_copyWeek_34 ?_
  refine lv_aload_n hx hb dX5_copyWeek_37 rfl (lv_at hl 0 rfl) ?_
  refine fx_getR X h (k := o) (j := 5) (r := (rf o 5)) (sc_Plans o ho) rfl fl_RX5_27 dX5_copyWeek_38 ?_
  refine fx_nv X h ym_X11_copyRow yt_X11_copyRow (nq_RX5_48) (c_X11_copyRow l G (ln_of (sa_Plans_5 o1 ho1)) (ln_of (sa_Plans_5 o ho)) hT) (As := [.ref (G.2.2.2 + (rf o1 5)), .ref (G.2.2.2 + (rf o 5))]) (rest := []) rfl rfl ⟨Nat.le_of_ble_eq_true rfl, Nat.le_of_ble_eq_true rfl⟩ ⟨Nat.le_refl _, Nat.le_refl _⟩ hl.1 (Nat.le_of_ble_eq_true rfl) dX5_copyWeek_41 (fun M8 H locs hT h => ?_)
  refine lv_aload_n hx hb dX5_copyWeek_44 rfl (lv_at hl 0 rfl) ?_
  refine lv_aload_n hx hb dX5_copyWeek_45 rfl (lv_at hl 1 rfl) ?_
  refine fx_getI X h (k := o1) (j := 8) (sc_Plans o1 ho1) rfl fl_RX5_37 dX5_copyWeek_46 ?_
  refine fx_putI X h (k := o) (j := 8) (sc_Plans o ho) rfl fl_RX5_37 dX5_copyWeek_49 (fun H locs h => ?_)
  obtain ⟨M9, eM9⟩ : ∃ z : Mm, z = m_up M8 o 8 (M8 o1 8) := ⟨_, rfl⟩
  have hT := hT M9 eM9
  rw [← eM9] at h
  exact fx_vret X hr hk h hT dX5_copyWeek_52
/-! MockParcels$Told.hasCoin(I)Z -/
theorem dX9_hasCoin_0 : decode cX9_hasCoin 0 = .ok (.iconst 0, 1) := by decide +kernel
theorem dX9_hasCoin_1 : decode cX9_hasCoin 1 = .ok (.istore_n 2, 1) := by decide +kernel
theorem dX9_hasCoin_2 : decode cX9_hasCoin 2 = .ok (.iload_n 2, 1) := by decide +kernel
theorem dX9_hasCoin_3 : decode cX9_hasCoin 3 = .ok (.aload_n 0, 1) := by decide +kernel
theorem dX9_hasCoin_4 : decode cX9_hasCoin 4 = .ok (.getfield 43, 3) := by decide +kernel
theorem dX9_hasCoin_7 : decode cX9_hasCoin 7 = .ok (.if_icmp .ge 27, 3) := by decide +kernel
theorem dX9_hasCoin_10 : decode cX9_hasCoin 10 = .ok (.iload_n 2, 1) := by decide +kernel
theorem dX9_hasCoin_11 : decode cX9_hasCoin 11 = .ok (.bipush 6, 2) := by decide +kernel
theorem dX9_hasCoin_13 : decode cX9_hasCoin 13 = .ok (.if_icmp .ge 21, 3) := by decide +kernel
theorem dX9_hasCoin_16 : decode cX9_hasCoin 16 = .ok (.aload_n 0, 1) := by decide +kernel
theorem dX9_hasCoin_17 : decode cX9_hasCoin 17 = .ok (.getfield 18, 3) := by decide +kernel
theorem dX9_hasCoin_20 : decode cX9_hasCoin 20 = .ok (.iload_n 2, 1) := by decide +kernel
theorem dX9_hasCoin_21 : decode cX9_hasCoin 21 = .ok (.iaload, 1) := by decide +kernel
theorem dX9_hasCoin_22 : decode cX9_hasCoin 22 = .ok (.iload_n 1, 1) := by decide +kernel
theorem dX9_hasCoin_23 : decode cX9_hasCoin 23 = .ok (.if_icmp .ne 5, 3) := by decide +kernel
theorem dX9_hasCoin_26 : decode cX9_hasCoin 26 = .ok (.iconst 1, 1) := by decide +kernel
theorem dX9_hasCoin_27 : decode cX9_hasCoin 27 = .ok (.ireturn, 1) := by decide +kernel
theorem dX9_hasCoin_28 : decode cX9_hasCoin 28 = .ok (.iinc 2 1, 3) := by decide +kernel
theorem dX9_hasCoin_31 : decode cX9_hasCoin 31 = .ok (.goto (-29), 3) := by decide +kernel
theorem dX9_hasCoin_34 : decode cX9_hasCoin 34 = .ok (.iconst 0, 1) := by decide +kernel
theorem dX9_hasCoin_35 : decode cX9_hasCoin 35 = .ok (.ireturn, 1) := by decide +kernel
def T_X9_hasCoin_2 (o : Nat) : Nat → Int32 → Int32 → Mm → (Int32 → Mm → Prop) → Prop
  | 0, _, _, _, _ => False
  | n + 1, x1, x2, M, K => (((M o 10) ≤ x2 → (K (0 : Int32) M)) ∧ (¬ (M o 10) ≤ x2 → (((6 : Int32) ≤ x2 → (K (0 : Int32) M)) ∧ (¬ (6 : Int32) ≤ x2 → (vp_in x2 6 ∧ (((M (rf o 2) (x2).toNatClampNeg) = x1 → (K (1 : Int32) M)) ∧ (¬ (M (rf o 2) (x2).toNatClampNeg) = x1 → (∀ y5 : Int32, y5 = x2 + (1 : Int32) → (T_X9_hasCoin_2 o n x1 y5 M K)))))))))
set_option maxHeartbeats 4000000 in
set_option maxRecDepth 100000 in
theorem w_X9_hasCoin_2 {p : Program} {l : Launch} {e : Env} {s : State} {m : MethodId} {args : Array Value} {below : List Frame} {meth : Method} {c : Code} {G : fx_G} {K : Int32 → Mm → Prop} {o : Nat} (ho : o ∈ id_Told) (X : fx_C G p s m c args cX9_hasCoin 3 RX9) (hr : meth.sig.returnType = (some .boolean)) (hk : meth.locks = false) : ∀ (n : Nat) (x1 : Int32) (x2 : Int32) (M : Mm) (H : Heap) (locs : List Loc) (ls : Array Slot), T_X9_hasCoin_2 o n x1 x2 M K → fx_H G SH M s H locs → lv_has ls 3 [(0, .ref (G.2.2.2 + o)), (1, .int x1), (2, .int x2)] → W p l e (fx_rm (0)) s m args below meth c H locs 0 0 (MQ below (va_Qi K (fx_R G SH) (fx_A G)) args s 0 0 (fx_A G)) (F0 m 2 ls []) := by
  obtain ⟨⟨hx, hb, hml, hown, hts⟩, hK, hQ⟩ := id X
  intro n
  induction n with
  | zero =>
    intro x1 x2 M H locs ls hT
    exact hT.elim
  | succ n ih =>
    intro x1 x2 M H locs ls hT h hl
    rw [T_X9_hasCoin_2] at hT
    refine lv_iload_n hx hb dX9_hasCoin_2 rfl (lv_at hl 2 rfl) ?_
    refine lv_aload_n hx hb dX9_hasCoin_3 rfl (lv_at hl 0 rfl) ?_
    refine fx_getI X h (k := o) (j := 10) (sc_Told o ho) rfl fl_RX9_43 dX9_hasCoin_4 ?_
    refine lv_icmp_ge (tgt := 34) hx hb dX9_hasCoin_7 (by decide) (fun hc1 => ?_) (fun hc1 => ?_)
    · have hT := hT.1 hc1
      refine lv_iconst (v := 0) hx hb dX9_hasCoin_34 (by decide) ?_
      exact fx_zret X hr hk h (Or.inl rfl) hT dX9_hasCoin_35
    · have hT := hT.2 hc1
      refine lv_iload_n hx hb dX9_hasCoin_10 rfl (lv_at hl 2 rfl) ?_
      refine lv_bipush (v := 6) hx hb dX9_hasCoin_11 (by decide) ?_
      refine lv_icmp_ge (tgt := 34) hx hb dX9_hasCoin_13 (by decide) (fun hc2 => ?_) (fun hc2 => ?_)
      · have hT := hT.1 hc2
        refine lv_iconst (v := 0) hx hb dX9_hasCoin_34 (by decide) ?_
        exact fx_zret X hr hk h (Or.inl rfl) hT dX9_hasCoin_35
      · have hT := hT.2 hc2
        refine lv_aload_n hx hb dX9_hasCoin_16 rfl (lv_at hl 0 rfl) ?_
        refine fx_getR X h (k := o) (j := 2) (r := (rf o 2)) (sc_Told o ho) rfl fl_RX9_18 dX9_hasCoin_17 ?_
        refine lv_iload_n hx hb dX9_hasCoin_20 rfl (lv_at hl 2 rfl) ?_
        obtain ⟨hi3, hT⟩ := hT
        refine fx_iald X h (k := (rf o 2)) (sa_Told_2 o ho) hi3 dX9_hasCoin_21 ?_
        refine lv_iload_n hx hb dX9_hasCoin_22 rfl (lv_at hl 1 rfl) ?_
        refine lv_icmp_ne (tgt := 28) hx hb dX9_hasCoin_23 (by decide) (fun hc4 => ?_) (fun hc4 => ?_)
        · have hT := hT.2 hc4
          obtain ⟨y5, ey5⟩ : ∃ z : Int32, z = x2 + (1 : Int32) := ⟨_, rfl⟩
          have hT := hT y5 ey5
          refine lv_iinc (v := y5) (lv' := [(2, .int y5), (0, .ref (G.2.2.2 + o)), (1, .int x1)]) hx hb dX9_hasCoin_28 hl (k := 2) rfl (by rw [ey5]; rfl) (by decide) rfl (fun ls hl => ?_)
          refine lv_goto (tgt := 2) hx hb dX9_hasCoin_31 (by decide) ?_
          exact ih x1 y5 M _ _ ls hT h (lv_sub hl [1, 2, 0] rfl)
        · have hT := hT.1 hc4
          refine lv_iconst (v := 1) hx hb dX9_hasCoin_26 (by decide) ?_
          exact fx_zret X hr hk h (Or.inr rfl) hT dX9_hasCoin_27
def T_X9_hasCoin (o : Nat) (x1 : Int32) (M : Mm) (K : Int32 → Mm → Prop) : Prop := (T_X9_hasCoin_2 o 5000 x1 (0 : Int32) M K)
set_option maxHeartbeats 4000000 in
set_option maxRecDepth 100000 in
theorem c_X9_hasCoin (l : Launch) (G : fx_G) {o : Nat} (ho : o ∈ id_Told) {x1 : Int32} {M : Mm} {K : Int32 → Mm → Prop} (hT : T_X9_hasCoin o x1 M K) : Met l yX9_hasCoin (fx_ws yX9_hasCoin cX9_hasCoin 3 (some .boolean)) (fx_rm (0)) (va_Pc [.ref (G.2.2.2 + o), .int x1] (fx_P G SH M)) (va_Qi K (fx_R G SH) (fx_A G)) 0 0 (fx_A G) := by
  refine fx_met (own := RX9) (by decide +kernel) rfl (Nat.le_of_ble_eq_true rfl) (fun p e s m below meth c X hr hk h ls hl => ?_)
  obtain ⟨⟨hx, hb, hml, hown, hts⟩, hK, hQ⟩ := id X
  have hl : lv_has ls 3 [(0, .ref (G.2.2.2 + o)), (1, .int x1)] := hl
  unfold T_X9_hasCoin at hT
  refine lv_iconst (v := 0) hx hb dX9_hasCoin_0 (by decide) ?_
  refine lv_istore_n (lv' := [(2, .int (0 : Int32)), (0, .ref (G.2.2.2 + o)), (1, .int x1)]) hx hb dX9_hasCoin_1 rfl hl (by decide) rfl (fun ls hl => ?_)
  exact w_X9_hasCoin_2 ho X hr hk 5000 x1 (0 : Int32) M _ _ ls hT h (lv_sub hl [1, 2, 0] rfl)
/-! MockParcels$Told.isRank(I)Z -/
theorem dX9_isRank_0 : decode cX9_isRank 0 = .ok (.iload_n 1, 1) := by decide +kernel
theorem dX9_isRank_1 : decode cX9_isRank 1 = .ok (.ifCond .ge 5, 3) := by decide +kernel
theorem dX9_isRank_4 : decode cX9_isRank 4 = .ok (.iconst 0, 1) := by decide +kernel
theorem dX9_isRank_5 : decode cX9_isRank 5 = .ok (.ireturn, 1) := by decide +kernel
theorem dX9_isRank_6 : decode cX9_isRank 6 = .ok (.iload_n 1, 1) := by decide +kernel
theorem dX9_isRank_7 : decode cX9_isRank 7 = .ok (.istore_n 2, 1) := by decide +kernel
theorem dX9_isRank_8 : decode cX9_isRank 8 = .ok (.iconst 0, 1) := by decide +kernel
theorem dX9_isRank_9 : decode cX9_isRank 9 = .ok (.istore_n 3, 1) := by decide +kernel
theorem dX9_isRank_10 : decode cX9_isRank 10 = .ok (.iconst 0, 1) := by decide +kernel
theorem dX9_isRank_11 : decode cX9_isRank 11 = .ok (.istore 4, 2) := by decide +kernel
theorem dX9_isRank_13 : decode cX9_isRank 13 = .ok (.iload 4, 2) := by decide +kernel
theorem dX9_isRank_15 : decode cX9_isRank 15 = .ok (.bipush 8, 2) := by decide +kernel
theorem dX9_isRank_17 : decode cX9_isRank 17 = .ok (.if_icmp .ge 23, 3) := by decide +kernel
theorem dX9_isRank_20 : decode cX9_isRank 20 = .ok (.iload_n 3, 1) := by decide +kernel
theorem dX9_isRank_21 : decode cX9_isRank 21 = .ok (.iconst 1, 1) := by decide +kernel
theorem dX9_isRank_22 : decode cX9_isRank 22 = .ok (.iload_n 2, 1) := by decide +kernel
theorem dX9_isRank_23 : decode cX9_isRank 23 = .ok (.bipush 10, 2) := by decide +kernel
theorem dX9_isRank_25 : decode cX9_isRank 25 = .ok (.irem, 1) := by decide +kernel
theorem dX9_isRank_26 : decode cX9_isRank 26 = .ok (.ishl, 1) := by decide +kernel
theorem dX9_isRank_27 : decode cX9_isRank 27 = .ok (.ior, 1) := by decide +kernel
theorem dX9_isRank_28 : decode cX9_isRank 28 = .ok (.istore_n 3, 1) := by decide +kernel
theorem dX9_isRank_29 : decode cX9_isRank 29 = .ok (.iload_n 2, 1) := by decide +kernel
theorem dX9_isRank_30 : decode cX9_isRank 30 = .ok (.bipush 10, 2) := by decide +kernel
theorem dX9_isRank_32 : decode cX9_isRank 32 = .ok (.idiv, 1) := by decide +kernel
theorem dX9_isRank_33 : decode cX9_isRank 33 = .ok (.istore_n 2, 1) := by decide +kernel
theorem dX9_isRank_34 : decode cX9_isRank 34 = .ok (.iinc 4 1, 3) := by decide +kernel
theorem dX9_isRank_37 : decode cX9_isRank 37 = .ok (.goto (-24), 3) := by decide +kernel
theorem dX9_isRank_40 : decode cX9_isRank 40 = .ok (.iload_n 2, 1) := by decide +kernel
theorem dX9_isRank_41 : decode cX9_isRank 41 = .ok (.ifCond .ne 14, 3) := by decide +kernel
theorem dX9_isRank_44 : decode cX9_isRank 44 = .ok (.iload_n 3, 1) := by decide +kernel
theorem dX9_isRank_45 : decode cX9_isRank 45 = .ok (.sipush 255, 3) := by decide +kernel
theorem dX9_isRank_48 : decode cX9_isRank 48 = .ok (.if_icmp .ne 7, 3) := by decide +kernel
theorem dX9_isRank_51 : decode cX9_isRank 51 = .ok (.iconst 1, 1) := by decide +kernel
theorem dX9_isRank_52 : decode cX9_isRank 52 = .ok (.goto 4, 3) := by decide +kernel
theorem dX9_isRank_55 : decode cX9_isRank 55 = .ok (.iconst 0, 1) := by decide +kernel
theorem dX9_isRank_56 : decode cX9_isRank 56 = .ok (.ireturn, 1) := by decide +kernel
def T_X9_isRank_13 (o : Nat) : Nat → Int32 → Int32 → Int32 → Mm → (Int32 → Mm → Prop) → Prop
  | 0, _, _, _, _, _ => False
  | n + 1, x2, x3, x4, M, K => (((8 : Int32) ≤ x4 → ((x2 = 0 → ((x3 = (255 : Int32) → (K (1 : Int32) M)) ∧ (¬ x3 = (255 : Int32) → (K (0 : Int32) M)))) ∧ (¬ x2 = 0 → (K (0 : Int32) M)))) ∧ (¬ (8 : Int32) ≤ x4 → (∀ y4 : Int32, y4 = (x3 ||| ((1 : Int32) <<< ((x2 - x2 / (10 : Int32) * (10 : Int32)) &&& 31))) → (∀ y5 : Int32, y5 = (x2 / (10 : Int32)) → (∀ y6 : Int32, y6 = x4 + (1 : Int32) → (T_X9_isRank_13 o n y5 y4 y6 M K))))))
set_option maxHeartbeats 4000000 in
set_option maxRecDepth 100000 in
theorem w_X9_isRank_13 {p : Program} {l : Launch} {e : Env} {s : State} {m : MethodId} {args : Array Value} {below : List Frame} {meth : Method} {c : Code} {G : fx_G} {K : Int32 → Mm → Prop} {o : Nat} (ho : o ∈ id_Told) (X : fx_C G p s m c args cX9_isRank 5 RX9) (hr : meth.sig.returnType = (some .boolean)) (hk : meth.locks = false) : ∀ (n : Nat) (x2 : Int32) (x3 : Int32) (x4 : Int32) (M : Mm) (H : Heap) (locs : List Loc) (ls : Array Slot), T_X9_isRank_13 o n x2 x3 x4 M K → fx_H G SH M s H locs → lv_has ls 5 [(2, .int x2), (3, .int x3), (4, .int x4)] → W p l e (fx_rm (0)) s m args below meth c H locs 0 0 (MQ below (va_Qi K (fx_R G SH) (fx_A G)) args s 0 0 (fx_A G)) (F0 m 13 ls []) := by
  obtain ⟨⟨hx, hb, hml, hown, hts⟩, hK, hQ⟩ := id X
  intro n
  induction n with
  | zero =>
    intro x2 x3 x4 M H locs ls hT
    exact hT.elim
  | succ n ih =>
    intro x2 x3 x4 M H locs ls hT h hl
    rw [T_X9_isRank_13] at hT
    refine lv_iload hx hb dX9_isRank_13 (lv_at hl 2 rfl) ?_
    refine lv_bipush (v := 8) hx hb dX9_isRank_15 (by decide) ?_
    refine lv_icmp_ge (tgt := 40) hx hb dX9_isRank_17 (by decide) (fun hc1 => ?_) (fun hc1 => ?_)
    · have hT := hT.1 hc1
      refine lv_iload_n hx hb dX9_isRank_40 rfl (lv_at hl 0 rfl) ?_
      refine lv_if_ne (tgt := 55) hx hb dX9_isRank_41 (by decide) (fun hc2 => ?_) (fun hc2 => ?_)
      · have hT := hT.2 hc2
        refine lv_iconst (v := 0) hx hb dX9_isRank_55 (by decide) ?_
        exact fx_zret X hr hk h (Or.inl rfl) hT dX9_isRank_56
      · have hT := hT.1 hc2
        refine lv_iload_n hx hb dX9_isRank_44 rfl (lv_at hl 1 rfl) ?_
        refine lv_sipush (v := 255) hx hb dX9_isRank_45 (by decide) ?_
        refine lv_icmp_ne (tgt := 55) hx hb dX9_isRank_48 (by decide) (fun hc3 => ?_) (fun hc3 => ?_)
        · have hT := hT.2 hc3
          refine lv_iconst (v := 0) hx hb dX9_isRank_55 (by decide) ?_
          exact fx_zret X hr hk h (Or.inl rfl) hT dX9_isRank_56
        · have hT := hT.1 hc3
          refine lv_iconst (v := 1) hx hb dX9_isRank_51 (by decide) ?_
          refine lv_goto (tgt := 56) hx hb dX9_isRank_52 (by decide) ?_
          exact fx_zret X hr hk h (Or.inr rfl) hT dX9_isRank_56
    · have hT := hT.2 hc1
      refine lv_iload_n hx hb dX9_isRank_20 rfl (lv_at hl 1 rfl) ?_
      refine lv_iconst (v := 1) hx hb dX9_isRank_21 (by decide) ?_
      refine lv_iload_n hx hb dX9_isRank_22 rfl (lv_at hl 0 rfl) ?_
      refine lv_bipush (v := 10) hx hb dX9_isRank_23 (by decide) ?_
      refine lv_irem hx hb dX9_isRank_25 (by decide) ?_
      refine lv_ishl hx hb dX9_isRank_26 ?_
      refine lv_ior hx hb dX9_isRank_27 ?_
      refine lv_topi (fun y4 ey4 => ?_)
      have hT := hT y4 ey4
      refine lv_istore_n (lv' := [(3, .int y4), (2, .int x2), (4, .int x4)]) hx hb dX9_isRank_28 rfl hl (by decide) rfl (fun ls hl => ?_)
      refine lv_iload_n hx hb dX9_isRank_29 rfl (lv_at hl 1 rfl) ?_
      refine lv_bipush (v := 10) hx hb dX9_isRank_30 (by decide) ?_
      refine lv_idiv hx hb dX9_isRank_32 (by decide) ?_
      refine lv_topi (fun y5 ey5 => ?_)
      have hT := hT y5 ey5
      refine lv_istore_n (lv' := [(2, .int y5), (3, .int y4), (4, .int x4)]) hx hb dX9_isRank_33 rfl hl (by decide) rfl (fun ls hl => ?_)
      obtain ⟨y6, ey6⟩ : ∃ z : Int32, z = x4 + (1 : Int32) := ⟨_, rfl⟩
      have hT := hT y6 ey6
      refine lv_iinc (v := y6) (lv' := [(4, .int y6), (2, .int y5), (3, .int y4)]) hx hb dX9_isRank_34 hl (k := 2) rfl (by rw [ey6]; rfl) (by decide) rfl (fun ls hl => ?_)
      refine lv_goto (tgt := 13) hx hb dX9_isRank_37 (by decide) ?_
      exact ih y5 y4 y6 M _ _ ls hT h (lv_sub hl [1, 2, 0] rfl)
def T_X9_isRank (o : Nat) (x1 : Int32) (M : Mm) (K : Int32 → Mm → Prop) : Prop := ((0 ≤ x1 → (T_X9_isRank_13 o 5000 x1 (0 : Int32) (0 : Int32) M K)) ∧ (¬ 0 ≤ x1 → (K (0 : Int32) M)))
set_option maxHeartbeats 4000000 in
set_option maxRecDepth 100000 in
theorem c_X9_isRank (l : Launch) (G : fx_G) {o : Nat} (ho : o ∈ id_Told) {x1 : Int32} {M : Mm} {K : Int32 → Mm → Prop} (hT : T_X9_isRank o x1 M K) : Met l yX9_isRank (fx_ws yX9_isRank cX9_isRank 5 (some .boolean)) (fx_rm (0)) (va_Pc [.ref (G.2.2.2 + o), .int x1] (fx_P G SH M)) (va_Qi K (fx_R G SH) (fx_A G)) 0 0 (fx_A G) := by
  refine fx_met (own := RX9) (by decide +kernel) rfl (Nat.le_of_ble_eq_true rfl) (fun p e s m below meth c X hr hk h ls hl => ?_)
  obtain ⟨⟨hx, hb, hml, hown, hts⟩, hK, hQ⟩ := id X
  have hl : lv_has ls 5 [(0, .ref (G.2.2.2 + o)), (1, .int x1)] := hl
  unfold T_X9_isRank at hT
  refine lv_iload_n hx hb dX9_isRank_0 rfl (lv_at hl 1 rfl) ?_
  refine lv_if_ge (tgt := 6) hx hb dX9_isRank_1 (by decide) (fun hc7 => ?_) (fun hc7 => ?_)
  · have hT := hT.1 hc7
    refine lv_iload_n hx hb dX9_isRank_6 rfl (lv_at hl 1 rfl) ?_
    refine lv_istore_n (lv' := [(2, .int x1), (0, .ref (G.2.2.2 + o)), (1, .int x1)]) hx hb dX9_isRank_7 rfl hl (by decide) rfl (fun ls hl => ?_)
    refine lv_iconst (v := 0) hx hb dX9_isRank_8 (by decide) ?_
    refine lv_istore_n (lv' := [(3, .int (0 : Int32)), (2, .int x1), (0, .ref (G.2.2.2 + o)), (1, .int x1)]) hx hb dX9_isRank_9 rfl hl (by decide) rfl (fun ls hl => ?_)
    refine lv_iconst (v := 0) hx hb dX9_isRank_10 (by decide) ?_
    refine lv_istore (lv' := [(4, .int (0 : Int32)), (3, .int (0 : Int32)), (2, .int x1), (0, .ref (G.2.2.2 + o)), (1, .int x1)]) hx hb dX9_isRank_11 hl (by decide) rfl (fun ls hl => ?_)
    exact w_X9_isRank_13 ho X hr hk 5000 x1 (0 : Int32) (0 : Int32) M _ _ ls hT h (lv_sub hl [2, 1, 0] rfl)
  · have hT := hT.2 hc7
    refine lv_iconst (v := 0) hx hb dX9_isRank_4 (by decide) ?_
    exact fx_zret X hr hk h (Or.inl rfl) hT dX9_isRank_5
/-! MockParcels$Told.takeRank(II)Z -/
theorem dX9_takeRank_0 : decode cX9_takeRank 0 = .ok (.aload_n 0, 1) := by decide +kernel
theorem dX9_takeRank_1 : decode cX9_takeRank 1 = .ok (.iload_n 2, 1) := by decide +kernel
theorem dX9_takeRank_2 : decode cX9_takeRank 2 = .ok (.invokevirtual 55, 3) := by decide +kernel
theorem dX9_takeRank_5 : decode cX9_takeRank 5 = .ok (.ifCond .ne 5, 3) := by decide +kernel
theorem dX9_takeRank_8 : decode cX9_takeRank 8 = .ok (.iconst 0, 1) := by decide +kernel
theorem dX9_takeRank_9 : decode cX9_takeRank 9 = .ok (.ireturn, 1) := by decide +kernel
theorem dX9_takeRank_10 : decode cX9_takeRank 10 = .ok (.iload_n 2, 1) := by decide +kernel
theorem dX9_takeRank_11 : decode cX9_takeRank 11 = .ok (.istore_n 3, 1) := by decide +kernel
theorem dX9_takeRank_12 : decode cX9_takeRank 12 = .ok (.bipush 7, 2) := by decide +kernel
theorem dX9_takeRank_14 : decode cX9_takeRank 14 = .ok (.istore 4, 2) := by decide +kernel
theorem dX9_takeRank_16 : decode cX9_takeRank 16 = .ok (.iload 4, 2) := by decide +kernel
theorem dX9_takeRank_18 : decode cX9_takeRank 18 = .ok (.ifCond .lt 30, 3) := by decide +kernel
theorem dX9_takeRank_21 : decode cX9_takeRank 21 = .ok (.aload_n 0, 1) := by decide +kernel
theorem dX9_takeRank_22 : decode cX9_takeRank 22 = .ok (.getfield 21, 3) := by decide +kernel
theorem dX9_takeRank_25 : decode cX9_takeRank 25 = .ok (.iload_n 1, 1) := by decide +kernel
theorem dX9_takeRank_26 : decode cX9_takeRank 26 = .ok (.bipush 8, 2) := by decide +kernel
theorem dX9_takeRank_28 : decode cX9_takeRank 28 = .ok (.imul, 1) := by decide +kernel
theorem dX9_takeRank_29 : decode cX9_takeRank 29 = .ok (.iload 4, 2) := by decide +kernel
theorem dX9_takeRank_31 : decode cX9_takeRank 31 = .ok (.iadd, 1) := by decide +kernel
theorem dX9_takeRank_32 : decode cX9_takeRank 32 = .ok (.iload_n 3, 1) := by decide +kernel
theorem dX9_takeRank_33 : decode cX9_takeRank 33 = .ok (.bipush 10, 2) := by decide +kernel
theorem dX9_takeRank_35 : decode cX9_takeRank 35 = .ok (.irem, 1) := by decide +kernel
theorem dX9_takeRank_36 : decode cX9_takeRank 36 = .ok (.iastore, 1) := by decide +kernel
theorem dX9_takeRank_37 : decode cX9_takeRank 37 = .ok (.iload_n 3, 1) := by decide +kernel
theorem dX9_takeRank_38 : decode cX9_takeRank 38 = .ok (.bipush 10, 2) := by decide +kernel
theorem dX9_takeRank_40 : decode cX9_takeRank 40 = .ok (.idiv, 1) := by decide +kernel
theorem dX9_takeRank_41 : decode cX9_takeRank 41 = .ok (.istore_n 3, 1) := by decide +kernel
theorem dX9_takeRank_42 : decode cX9_takeRank 42 = .ok (.iinc 4 (-1), 3) := by decide +kernel
theorem dX9_takeRank_45 : decode cX9_takeRank 45 = .ok (.goto (-29), 3) := by decide +kernel
theorem dX9_takeRank_48 : decode cX9_takeRank 48 = .ok (.iconst 1, 1) := by decide +kernel
theorem dX9_takeRank_49 : decode cX9_takeRank 49 = .ok (.ireturn, 1) := by decide +kernel
def T_X9_takeRank_16 (o : Nat) : Nat → Int32 → Int32 → Int32 → Mm → (Int32 → Mm → Prop) → Prop
  | 0, _, _, _, _, _ => False
  | n + 1, x1, x3, x4, M, K => ((x4 < 0 → (K (1 : Int32) M)) ∧ (¬ x4 < 0 → (vp_in ((x1 * (8 : Int32)) + x4) 64 ∧ (∀ M2 : Mm, M2 = m_up M (rf o 3) (((x1 * (8 : Int32)) + x4)).toNatClampNeg (x3 - x3 / (10 : Int32) * (10 : Int32)) → (∀ y4 : Int32, y4 = (x3 / (10 : Int32)) → (∀ y5 : Int32, y5 = x4 + (-1 : Int32) → (T_X9_takeRank_16 o n x1 y4 y5 M2 K)))))))
set_option maxHeartbeats 4000000 in
set_option maxRecDepth 100000 in
theorem w_X9_takeRank_16 {p : Program} {l : Launch} {e : Env} {s : State} {m : MethodId} {args : Array Value} {below : List Frame} {meth : Method} {c : Code} {G : fx_G} {K : Int32 → Mm → Prop} {o : Nat} (ho : o ∈ id_Told) (X : fx_C G p s m c args cX9_takeRank 5 RX9) (hr : meth.sig.returnType = (some .boolean)) (hk : meth.locks = false) : ∀ (n : Nat) (x1 : Int32) (x3 : Int32) (x4 : Int32) (M : Mm) (H : Heap) (locs : List Loc) (ls : Array Slot), T_X9_takeRank_16 o n x1 x3 x4 M K → fx_H G SH M s H locs → lv_has ls 5 [(0, .ref (G.2.2.2 + o)), (1, .int x1), (3, .int x3), (4, .int x4)] → W p l e (fx_rm (1)) s m args below meth c H locs 0 0 (MQ below (va_Qi K (fx_R G SH) (fx_A G)) args s 0 0 (fx_A G)) (F0 m 16 ls []) := by
  obtain ⟨⟨hx, hb, hml, hown, hts⟩, hK, hQ⟩ := id X
  intro n
  induction n with
  | zero =>
    intro x1 x3 x4 M H locs ls hT
    exact hT.elim
  | succ n ih =>
    intro x1 x3 x4 M H locs ls hT h hl
    rw [T_X9_takeRank_16] at hT
    refine lv_iload hx hb dX9_takeRank_16 (lv_at hl 3 rfl) ?_
    refine lv_if_lt (tgt := 48) hx hb dX9_takeRank_18 (by decide) (fun hc1 => ?_) (fun hc1 => ?_)
    · have hT := hT.1 hc1
      refine lv_iconst (v := 1) hx hb dX9_takeRank_48 (by decide) ?_
      exact fx_zret X hr hk h (Or.inr rfl) hT dX9_takeRank_49
    · have hT := hT.2 hc1
      refine lv_aload_n hx hb dX9_takeRank_21 rfl (lv_at hl 0 rfl) ?_
      refine fx_getR X h (k := o) (j := 3) (r := (rf o 3)) (sc_Told o ho) rfl fl_RX9_21 dX9_takeRank_22 ?_
      refine lv_iload_n hx hb dX9_takeRank_25 rfl (lv_at hl 1 rfl) ?_
      refine lv_bipush (v := 8) hx hb dX9_takeRank_26 (by decide) ?_
      refine lv_imul hx hb dX9_takeRank_28 ?_
      refine lv_iload hx hb dX9_takeRank_29 (lv_at hl 3 rfl) ?_
      refine lv_iadd hx hb dX9_takeRank_31 ?_
      refine lv_iload_n hx hb dX9_takeRank_32 rfl (lv_at hl 2 rfl) ?_
      refine lv_bipush (v := 10) hx hb dX9_takeRank_33 (by decide) ?_
      refine lv_irem hx hb dX9_takeRank_35 (by decide) ?_
      obtain ⟨hi3, hT⟩ := hT
      refine fx_iast X h (k := (rf o 3)) (sa_Told_3 o ho) hi3 dX9_takeRank_36 (fun H locs h => ?_)
      obtain ⟨M2, eM2⟩ : ∃ z : Mm, z = m_up M (rf o 3) (((x1 * (8 : Int32)) + x4)).toNatClampNeg (x3 - x3 / (10 : Int32) * (10 : Int32)) := ⟨_, rfl⟩
      have hT := hT M2 eM2
      rw [← eM2] at h
      refine lv_iload_n hx hb dX9_takeRank_37 rfl (lv_at hl 2 rfl) ?_
      refine lv_bipush (v := 10) hx hb dX9_takeRank_38 (by decide) ?_
      refine lv_idiv hx hb dX9_takeRank_40 (by decide) ?_
      refine lv_topi (fun y4 ey4 => ?_)
      have hT := hT y4 ey4
      refine lv_istore_n (lv' := [(3, .int y4), (0, .ref (G.2.2.2 + o)), (1, .int x1), (4, .int x4)]) hx hb dX9_takeRank_41 rfl hl (by decide) rfl (fun ls hl => ?_)
      obtain ⟨y5, ey5⟩ : ∃ z : Int32, z = x4 + (-1 : Int32) := ⟨_, rfl⟩
      have hT := hT y5 ey5
      refine lv_iinc (v := y5) (lv' := [(4, .int y5), (3, .int y4), (0, .ref (G.2.2.2 + o)), (1, .int x1)]) hx hb dX9_takeRank_42 hl (k := 3) rfl (by rw [ey5]; rfl) (by decide) rfl (fun ls hl => ?_)
      refine lv_goto (tgt := 16) hx hb dX9_takeRank_45 (by decide) ?_
      exact ih x1 y4 y5 M2 _ _ ls hT h (lv_sub hl [2, 3, 1, 0] rfl)
def T_X9_takeRank (o : Nat) (x1 : Int32) (x2 : Int32) (M : Mm) (K : Int32 → Mm → Prop) : Prop := (T_X9_isRank o x2 M (fun r8 M7 => ((r8 = 0 → (K (0 : Int32) M7)) ∧ (¬ r8 = 0 → (T_X9_takeRank_16 o 5000 x1 x2 (7 : Int32) M7 K)))))
set_option maxHeartbeats 4000000 in
set_option maxRecDepth 100000 in
theorem c_X9_takeRank (l : Launch) (G : fx_G) {o : Nat} (ho : o ∈ id_Told) {x1 : Int32} {x2 : Int32} {M : Mm} {K : Int32 → Mm → Prop} (hT : T_X9_takeRank o x1 x2 M K) : Met l yX9_takeRank (fx_ws yX9_takeRank cX9_takeRank 5 (some .boolean)) (fx_rm (1)) (va_Pc [.ref (G.2.2.2 + o), .int x1, .int x2] (fx_P G SH M)) (va_Qi K (fx_R G SH) (fx_A G)) 0 0 (fx_A G) := by
  refine fx_met (own := RX9) (by decide +kernel) rfl (Nat.le_of_ble_eq_true rfl) (fun p e s m below meth c X hr hk h ls hl => ?_)
  obtain ⟨⟨hx, hb, hml, hown, hts⟩, hK, hQ⟩ := id X
  have hl : lv_has ls 5 [(0, .ref (G.2.2.2 + o)), (1, .int x1), (2, .int x2)] := hl
  unfold T_X9_takeRank at hT
  refine lv_aload_n hx hb dX9_takeRank_0 rfl (lv_at hl 0 rfl) ?_
  refine lv_iload_n hx hb dX9_takeRank_1 rfl (lv_at hl 2 rfl) ?_
  refine fx_vi X h ym_X9_isRank yi_X9_isRank ys_X9_isRank (fx_s5 (List.mem_of_getElem? (i := 128) rfl) rfl) (sc_Told o ho) rfl (c_X9_isRank l G ho hT) (As := [.int x2]) (rest := []) rfl rfl ⟨Nat.le_of_ble_eq_true rfl, Nat.le_of_ble_eq_true rfl⟩ ⟨Nat.le_refl _, Nat.le_refl _⟩ hl.1 (Nat.le_of_ble_eq_true rfl) dX9_takeRank_2 (fun r8 M7 H locs hT h => ?_)
  refine lv_if_ne (tgt := 10) hx hb dX9_takeRank_5 (by decide) (fun hc9 => ?_) (fun hc9 => ?_)
  · have hT := hT.2 hc9
    refine lv_iload_n hx hb dX9_takeRank_10 rfl (lv_at hl 2 rfl) ?_
    refine lv_istore_n (lv' := [(3, .int x2), (0, .ref (G.2.2.2 + o)), (1, .int x1), (2, .int x2)]) hx hb dX9_takeRank_11 rfl hl (by decide) rfl (fun ls hl => ?_)
    refine lv_bipush (v := 7) hx hb dX9_takeRank_12 (by decide) ?_
    refine lv_istore (lv' := [(4, .int (7 : Int32)), (3, .int x2), (0, .ref (G.2.2.2 + o)), (1, .int x1), (2, .int x2)]) hx hb dX9_takeRank_14 hl (by decide) rfl (fun ls hl => ?_)
    exact w_X9_takeRank_16 ho X hr hk 5000 x1 x2 (7 : Int32) M7 _ _ ls hT h (lv_sub hl [2, 3, 1, 0] rfl)
  · have hT := hT.1 hc9
    refine lv_iconst (v := 0) hx hb dX9_takeRank_8 (by decide) ?_
    exact fx_zret X hr hk h (Or.inl rfl) hT dX9_takeRank_9
/-! MockParcels$Told.copyFrom(LMockParcels$Told;)V -/
theorem dX9_copyFrom_0 : decode cX9_copyFrom 0 = .ok (.aload_n 1, 1) := by decide +kernel
theorem dX9_copyFrom_1 : decode cX9_copyFrom 1 = .ok (.getfield 9, 3) := by decide +kernel
theorem dX9_copyFrom_4 : decode cX9_copyFrom 4 = .ok (.aload_n 0, 1) := by decide +kernel
theorem dX9_copyFrom_5 : decode cX9_copyFrom 5 = .ok (.getfield 9, 3) := by decide +kernel
theorem dX9_copyFrom_8 : decode cX9_copyFrom 8 = .ok (.invokestatic 59, 3) := by decide +kernel
theorem dX9_copyFrom_11 : decode cX9_copyFrom 11 = .ok (.aload_n 1, 1) := by decide +kernel
theorem dX9_copyFrom_12 : decode cX9_copyFrom 12 = .ok (.getfield 15, 3) := by decide +kernel
theorem dX9_copyFrom_15 : decode cX9_copyFrom 15 = .ok (.aload_n 0, 1) := by decide +kernel
theorem dX9_copyFrom_16 : decode cX9_copyFrom 16 = .ok (.getfield 15, 3) := by decide +kernel
theorem dX9_copyFrom_19 : decode cX9_copyFrom 19 = .ok (.invokestatic 59, 3) := by decide +kernel
theorem dX9_copyFrom_22 : decode cX9_copyFrom 22 = .ok (.aload_n 1, 1) := by decide +kernel
theorem dX9_copyFrom_23 : decode cX9_copyFrom 23 = .ok (.getfield 18, 3) := by decide +kernel
theorem dX9_copyFrom_26 : decode cX9_copyFrom 26 = .ok (.aload_n 0, 1) := by decide +kernel
theorem dX9_copyFrom_27 : decode cX9_copyFrom 27 = .ok (.getfield 18, 3) := by decide +kernel
theorem dX9_copyFrom_30 : decode cX9_copyFrom 30 = .ok (.invokestatic 59, 3) := by decide +kernel
theorem dX9_copyFrom_33 : decode cX9_copyFrom 33 = .ok (.aload_n 1, 1) := by decide +kernel
theorem dX9_copyFrom_34 : decode cX9_copyFrom 34 = .ok (.getfield 21, 3) := by decide +kernel
theorem dX9_copyFrom_37 : decode cX9_copyFrom 37 = .ok (.aload_n 0, 1) := by decide +kernel
theorem dX9_copyFrom_38 : decode cX9_copyFrom 38 = .ok (.getfield 21, 3) := by decide +kernel
theorem dX9_copyFrom_41 : decode cX9_copyFrom 41 = .ok (.invokestatic 59, 3) := by decide +kernel
theorem dX9_copyFrom_44 : decode cX9_copyFrom 44 = .ok (.aload_n 1, 1) := by decide +kernel
theorem dX9_copyFrom_45 : decode cX9_copyFrom 45 = .ok (.getfield 24, 3) := by decide +kernel
theorem dX9_copyFrom_48 : decode cX9_copyFrom 48 = .ok (.aload_n 0, 1) := by decide +kernel
theorem dX9_copyFrom_49 : decode cX9_copyFrom 49 = .ok (.getfield 24, 3) := by decide +kernel
theorem dX9_copyFrom_52 : decode cX9_copyFrom 52 = .ok (.invokestatic 59, 3) := by decide +kernel
theorem dX9_copyFrom_55 : decode cX9_copyFrom 55 = .ok (.aload_n 1, 1) := by decide +kernel
theorem dX9_copyFrom_56 : decode cX9_copyFrom 56 = .ok (.getfield 27, 3) := by decide +kernel
theorem dX9_copyFrom_59 : decode cX9_copyFrom 59 = .ok (.aload_n 0, 1) := by decide +kernel
theorem dX9_copyFrom_60 : decode cX9_copyFrom 60 = .ok (.getfield 27, 3) := by decide +kernel
theorem dX9_copyFrom_63 : decode cX9_copyFrom 63 = .ok (.invokestatic 59, 3) := by decide +kernel
theorem dX9_copyFrom_66 : decode cX9_copyFrom 66 = .ok (.aload_n 1, 1) := by decide +kernel
theorem dX9_copyFrom_67 : decode cX9_copyFrom 67 = .ok (.getfield 30, 3) := by decide +kernel
theorem dX9_copyFrom_70 : decode cX9_copyFrom 70 = .ok (.aload_n 0, 1) := by decide +kernel
theorem dX9_copyFrom_71 : decode cX9_copyFrom 71 = .ok (.getfield 30, 3) := by decide +kernel
theorem dX9_copyFrom_74 : decode cX9_copyFrom 74 = .ok (.invokestatic 59, 3) := by decide +kernel
theorem dX9_copyFrom_77 : decode cX9_copyFrom 77 = .ok (.aload_n 1, 1) := by decide +kernel
theorem dX9_copyFrom_78 : decode cX9_copyFrom 78 = .ok (.getfield 33, 3) := by decide +kernel
theorem dX9_copyFrom_81 : decode cX9_copyFrom 81 = .ok (.aload_n 0, 1) := by decide +kernel
theorem dX9_copyFrom_82 : decode cX9_copyFrom 82 = .ok (.getfield 33, 3) := by decide +kernel
theorem dX9_copyFrom_85 : decode cX9_copyFrom 85 = .ok (.invokestatic 59, 3) := by decide +kernel
theorem dX9_copyFrom_88 : decode cX9_copyFrom 88 = .ok (.aload_n 1, 1) := by decide +kernel
theorem dX9_copyFrom_89 : decode cX9_copyFrom 89 = .ok (.getfield 36, 3) := by decide +kernel
theorem dX9_copyFrom_92 : decode cX9_copyFrom 92 = .ok (.aload_n 0, 1) := by decide +kernel
theorem dX9_copyFrom_93 : decode cX9_copyFrom 93 = .ok (.getfield 36, 3) := by decide +kernel
theorem dX9_copyFrom_96 : decode cX9_copyFrom 96 = .ok (.invokestatic 59, 3) := by decide +kernel
theorem dX9_copyFrom_99 : decode cX9_copyFrom 99 = .ok (.aload_n 0, 1) := by decide +kernel
theorem dX9_copyFrom_100 : decode cX9_copyFrom 100 = .ok (.aload_n 1, 1) := by decide +kernel
theorem dX9_copyFrom_101 : decode cX9_copyFrom 101 = .ok (.getfield 39, 3) := by decide +kernel
theorem dX9_copyFrom_104 : decode cX9_copyFrom 104 = .ok (.putfield 39, 3) := by decide +kernel
theorem dX9_copyFrom_107 : decode cX9_copyFrom 107 = .ok (.aload_n 0, 1) := by decide +kernel
theorem dX9_copyFrom_108 : decode cX9_copyFrom 108 = .ok (.aload_n 1, 1) := by decide +kernel
theorem dX9_copyFrom_109 : decode cX9_copyFrom 109 = .ok (.getfield 43, 3) := by decide +kernel
theorem dX9_copyFrom_112 : decode cX9_copyFrom 112 = .ok (.putfield 43, 3) := by decide +kernel
theorem dX9_copyFrom_115 : decode cX9_copyFrom 115 = .ok (.aload_n 0, 1) := by decide +kernel
theorem dX9_copyFrom_116 : decode cX9_copyFrom 116 = .ok (.aload_n 1, 1) := by decide +kernel
theorem dX9_copyFrom_117 : decode cX9_copyFrom 117 = .ok (.getfield 46, 3) := by decide +kernel
theorem dX9_copyFrom_120 : decode cX9_copyFrom 120 = .ok (.putfield 46, 3) := by decide +kernel
theorem dX9_copyFrom_123 : decode cX9_copyFrom 123 = .ok (.aload_n 0, 1) := by decide +kernel
theorem dX9_copyFrom_124 : decode cX9_copyFrom 124 = .ok (.aload_n 1, 1) := by decide +kernel
theorem dX9_copyFrom_125 : decode cX9_copyFrom 125 = .ok (.getfield 49, 3) := by decide +kernel
theorem dX9_copyFrom_128 : decode cX9_copyFrom 128 = .ok (.putfield 49, 3) := by decide +kernel
theorem dX9_copyFrom_131 : decode cX9_copyFrom 131 = .ok (.aload_n 0, 1) := by decide +kernel
theorem dX9_copyFrom_132 : decode cX9_copyFrom 132 = .ok (.aload_n 1, 1) := by decide +kernel
theorem dX9_copyFrom_133 : decode cX9_copyFrom 133 = .ok (.getfield 52, 3) := by decide +kernel
theorem dX9_copyFrom_136 : decode cX9_copyFrom 136 = .ok (.putfield 52, 3) := by decide +kernel
theorem dX9_copyFrom_139 : decode cX9_copyFrom 139 = .ok (.return_, 1) := by decide +kernel
def T_X9_copyFrom (o : Nat) (o1 : Nat) (M : Mm) (K : Mm → Prop) : Prop := (T_X11_copyRow (rf o1 0) (rf o 0) M (fun M2 => (T_X11_copyRow (rf o1 1) (rf o 1) M2 (fun M4 => (T_X11_copyRow (rf o1 2) (rf o 2) M4 (fun M6 => (T_X11_copyRow (rf o1 3) (rf o 3) M6 (fun M8 => (T_X11_copyRow (rf o1 4) (rf o 4) M8 (fun M10 => (T_X11_copyRow (rf o1 5) (rf o 5) M10 (fun M12 => (T_X11_copyRow (rf o1 6) (rf o 6) M12 (fun M14 => (T_X11_copyRow (rf o1 7) (rf o 7) M14 (fun M16 => (T_X11_copyRow (rf o1 8) (rf o 8) M16 (fun M18 => (∀ M19 : Mm, M19 = m_up M18 o 9 (M18 o1 9) → (∀ M20 : Mm, M20 = m_up M19 o 10 (M19 o1 10) → (∀ M21 : Mm, M21 = m_up M20 o 11 (M20 o1 11) → (∀ M22 : Mm, M22 = m_up M21 o 12 (M21 o1 12) → (∀ M23 : Mm, M23 = m_up M22 o 13 (M22 o1 13) → (K M23))))))))))))))))))))))))
set_option maxHeartbeats 4000000 in
set_option maxRecDepth 100000 in
theorem c_X9_copyFrom (l : Launch) (G : fx_G) {o : Nat} {o1 : Nat} (ho : o ∈ id_Told) (ho1 : o1 ∈ id_Told) {M : Mm} {K : Mm → Prop} (hT : T_X9_copyFrom o o1 M K) : Met l yX9_copyFrom (fx_ws yX9_copyFrom cX9_copyFrom 2 none) (fx_rm (1)) (va_Pc [.ref (G.2.2.2 + o), .ref (G.2.2.2 + o1)] (fx_P G SH M)) (va_Qv K (fx_R G SH) (fx_A G)) 0 0 (fx_A G) := by
  refine fx_met (own := RX9) (by decide +kernel) rfl (Nat.le_of_ble_eq_true rfl) (fun p e s m below meth c X hr hk h ls hl => ?_)
  obtain ⟨⟨hx, hb, hml, hown, hts⟩, hK, hQ⟩ := id X
  have hl : lv_has ls 2 [(0, .ref (G.2.2.2 + o)), (1, .ref (G.2.2.2 + o1))] := hl
  unfold T_X9_copyFrom at hT
  refine lv_aload_n hx hb dX9_copyFrom_0 rfl (lv_at hl 1 rfl) ?_
  refine fx_getR X h (k := o1) (j := 0) (r := (rf o1 0)) (sc_Told o1 ho1) rfl fl_RX9_9 dX9_copyFrom_1 ?_
  refine lv_aload_n hx hb dX9_copyFrom_4 rfl (lv_at hl 0 rfl) ?_
  refine fx_getR X h (k := o) (j := 0) (r := (rf o 0)) (sc_Told o ho) rfl fl_RX9_9 dX9_copyFrom_5 ?_
  refine fx_nv X h ym_X11_copyRow yt_X11_copyRow (nq_RX9_59) (c_X11_copyRow l G (ln_of (sa_Told_0 o1 ho1)) (ln_of (sa_Told_0 o ho)) hT) (As := [.ref (G.2.2.2 + (rf o1 0)), .ref (G.2.2.2 + (rf o 0))]) (rest := []) rfl rfl ⟨Nat.le_of_ble_eq_true rfl, Nat.le_of_ble_eq_true rfl⟩ ⟨Nat.le_refl _, Nat.le_refl _⟩ hl.1 (Nat.le_of_ble_eq_true rfl) dX9_copyFrom_8 (fun M2 H locs hT h => ?_)
  refine lv_aload_n hx hb dX9_copyFrom_11 rfl (lv_at hl 1 rfl) ?_
  refine fx_getR X h (k := o1) (j := 1) (r := (rf o1 1)) (sc_Told o1 ho1) rfl fl_RX9_15 dX9_copyFrom_12 ?_
  refine lv_aload_n hx hb dX9_copyFrom_15 rfl (lv_at hl 0 rfl) ?_
  refine fx_getR X h (k := o) (j := 1) (r := (rf o 1)) (sc_Told o ho) rfl fl_RX9_15 dX9_copyFrom_16 ?_
  refine fx_nv X h ym_X11_copyRow yt_X11_copyRow (nq_RX9_59) (c_X11_copyRow l G (ln_of (sa_Told_1 o1 ho1)) (ln_of (sa_Told_1 o ho)) hT) (As := [.ref (G.2.2.2 + (rf o1 1)), .ref (G.2.2.2 + (rf o 1))]) (rest := []) rfl rfl ⟨Nat.le_of_ble_eq_true rfl, Nat.le_of_ble_eq_true rfl⟩ ⟨Nat.le_refl _, Nat.le_refl _⟩ hl.1 (Nat.le_of_ble_eq_true rfl) dX9_copyFrom_19 (fun M4 H locs hT h => ?_)
  refine lv_aload_n hx hb dX9_copyFrom_22 rfl (lv_at hl 1 rfl) ?_
  refine fx_getR X h (k := o1) (j := 2) (r := (rf o1 2)) (sc_Told o1 ho1) rfl fl_RX9_18 dX9_copyFrom_23 ?_
  refine lv_aload_n hx hb dX9_copyFrom_26 rfl (lv_at hl 0 rfl) ?_
  refine fx_getR X h (k := o) (j := 2) (r := (rf o 2)) (sc_Told o ho) rfl fl_RX9_18 dX9_copyFrom_27 ?_
  refine fx_nv X h ym_X11_copyRow yt_X11_copyRow (nq_RX9_59) (c_X11_copyRow l G (ln_of (sa_Told_2 o1 ho1)) (ln_of (sa_Told_2 o ho)) hT) (As := [.ref (G.2.2.2 + (rf o1 2)), .ref (G.2.2.2 + (rf o 2))]) (rest := []) rfl rfl ⟨Nat.le_of_ble_eq_true rfl, Nat.le_of_ble_eq_true rfl⟩ ⟨Nat.le_refl _, Nat.le_refl _⟩ hl.1 (Nat.le_of_ble_eq_true rfl) dX9_copyFrom_30 (fun M6 H locs hT h => ?_)
  refine lv_aload_n hx hb dX9_copyFrom_33 rfl (lv_at hl 1 rfl) ?_
  refine fx_getR X h (k := o1) (j := 3) (r := (rf o1 3)) (sc_Told o1 ho1) rfl fl_RX9_21 dX9_copyFrom_34 ?_
  refine lv_aload_n hx hb dX9_copyFrom_37 rfl (lv_at hl 0 rfl) ?_
  refine fx_getR X h (k := o) (j := 3) (r := (rf o 3)) (sc_Told o ho) rfl fl_RX9_21 dX9_copyFrom_38 ?_
  refine fx_nv X h ym_X11_copyRow yt_X11_copyRow (nq_RX9_59) (c_X11_copyRow l G (ln_of (sa_Told_3 o1 ho1)) (ln_of (sa_Told_3 o ho)) hT) (As := [.ref (G.2.2.2 + (rf o1 3)), .ref (G.2.2.2 + (rf o 3))]) (rest := []) rfl rfl ⟨Nat.le_of_ble_eq_true rfl, Nat.le_of_ble_eq_true rfl⟩ ⟨Nat.le_refl _, Nat.le_refl _⟩ hl.1 (Nat.le_of_ble_eq_true rfl) dX9_copyFrom_41 (fun M8 H locs hT h => ?_)
  refine lv_aload_n hx hb dX9_copyFrom_44 rfl (lv_at hl 1 rfl) ?_
  refine fx_getR X h (k := o1) (j := 4) (r := (rf o1 4)) (sc_Told o1 ho1) rfl fl_RX9_24 dX9_copyFrom_45 ?_
  refine lv_aload_n hx hb dX9_copyFrom_48 rfl (lv_at hl 0 rfl) ?_
  refine fx_getR X h (k := o) (j := 4) (r := (rf o 4)) (sc_Told o ho) rfl fl_RX9_24 dX9_copyFrom_49 ?_
  refine fx_nv X h ym_X11_copyRow yt_X11_copyRow (nq_RX9_59) (c_X11_copyRow l G (ln_of (sa_Told_4 o1 ho1)) (ln_of (sa_Told_4 o ho)) hT) (As := [.ref (G.2.2.2 + (rf o1 4)), .ref (G.2.2.2 + (rf o 4))]) (rest := []) rfl rfl ⟨Nat.le_of_ble_eq_true rfl, Nat.le_of_ble_eq_true rfl⟩ ⟨Nat.le_refl _, Nat.le_refl _⟩ hl.1 (Nat.le_of_ble_eq_true rfl) dX9_copyFrom_52 (fun M10 H locs hT h => ?_)
  refine lv_aload_n hx hb dX9_copyFrom_55 rfl (lv_at hl 1 rfl) ?_
  refine fx_getR X h (k := o1) (j := 5) (r := (rf o1 5)) (sc_Told o1 ho1) rfl fl_RX9_27 dX9_copyFrom_56 ?_
  refine lv_aload_n hx hb dX9_copyFrom_59 rfl (lv_at hl 0 rfl) ?_
  refine fx_getR X h (k := o) (j := 5) (r := (rf o 5)) (sc_Told o ho) rfl fl_RX9_27 dX9_copyFrom_60 ?_
  refine fx_nv X h ym_X11_copyRow yt_X11_copyRow (nq_RX9_59) (c_X11_copyRow l G (ln_of (sa_Told_5 o1 ho1)) (ln_of (sa_Told_5 o ho)) hT) (As := [.ref (G.2.2.2 + (rf o1 5)), .ref (G.2.2.2 + (rf o 5))]) (rest := []) rfl rfl ⟨Nat.le_of_ble_eq_true rfl, Nat.le_of_ble_eq_true rfl⟩ ⟨Nat.le_refl _, Nat.le_refl _⟩ hl.1 (Nat.le_of_ble_eq_true rfl) dX9_copyFrom_63 (fun M12 H locs hT h => ?_)
  refine lv_aload_n hx hb dX9_copyFrom_66 rfl (lv_at hl 1 rfl) ?_
  refine fx_getR X h (k := o1) (j := 6) (r := (rf o1 6)) (sc_Told o1 ho1) rfl fl_RX9_30 dX9_copyFrom_67 ?_
  refine lv_aload_n hx hb dX9_copyFrom_70 rfl (lv_at hl 0 rfl) ?_
  refine fx_getR X h (k := o) (j := 6) (r := (rf o 6)) (sc_Told o ho) rfl fl_RX9_30 dX9_copyFrom_71 ?_
  refine fx_nv X h ym_X11_copyRow yt_X11_copyRow (nq_RX9_59) (c_X11_copyRow l G (ln_of (sa_Told_6 o1 ho1)) (ln_of (sa_Told_6 o ho)) hT) (As := [.ref (G.2.2.2 + (rf o1 6)), .ref (G.2.2.2 + (rf o 6))]) (rest := []) rfl rfl ⟨Nat.le_of_ble_eq_true rfl, Nat.le_of_ble_eq_true rfl⟩ ⟨Nat.le_refl _, Nat.le_refl _⟩ hl.1 (Nat.le_of_ble_eq_true rfl) dX9_copyFrom_74 (fun M14 H locs hT h => ?_)
  refine lv_aload_n hx hb dX9_copyFrom_77 rfl (lv_at hl 1 rfl) ?_
  refine fx_getR X h (k := o1) (j := 7) (r := (rf o1 7)) (sc_Told o1 ho1) rfl fl_RX9_33 dX9_copyFrom_78 ?_
  refine lv_aload_n hx hb dX9_copyFrom_81 rfl (lv_at hl 0 rfl) ?_
  refine fx_getR X h (k := o) (j := 7) (r := (rf o 7)) (sc_Told o ho) rfl fl_RX9_33 dX9_copyFrom_82 ?_
  refine fx_nv X h ym_X11_copyRow yt_X11_copyRow (nq_RX9_59) (c_X11_copyRow l G (ln_of (sa_Told_7 o1 ho1)) (ln_of (sa_Told_7 o ho)) hT) (As := [.ref (G.2.2.2 + (rf o1 7)), .ref (G.2.2.2 + (rf o 7))]) (rest := []) rfl rfl ⟨Nat.le_of_ble_eq_true rfl, Nat.le_of_ble_eq_true rfl⟩ ⟨Nat.le_refl _, Nat.le_refl _⟩ hl.1 (Nat.le_of_ble_eq_true rfl) dX9_copyFrom_85 (fun M16 H locs hT h => ?_)
  refine lv_aload_n hx hb dX9_copyFrom_88 rfl (lv_at hl 1 rfl) ?_
  refine fx_getR X h (k := o1) (j := 8) (r := (rf o1 8)) (sc_Told o1 ho1) rfl fl_RX9_36 dX9_copyFrom_89 ?_
  refine lv_aload_n hx hb dX9_copyFrom_92 rfl (lv_at hl 0 rfl) ?_
  refine fx_getR X h (k := o) (j := 8) (r := (rf o 8)) (sc_Told o ho) rfl fl_RX9_36 dX9_copyFrom_93 ?_
  refine fx_nv X h ym_X11_copyRow yt_X11_copyRow (nq_RX9_59) (c_X11_copyRow l G (ln_of (sa_Told_8 o1 ho1)) (ln_of (sa_Told_8 o ho)) hT) (As := [.ref (G.2.2.2 + (rf o1 8)), .ref (G.2.2.2 + (rf o 8))]) (rest := []) rfl rfl ⟨Nat.le_of_ble_eq_true rfl, Nat.le_of_ble_eq_true rfl⟩ ⟨Nat.le_refl _, Nat.le_refl _⟩ hl.1 (Nat.le_of_ble_eq_true rfl) dX9_copyFrom_96 (fun M18 H locs hT h => ?_)
  refine lv_aload_n hx hb dX9_copyFrom_99 rfl (lv_at hl 0 rfl) ?_
  refine lv_aload_n hx hb dX9_copyFrom_100 rfl (lv_at hl 1 rfl) ?_
  refine fx_getI X h (k := o1) (j := 9) (sc_Told o1 ho1) rfl fl_RX9_39 dX9_copyFrom_101 ?_
  refine fx_putI X h (k := o) (j := 9) (sc_Told o ho) rfl fl_RX9_39 dX9_copyFrom_104 (fun H locs h => ?_)
  obtain ⟨M19, eM19⟩ : ∃ z : Mm, z = m_up M18 o 9 (M18 o1 9) := ⟨_, rfl⟩
  have hT := hT M19 eM19
  rw [← eM19] at h
  refine lv_aload_n hx hb dX9_copyFrom_107 rfl (lv_at hl 0 rfl) ?_
  refine lv_aload_n hx hb dX9_copyFrom_108 rfl (lv_at hl 1 rfl) ?_
  refine fx_getI X h (k := o1) (j := 10) (sc_Told o1 ho1) rfl fl_RX9_43 dX9_copyFrom_109 ?_
  refine fx_putI X h (k := o) (j := 10) (sc_Told o ho) rfl fl_RX9_43 dX9_copyFrom_112 (fun H locs h => ?_)
  obtain ⟨M20, eM20⟩ : ∃ z : Mm, z = m_up M19 o 10 (M19 o1 10) := ⟨_, rfl⟩
  have hT := hT M20 eM20
  rw [← eM20] at h
  refine lv_aload_n hx hb dX9_copyFrom_115 rfl (lv_at hl 0 rfl) ?_
  refine lv_aload_n hx hb dX9_copyFrom_116 rfl (lv_at hl 1 rfl) ?_
  refine fx_getI X h (k := o1) (j := 11) (sc_Told o1 ho1) rfl fl_RX9_46 dX9_copyFrom_117 ?_
  refine fx_putI X h (k := o) (j := 11) (sc_Told o ho) rfl fl_RX9_46 dX9_copyFrom_120 (fun H locs h => ?_)
  obtain ⟨M21, eM21⟩ : ∃ z : Mm, z = m_up M20 o 11 (M20 o1 11) := ⟨_, rfl⟩
  have hT := hT M21 eM21
  rw [← eM21] at h
  refine lv_aload_n hx hb dX9_copyFrom_123 rfl (lv_at hl 0 rfl) ?_
  refine lv_aload_n hx hb dX9_copyFrom_124 rfl (lv_at hl 1 rfl) ?_
  refine fx_getI X h (k := o1) (j := 12) (sc_Told o1 ho1) rfl fl_RX9_49 dX9_copyFrom_125 ?_
  refine fx_putI X h (k := o) (j := 12) (sc_Told o ho) rfl fl_RX9_49 dX9_copyFrom_128 (fun H locs h => ?_)
  obtain ⟨M22, eM22⟩ : ∃ z : Mm, z = m_up M21 o 12 (M21 o1 12) := ⟨_, rfl⟩
  have hT := hT M22 eM22
  rw [← eM22] at h
  refine lv_aload_n hx hb dX9_copyFrom_131 rfl (lv_at hl 0 rfl) ?_
  refine lv_aload_n hx hb dX9_copyFrom_132 rfl (lv_at hl 1 rfl) ?_
  refine fx_getI X h (k := o1) (j := 13) (sc_Told o1 ho1) rfl fl_RX9_52 dX9_copyFrom_133 ?_
  refine fx_putI X h (k := o) (j := 13) (sc_Told o ho) rfl fl_RX9_52 dX9_copyFrom_136 (fun H locs h => ?_)
  obtain ⟨M23, eM23⟩ : ∃ z : Mm, z = m_up M22 o 13 (M22 o1 13) := ⟨_, rfl⟩
  have hT := hT M23 eM23
  rw [← eM23] at h
  exact fx_vret X hr hk h hT dX9_copyFrom_139
