/-! MockParcelsModel.isIn(III)Z -/
theorem dX12_isIn_0 : decode cX12_isIn 0 = .ok (.iload_n 1, 1) := by decide +kernel
theorem dX12_isIn_1 : decode cX12_isIn 1 = .ok (.iload_n 2, 1) := by decide +kernel
theorem dX12_isIn_2 : decode cX12_isIn 2 = .ok (.if_icmp .lt 12, 3) := by decide +kernel
theorem dX12_isIn_5 : decode cX12_isIn 5 = .ok (.iload_n 1, 1) := by decide +kernel
theorem dX12_isIn_6 : decode cX12_isIn 6 = .ok (.iload_n 3, 1) := by decide +kernel
theorem dX12_isIn_7 : decode cX12_isIn 7 = .ok (.if_icmp .gt 7, 3) := by decide +kernel
theorem dX12_isIn_10 : decode cX12_isIn 10 = .ok (.iconst 1, 1) := by decide +kernel
theorem dX12_isIn_11 : decode cX12_isIn 11 = .ok (.goto 4, 3) := by decide +kernel
theorem dX12_isIn_14 : decode cX12_isIn 14 = .ok (.iconst 0, 1) := by decide +kernel
theorem dX12_isIn_15 : decode cX12_isIn 15 = .ok (.ireturn, 1) := by decide +kernel
def T_X12_isIn (x1 : Int32) (x2 : Int32) (x3 : Int32) (M : Mm) (K : Int32 → Mm → Prop) : Prop := ((x1 < x2 → (K (0 : Int32) M)) ∧ (¬ x1 < x2 → ((x3 < x1 → (K (0 : Int32) M)) ∧ (¬ x3 < x1 → (K (1 : Int32) M)))))
set_option maxHeartbeats 4000000 in
set_option maxRecDepth 100000 in
theorem c_X12_isIn (l : Launch) (G : fx_G) {x1 : Int32} {x2 : Int32} {x3 : Int32} {M : Mm} {K : Int32 → Mm → Prop} (hT : T_X12_isIn x1 x2 x3 M K) : Met l yX12_isIn (fx_ws yX12_isIn cX12_isIn 4 (some .boolean)) (fx_rm (0)) (va_Pc [.ref (G.2.2.2 + 159), .int x1, .int x2, .int x3] (fx_P G SH M)) (va_Qi K (fx_R G SH) (fx_A G)) 0 0 (fx_A G) := by
  refine fx_met (own := RX12) (by decide +kernel) rfl (Nat.le_of_ble_eq_true rfl) (fun p e s m below meth c X hr hk h ls hl => ?_)
  obtain ⟨⟨hx, hb, hml, hown, hts⟩, hK, hQ⟩ := id X
  have hl : lv_has ls 4 [(0, .ref (G.2.2.2 + 159)), (1, .int x1), (2, .int x2), (3, .int x3)] := hl
  unfold T_X12_isIn at hT
  refine lv_iload_n hx hb dX12_isIn_0 rfl (lv_at hl 1 rfl) ?_
  refine lv_iload_n hx hb dX12_isIn_1 rfl (lv_at hl 2 rfl) ?_
  refine lv_icmp_lt (tgt := 14) hx hb dX12_isIn_2 (by decide) (fun hc1 => ?_) (fun hc1 => ?_)
  · have hT := hT.1 hc1
    refine lv_iconst (v := 0) hx hb dX12_isIn_14 (by decide) ?_
    exact fx_zret X hr hk h (Or.inl rfl) hT dX12_isIn_15
  · have hT := hT.2 hc1
    refine lv_iload_n hx hb dX12_isIn_5 rfl (lv_at hl 1 rfl) ?_
    refine lv_iload_n hx hb dX12_isIn_6 rfl (lv_at hl 3 rfl) ?_
    refine lv_icmp_gt (tgt := 14) hx hb dX12_isIn_7 (by decide) (fun hc2 => ?_) (fun hc2 => ?_)
    · have hT := hT.1 hc2
      refine lv_iconst (v := 0) hx hb dX12_isIn_14 (by decide) ?_
      exact fx_zret X hr hk h (Or.inl rfl) hT dX12_isIn_15
    · have hT := hT.2 hc2
      refine lv_iconst (v := 1) hx hb dX12_isIn_10 (by decide) ?_
      refine lv_goto (tgt := 15) hx hb dX12_isIn_11 (by decide) ?_
      exact fx_zret X hr hk h (Or.inr rfl) hT dX12_isIn_15
/-! MockParcelsModel.held(III)I -/
theorem dX12_held_0 : decode cX12_held 0 = .ok (.iload_n 1, 1) := by decide +kernel
theorem dX12_held_1 : decode cX12_held 1 = .ok (.iload_n 2, 1) := by decide +kernel
theorem dX12_held_2 : decode cX12_held 2 = .ok (.if_icmp .ge 7, 3) := by decide +kernel
theorem dX12_held_5 : decode cX12_held 5 = .ok (.iload_n 2, 1) := by decide +kernel
theorem dX12_held_6 : decode cX12_held 6 = .ok (.goto 13, 3) := by decide +kernel
theorem dX12_held_9 : decode cX12_held 9 = .ok (.iload_n 1, 1) := by decide +kernel
theorem dX12_held_10 : decode cX12_held 10 = .ok (.iload_n 3, 1) := by decide +kernel
theorem dX12_held_11 : decode cX12_held 11 = .ok (.if_icmp .le 7, 3) := by decide +kernel
theorem dX12_held_14 : decode cX12_held 14 = .ok (.iload_n 3, 1) := by decide +kernel
theorem dX12_held_15 : decode cX12_held 15 = .ok (.goto 4, 3) := by decide +kernel
theorem dX12_held_18 : decode cX12_held 18 = .ok (.iload_n 1, 1) := by decide +kernel
theorem dX12_held_19 : decode cX12_held 19 = .ok (.ireturn, 1) := by decide +kernel
def T_X12_held (x1 : Int32) (x2 : Int32) (x3 : Int32) (M : Mm) (K : Int32 → Mm → Prop) : Prop := ((x2 ≤ x1 → ((x1 ≤ x3 → (K x1 M)) ∧ (¬ x1 ≤ x3 → (K x3 M)))) ∧ (¬ x2 ≤ x1 → (K x2 M)))
set_option maxHeartbeats 4000000 in
set_option maxRecDepth 100000 in
theorem c_X12_held (l : Launch) (G : fx_G) {x1 : Int32} {x2 : Int32} {x3 : Int32} {M : Mm} {K : Int32 → Mm → Prop} (hT : T_X12_held x1 x2 x3 M K) : Met l yX12_held (fx_ws yX12_held cX12_held 4 (some .int)) (fx_rm (0)) (va_Pc [.ref (G.2.2.2 + 159), .int x1, .int x2, .int x3] (fx_P G SH M)) (va_Qi K (fx_R G SH) (fx_A G)) 0 0 (fx_A G) := by
  refine fx_met (own := RX12) (by decide +kernel) rfl (Nat.le_of_ble_eq_true rfl) (fun p e s m below meth c X hr hk h ls hl => ?_)
  obtain ⟨⟨hx, hb, hml, hown, hts⟩, hK, hQ⟩ := id X
  have hl : lv_has ls 4 [(0, .ref (G.2.2.2 + 159)), (1, .int x1), (2, .int x2), (3, .int x3)] := hl
  unfold T_X12_held at hT
  refine lv_iload_n hx hb dX12_held_0 rfl (lv_at hl 1 rfl) ?_
  refine lv_iload_n hx hb dX12_held_1 rfl (lv_at hl 2 rfl) ?_
  refine lv_icmp_ge (tgt := 9) hx hb dX12_held_2 (by decide) (fun hc1 => ?_) (fun hc1 => ?_)
  · have hT := hT.1 hc1
    refine lv_iload_n hx hb dX12_held_9 rfl (lv_at hl 1 rfl) ?_
    refine lv_iload_n hx hb dX12_held_10 rfl (lv_at hl 3 rfl) ?_
    refine lv_icmp_le (tgt := 18) hx hb dX12_held_11 (by decide) (fun hc2 => ?_) (fun hc2 => ?_)
    · have hT := hT.1 hc2
      refine lv_iload_n hx hb dX12_held_18 rfl (lv_at hl 1 rfl) ?_
      exact fx_iret X hr hk h hT dX12_held_19
    · have hT := hT.2 hc2
      refine lv_iload_n hx hb dX12_held_14 rfl (lv_at hl 3 rfl) ?_
      refine lv_goto (tgt := 19) hx hb dX12_held_15 (by decide) ?_
      exact fx_iret X hr hk h hT dX12_held_19
  · have hT := hT.2 hc1
    refine lv_iload_n hx hb dX12_held_5 rfl (lv_at hl 2 rfl) ?_
    refine lv_goto (tgt := 19) hx hb dX12_held_6 (by decide) ?_
    exact fx_iret X hr hk h hT dX12_held_19
/-! MockParcelsModel.greater(II)I -/
theorem dX12_greater_0 : decode cX12_greater 0 = .ok (.iload_n 1, 1) := by decide +kernel
theorem dX12_greater_1 : decode cX12_greater 1 = .ok (.iload_n 2, 1) := by decide +kernel
theorem dX12_greater_2 : decode cX12_greater 2 = .ok (.if_icmp .le 7, 3) := by decide +kernel
theorem dX12_greater_5 : decode cX12_greater 5 = .ok (.iload_n 1, 1) := by decide +kernel
theorem dX12_greater_6 : decode cX12_greater 6 = .ok (.goto 4, 3) := by decide +kernel
theorem dX12_greater_9 : decode cX12_greater 9 = .ok (.iload_n 2, 1) := by decide +kernel
theorem dX12_greater_10 : decode cX12_greater 10 = .ok (.ireturn, 1) := by decide +kernel
def T_X12_greater (x1 : Int32) (x2 : Int32) (M : Mm) (K : Int32 → Mm → Prop) : Prop := ((x1 ≤ x2 → (K x2 M)) ∧ (¬ x1 ≤ x2 → (K x1 M)))
set_option maxHeartbeats 4000000 in
set_option maxRecDepth 100000 in
theorem c_X12_greater (l : Launch) (G : fx_G) {x1 : Int32} {x2 : Int32} {M : Mm} {K : Int32 → Mm → Prop} (hT : T_X12_greater x1 x2 M K) : Met l yX12_greater (fx_ws yX12_greater cX12_greater 3 (some .int)) (fx_rm (0)) (va_Pc [.ref (G.2.2.2 + 159), .int x1, .int x2] (fx_P G SH M)) (va_Qi K (fx_R G SH) (fx_A G)) 0 0 (fx_A G) := by
  refine fx_met (own := RX12) (by decide +kernel) rfl (Nat.le_of_ble_eq_true rfl) (fun p e s m below meth c X hr hk h ls hl => ?_)
  obtain ⟨⟨hx, hb, hml, hown, hts⟩, hK, hQ⟩ := id X
  have hl : lv_has ls 3 [(0, .ref (G.2.2.2 + 159)), (1, .int x1), (2, .int x2)] := hl
  unfold T_X12_greater at hT
  refine lv_iload_n hx hb dX12_greater_0 rfl (lv_at hl 1 rfl) ?_
  refine lv_iload_n hx hb dX12_greater_1 rfl (lv_at hl 2 rfl) ?_
  refine lv_icmp_le (tgt := 9) hx hb dX12_greater_2 (by decide) (fun hc1 => ?_) (fun hc1 => ?_)
  · have hT := hT.1 hc1
    refine lv_iload_n hx hb dX12_greater_9 rfl (lv_at hl 2 rfl) ?_
    exact fx_iret X hr hk h hT dX12_greater_10
  · have hT := hT.2 hc1
    refine lv_iload_n hx hb dX12_greater_5 rfl (lv_at hl 1 rfl) ?_
    refine lv_goto (tgt := 10) hx hb dX12_greater_6 (by decide) ?_
    exact fx_iret X hr hk h hT dX12_greater_10
/-! MockParcelsModel.lesser(II)I -/
theorem dX12_lesser_0 : decode cX12_lesser 0 = .ok (.iload_n 1, 1) := by decide +kernel
theorem dX12_lesser_1 : decode cX12_lesser 1 = .ok (.iload_n 2, 1) := by decide +kernel
theorem dX12_lesser_2 : decode cX12_lesser 2 = .ok (.if_icmp .ge 7, 3) := by decide +kernel
theorem dX12_lesser_5 : decode cX12_lesser 5 = .ok (.iload_n 1, 1) := by decide +kernel
theorem dX12_lesser_6 : decode cX12_lesser 6 = .ok (.goto 4, 3) := by decide +kernel
theorem dX12_lesser_9 : decode cX12_lesser 9 = .ok (.iload_n 2, 1) := by decide +kernel
theorem dX12_lesser_10 : decode cX12_lesser 10 = .ok (.ireturn, 1) := by decide +kernel
def T_X12_lesser (x1 : Int32) (x2 : Int32) (M : Mm) (K : Int32 → Mm → Prop) : Prop := ((x2 ≤ x1 → (K x2 M)) ∧ (¬ x2 ≤ x1 → (K x1 M)))
set_option maxHeartbeats 4000000 in
set_option maxRecDepth 100000 in
theorem c_X12_lesser (l : Launch) (G : fx_G) {x1 : Int32} {x2 : Int32} {M : Mm} {K : Int32 → Mm → Prop} (hT : T_X12_lesser x1 x2 M K) : Met l yX12_lesser (fx_ws yX12_lesser cX12_lesser 3 (some .int)) (fx_rm (0)) (va_Pc [.ref (G.2.2.2 + 159), .int x1, .int x2] (fx_P G SH M)) (va_Qi K (fx_R G SH) (fx_A G)) 0 0 (fx_A G) := by
  refine fx_met (own := RX12) (by decide +kernel) rfl (Nat.le_of_ble_eq_true rfl) (fun p e s m below meth c X hr hk h ls hl => ?_)
  obtain ⟨⟨hx, hb, hml, hown, hts⟩, hK, hQ⟩ := id X
  have hl : lv_has ls 3 [(0, .ref (G.2.2.2 + 159)), (1, .int x1), (2, .int x2)] := hl
  unfold T_X12_lesser at hT
  refine lv_iload_n hx hb dX12_lesser_0 rfl (lv_at hl 1 rfl) ?_
  refine lv_iload_n hx hb dX12_lesser_1 rfl (lv_at hl 2 rfl) ?_
  refine lv_icmp_ge (tgt := 9) hx hb dX12_lesser_2 (by decide) (fun hc1 => ?_) (fun hc1 => ?_)
  · have hT := hT.1 hc1
    refine lv_iload_n hx hb dX12_lesser_9 rfl (lv_at hl 2 rfl) ?_
    exact fx_iret X hr hk h hT dX12_lesser_10
  · have hT := hT.2 hc1
    refine lv_iload_n hx hb dX12_lesser_5 rfl (lv_at hl 1 rfl) ?_
    refine lv_goto (tgt := 10) hx hb dX12_lesser_6 (by decide) ?_
    exact fx_iret X hr hk h hT dX12_lesser_10
/-! MockParcelsModel.added(II)I -/
theorem dX12_added_0 : decode cX12_added 0 = .ok (.iload_n 1, 1) := by decide +kernel
theorem dX12_added_1 : decode cX12_added 1 = .ok (.ldc 137, 2) := by decide +kernel
theorem dX12_added_3 : decode cX12_added 3 = .ok (.iload_n 2, 1) := by decide +kernel
theorem dX12_added_4 : decode cX12_added 4 = .ok (.isub, 1) := by decide +kernel
theorem dX12_added_5 : decode cX12_added 5 = .ok (.if_icmp .lt 12, 3) := by decide +kernel
theorem dX12_added_8 : decode cX12_added 8 = .ok (.iload_n 1, 1) := by decide +kernel
theorem dX12_added_9 : decode cX12_added 9 = .ok (.ldc 137, 2) := by decide +kernel
theorem dX12_added_11 : decode cX12_added 11 = .ok (.iload_n 2, 1) := by decide +kernel
theorem dX12_added_12 : decode cX12_added 12 = .ok (.isub, 1) := by decide +kernel
theorem dX12_added_13 : decode cX12_added 13 = .ok (.isub, 1) := by decide +kernel
theorem dX12_added_14 : decode cX12_added 14 = .ok (.goto 6, 3) := by decide +kernel
theorem dX12_added_17 : decode cX12_added 17 = .ok (.iload_n 1, 1) := by decide +kernel
theorem dX12_added_18 : decode cX12_added 18 = .ok (.iload_n 2, 1) := by decide +kernel
theorem dX12_added_19 : decode cX12_added 19 = .ok (.iadd, 1) := by decide +kernel
theorem dX12_added_20 : decode cX12_added 20 = .ok (.ireturn, 1) := by decide +kernel
def T_X12_added (x1 : Int32) (x2 : Int32) (M : Mm) (K : Int32 → Mm → Prop) : Prop := ((x1 < ((1000000007 : Int32) - x2) → (K (x1 + x2) M)) ∧ (¬ x1 < ((1000000007 : Int32) - x2) → (K (x1 - ((1000000007 : Int32) - x2)) M)))
set_option maxHeartbeats 4000000 in
set_option maxRecDepth 100000 in
theorem c_X12_added (l : Launch) (G : fx_G) {x1 : Int32} {x2 : Int32} {M : Mm} {K : Int32 → Mm → Prop} (hT : T_X12_added x1 x2 M K) : Met l yX12_added (fx_ws yX12_added cX12_added 3 (some .int)) (fx_rm (0)) (va_Pc [.ref (G.2.2.2 + 159), .int x1, .int x2] (fx_P G SH M)) (va_Qi K (fx_R G SH) (fx_A G)) 0 0 (fx_A G) := by
  refine fx_met (own := RX12) (by decide +kernel) rfl (Nat.le_of_ble_eq_true rfl) (fun p e s m below meth c X hr hk h ls hl => ?_)
  obtain ⟨⟨hx, hb, hml, hown, hts⟩, hK, hQ⟩ := id X
  have hl : lv_has ls 3 [(0, .ref (G.2.2.2 + 159)), (1, .int x1), (2, .int x2)] := hl
  unfold T_X12_added at hT
  refine lv_iload_n hx hb dX12_added_0 rfl (lv_at hl 1 rfl) ?_
  refine lv_ldc (v := 1000000007) hx hb hown (hts _ (fx_s8 (List.mem_of_getElem? (i := 196) rfl) rfl)) dX12_added_1 ?_
  refine lv_iload_n hx hb dX12_added_3 rfl (lv_at hl 2 rfl) ?_
  refine lv_isub hx hb dX12_added_4 ?_
  refine lv_icmp_lt (tgt := 17) hx hb dX12_added_5 (by decide) (fun hc1 => ?_) (fun hc1 => ?_)
  · have hT := hT.1 hc1
    refine lv_iload_n hx hb dX12_added_17 rfl (lv_at hl 1 rfl) ?_
    refine lv_iload_n hx hb dX12_added_18 rfl (lv_at hl 2 rfl) ?_
    refine lv_iadd hx hb dX12_added_19 ?_
    exact fx_iret X hr hk h hT dX12_added_20
  · have hT := hT.2 hc1
    refine lv_iload_n hx hb dX12_added_8 rfl (lv_at hl 1 rfl) ?_
    refine lv_ldc (v := 1000000007) hx hb hown (hts _ (fx_s8 (List.mem_of_getElem? (i := 196) rfl) rfl)) dX12_added_9 ?_
    refine lv_iload_n hx hb dX12_added_11 rfl (lv_at hl 2 rfl) ?_
    refine lv_isub hx hb dX12_added_12 ?_
    refine lv_isub hx hb dX12_added_13 ?_
    refine lv_goto (tgt := 20) hx hb dX12_added_14 (by decide) ?_
    exact fx_iret X hr hk h hT dX12_added_20
/-! MockParcelsModel.onesOf(I)I -/
theorem dX12_onesOf_0 : decode cX12_onesOf 0 = .ok (.iconst 0, 1) := by decide +kernel
theorem dX12_onesOf_1 : decode cX12_onesOf 1 = .ok (.istore_n 2, 1) := by decide +kernel
theorem dX12_onesOf_2 : decode cX12_onesOf 2 = .ok (.iload_n 1, 1) := by decide +kernel
theorem dX12_onesOf_3 : decode cX12_onesOf 3 = .ok (.istore_n 3, 1) := by decide +kernel
theorem dX12_onesOf_4 : decode cX12_onesOf 4 = .ok (.iload_n 3, 1) := by decide +kernel
theorem dX12_onesOf_5 : decode cX12_onesOf 5 = .ok (.ifCond .eq 16, 3) := by decide +kernel
theorem dX12_onesOf_8 : decode cX12_onesOf 8 = .ok (.iload_n 2, 1) := by decide +kernel
theorem dX12_onesOf_9 : decode cX12_onesOf 9 = .ok (.iconst 1, 1) := by decide +kernel
theorem dX12_onesOf_10 : decode cX12_onesOf 10 = .ok (.iadd, 1) := by decide +kernel
theorem dX12_onesOf_11 : decode cX12_onesOf 11 = .ok (.istore_n 2, 1) := by decide +kernel
theorem dX12_onesOf_12 : decode cX12_onesOf 12 = .ok (.iload_n 3, 1) := by decide +kernel
theorem dX12_onesOf_13 : decode cX12_onesOf 13 = .ok (.iload_n 3, 1) := by decide +kernel
theorem dX12_onesOf_14 : decode cX12_onesOf 14 = .ok (.iconst 1, 1) := by decide +kernel
theorem dX12_onesOf_15 : decode cX12_onesOf 15 = .ok (.isub, 1) := by decide +kernel
theorem dX12_onesOf_16 : decode cX12_onesOf 16 = .ok (.iand, 1) := by decide +kernel
theorem dX12_onesOf_17 : decode cX12_onesOf 17 = .ok (.istore_n 3, 1) := by decide +kernel
theorem dX12_onesOf_18 : decode cX12_onesOf 18 = .ok (.goto (-14), 3) := by decide +kernel
theorem dX12_onesOf_21 : decode cX12_onesOf 21 = .ok (.iload_n 2, 1) := by decide +kernel
theorem dX12_onesOf_22 : decode cX12_onesOf 22 = .ok (.ireturn, 1) := by decide +kernel
def T_X12_onesOf_4 : Nat → Int32 → Int32 → Mm → (Int32 → Mm → Prop) → Prop
  | 0, _, _, _, _ => False
  | n + 1, x2, x3, M, K => ((x3 = 0 → (K x2 M)) ∧ (¬ x3 = 0 → (∀ y2 : Int32, y2 = (x2 + (1 : Int32)) → (∀ y3 : Int32, y3 = (x3 &&& (x3 - (1 : Int32))) → (T_X12_onesOf_4 n y2 y3 M K)))))
set_option maxHeartbeats 4000000 in
set_option maxRecDepth 100000 in
theorem w_X12_onesOf_4 {p : Program} {l : Launch} {e : Env} {s : State} {m : MethodId} {args : Array Value} {below : List Frame} {meth : Method} {c : Code} {G : fx_G} {K : Int32 → Mm → Prop} (X : fx_C G p s m c args cX12_onesOf 4 RX12) (hr : meth.sig.returnType = (some .int)) (hk : meth.locks = false) : ∀ (n : Nat) (x2 : Int32) (x3 : Int32) (M : Mm) (H : Heap) (locs : List Loc) (ls : Array Slot), T_X12_onesOf_4 n x2 x3 M K → fx_H G SH M s H locs → lv_has ls 4 [(2, .int x2), (3, .int x3)] → W p l e (fx_rm (0)) s m args below meth c H locs 0 0 (MQ below (va_Qi K (fx_R G SH) (fx_A G)) args s 0 0 (fx_A G)) (F0 m 4 ls []) := by
  obtain ⟨⟨hx, hb, hml, hown, hts⟩, hK, hQ⟩ := id X
  intro n
  induction n with
  | zero =>
    intro x2 x3 M H locs ls hT
    exact hT.elim
  | succ n ih =>
    intro x2 x3 M H locs ls hT h hl
    rw [T_X12_onesOf_4] at hT
    refine lv_iload_n hx hb dX12_onesOf_4 rfl (lv_at hl 1 rfl) ?_
    refine lv_if_eq (tgt := 21) hx hb dX12_onesOf_5 (by decide) (fun hc1 => ?_) (fun hc1 => ?_)
    · have hT := hT.1 hc1
      refine lv_iload_n hx hb dX12_onesOf_21 rfl (lv_at hl 0 rfl) ?_
      exact fx_iret X hr hk h hT dX12_onesOf_22
    · have hT := hT.2 hc1
      refine lv_iload_n hx hb dX12_onesOf_8 rfl (lv_at hl 0 rfl) ?_
      refine lv_iconst (v := 1) hx hb dX12_onesOf_9 (by decide) ?_
      refine lv_iadd hx hb dX12_onesOf_10 ?_
      refine lv_topi (fun y2 ey2 => ?_)
      have hT := hT y2 ey2
      refine lv_istore_n (lv' := [(2, .int y2), (3, .int x3)]) hx hb dX12_onesOf_11 rfl hl (by decide) rfl (fun ls hl => ?_)
      refine lv_iload_n hx hb dX12_onesOf_12 rfl (lv_at hl 1 rfl) ?_
      refine lv_iload_n hx hb dX12_onesOf_13 rfl (lv_at hl 1 rfl) ?_
      refine lv_iconst (v := 1) hx hb dX12_onesOf_14 (by decide) ?_
      refine lv_isub hx hb dX12_onesOf_15 ?_
      refine lv_iand hx hb dX12_onesOf_16 ?_
      refine lv_topi (fun y3 ey3 => ?_)
      have hT := hT y3 ey3
      refine lv_istore_n (lv' := [(3, .int y3), (2, .int y2)]) hx hb dX12_onesOf_17 rfl hl (by decide) rfl (fun ls hl => ?_)
      refine lv_goto (tgt := 4) hx hb dX12_onesOf_18 (by decide) ?_
      exact ih y2 y3 M _ _ ls hT h (lv_sub hl [1, 0] rfl)
def T_X12_onesOf (x1 : Int32) (M : Mm) (K : Int32 → Mm → Prop) : Prop := (T_X12_onesOf_4 5000 (0 : Int32) x1 M K)
set_option maxHeartbeats 4000000 in
set_option maxRecDepth 100000 in
theorem c_X12_onesOf (l : Launch) (G : fx_G) {x1 : Int32} {M : Mm} {K : Int32 → Mm → Prop} (hT : T_X12_onesOf x1 M K) : Met l yX12_onesOf (fx_ws yX12_onesOf cX12_onesOf 4 (some .int)) (fx_rm (0)) (va_Pc [.ref (G.2.2.2 + 159), .int x1] (fx_P G SH M)) (va_Qi K (fx_R G SH) (fx_A G)) 0 0 (fx_A G) := by
  refine fx_met (own := RX12) (by decide +kernel) rfl (Nat.le_of_ble_eq_true rfl) (fun p e s m below meth c X hr hk h ls hl => ?_)
  obtain ⟨⟨hx, hb, hml, hown, hts⟩, hK, hQ⟩ := id X
  have hl : lv_has ls 4 [(0, .ref (G.2.2.2 + 159)), (1, .int x1)] := hl
  unfold T_X12_onesOf at hT
  refine lv_iconst (v := 0) hx hb dX12_onesOf_0 (by decide) ?_
  refine lv_istore_n (lv' := [(2, .int (0 : Int32)), (0, .ref (G.2.2.2 + 159)), (1, .int x1)]) hx hb dX12_onesOf_1 rfl hl (by decide) rfl (fun ls hl => ?_)
  refine lv_iload_n hx hb dX12_onesOf_2 rfl (lv_at hl 2 rfl) ?_
  refine lv_istore_n (lv' := [(3, .int x1), (2, .int (0 : Int32)), (0, .ref (G.2.2.2 + 159)), (1, .int x1)]) hx hb dX12_onesOf_3 rfl hl (by decide) rfl (fun ls hl => ?_)
  exact w_X12_onesOf_4 X hr hk 5000 (0 : Int32) x1 M _ _ ls hT h (lv_sub hl [1, 0] rfl)
/-! MockParcelsModel.has(II)Z -/
theorem dX12_has_0 : decode cX12_has 0 = .ok (.iload_n 1, 1) := by decide +kernel
theorem dX12_has_1 : decode cX12_has 1 = .ok (.iload_n 2, 1) := by decide +kernel
theorem dX12_has_2 : decode cX12_has 2 = .ok (.ishr, 1) := by decide +kernel
theorem dX12_has_3 : decode cX12_has 3 = .ok (.iconst 1, 1) := by decide +kernel
theorem dX12_has_4 : decode cX12_has 4 = .ok (.iand, 1) := by decide +kernel
theorem dX12_has_5 : decode cX12_has 5 = .ok (.iconst 1, 1) := by decide +kernel
theorem dX12_has_6 : decode cX12_has 6 = .ok (.if_icmp .ne 7, 3) := by decide +kernel
theorem dX12_has_9 : decode cX12_has 9 = .ok (.iconst 1, 1) := by decide +kernel
theorem dX12_has_10 : decode cX12_has 10 = .ok (.goto 4, 3) := by decide +kernel
theorem dX12_has_13 : decode cX12_has 13 = .ok (.iconst 0, 1) := by decide +kernel
theorem dX12_has_14 : decode cX12_has 14 = .ok (.ireturn, 1) := by decide +kernel
def T_X12_has (x1 : Int32) (x2 : Int32) (M : Mm) (K : Int32 → Mm → Prop) : Prop := ((((x1 >>> (x2 &&& 31)) &&& (1 : Int32)) = (1 : Int32) → (K (1 : Int32) M)) ∧ (¬ ((x1 >>> (x2 &&& 31)) &&& (1 : Int32)) = (1 : Int32) → (K (0 : Int32) M)))
set_option maxHeartbeats 4000000 in
set_option maxRecDepth 100000 in
theorem c_X12_has (l : Launch) (G : fx_G) {x1 : Int32} {x2 : Int32} {M : Mm} {K : Int32 → Mm → Prop} (hT : T_X12_has x1 x2 M K) : Met l yX12_has (fx_ws yX12_has cX12_has 3 (some .boolean)) (fx_rm (0)) (va_Pc [.ref (G.2.2.2 + 159), .int x1, .int x2] (fx_P G SH M)) (va_Qi K (fx_R G SH) (fx_A G)) 0 0 (fx_A G) := by
  refine fx_met (own := RX12) (by decide +kernel) rfl (Nat.le_of_ble_eq_true rfl) (fun p e s m below meth c X hr hk h ls hl => ?_)
  obtain ⟨⟨hx, hb, hml, hown, hts⟩, hK, hQ⟩ := id X
  have hl : lv_has ls 3 [(0, .ref (G.2.2.2 + 159)), (1, .int x1), (2, .int x2)] := hl
  unfold T_X12_has at hT
  refine lv_iload_n hx hb dX12_has_0 rfl (lv_at hl 1 rfl) ?_
  refine lv_iload_n hx hb dX12_has_1 rfl (lv_at hl 2 rfl) ?_
  refine lv_ishr hx hb dX12_has_2 ?_
  refine lv_iconst (v := 1) hx hb dX12_has_3 (by decide) ?_
  refine lv_iand hx hb dX12_has_4 ?_
  refine lv_iconst (v := 1) hx hb dX12_has_5 (by decide) ?_
  refine lv_icmp_ne (tgt := 13) hx hb dX12_has_6 (by decide) (fun hc1 => ?_) (fun hc1 => ?_)
  · have hT := hT.2 hc1
    refine lv_iconst (v := 0) hx hb dX12_has_13 (by decide) ?_
    exact fx_zret X hr hk h (Or.inl rfl) hT dX12_has_14
  · have hT := hT.1 hc1
    refine lv_iconst (v := 1) hx hb dX12_has_9 (by decide) ?_
    refine lv_goto (tgt := 14) hx hb dX12_has_10 (by decide) ?_
    exact fx_zret X hr hk h (Or.inr rfl) hT dX12_has_14
/-! MockParcelsModel.keepsAhead()V -/
theorem dX12_keepsAhead_0 : decode cX12_keepsAhead 0 = .ok (.aload_n 0, 1) := by decide +kernel
theorem dX12_keepsAhead_1 : decode cX12_keepsAhead 1 = .ok (.getfield 138, 3) := by decide +kernel
theorem dX12_keepsAhead_4 : decode cX12_keepsAhead 4 = .ok (.bipush 6, 2) := by decide +kernel
theorem dX12_keepsAhead_6 : decode cX12_keepsAhead 6 = .ok (.if_icmp .ne 49, 3) := by decide +kernel
theorem dX12_keepsAhead_9 : decode cX12_keepsAhead 9 = .ok (.aload_n 0, 1) := by decide +kernel
theorem dX12_keepsAhead_10 : decode cX12_keepsAhead 10 = .ok (.aload_n 0, 1) := by decide +kernel
theorem dX12_keepsAhead_11 : decode cX12_keepsAhead 11 = .ok (.getfield 138, 3) := by decide +kernel
theorem dX12_keepsAhead_14 : decode cX12_keepsAhead 14 = .ok (.iconst 1, 1) := by decide +kernel
theorem dX12_keepsAhead_15 : decode cX12_keepsAhead 15 = .ok (.isub, 1) := by decide +kernel
theorem dX12_keepsAhead_16 : decode cX12_keepsAhead 16 = .ok (.putfield 138, 3) := by decide +kernel
theorem dX12_keepsAhead_19 : decode cX12_keepsAhead 19 = .ok (.iconst 0, 1) := by decide +kernel
theorem dX12_keepsAhead_20 : decode cX12_keepsAhead 20 = .ok (.istore_n 1, 1) := by decide +kernel
theorem dX12_keepsAhead_21 : decode cX12_keepsAhead 21 = .ok (.iload_n 1, 1) := by decide +kernel
theorem dX12_keepsAhead_22 : decode cX12_keepsAhead 22 = .ok (.sipush 135, 3) := by decide +kernel
theorem dX12_keepsAhead_25 : decode cX12_keepsAhead 25 = .ok (.aload_n 0, 1) := by decide +kernel
theorem dX12_keepsAhead_26 : decode cX12_keepsAhead 26 = .ok (.getfield 138, 3) := by decide +kernel
theorem dX12_keepsAhead_29 : decode cX12_keepsAhead 29 = .ok (.imul, 1) := by decide +kernel
theorem dX12_keepsAhead_30 : decode cX12_keepsAhead 30 = .ok (.if_icmp .ge 25, 3) := by decide +kernel
theorem dX12_keepsAhead_33 : decode cX12_keepsAhead 33 = .ok (.aload_n 0, 1) := by decide +kernel
theorem dX12_keepsAhead_34 : decode cX12_keepsAhead 34 = .ok (.getfield 13, 3) := by decide +kernel
theorem dX12_keepsAhead_37 : decode cX12_keepsAhead 37 = .ok (.iload_n 1, 1) := by decide +kernel
theorem dX12_keepsAhead_38 : decode cX12_keepsAhead 38 = .ok (.aload_n 0, 1) := by decide +kernel
theorem dX12_keepsAhead_39 : decode cX12_keepsAhead 39 = .ok (.getfield 13, 3) := by decide +kernel
theorem dX12_keepsAhead_42 : decode cX12_keepsAhead 42 = .ok (.iload_n 1, 1) := by decide +kernel
theorem dX12_keepsAhead_43 : decode cX12_keepsAhead 43 = .ok (.sipush 135, 3) := by decide +kernel
theorem dX12_keepsAhead_46 : decode cX12_keepsAhead 46 = .ok (.iadd, 1) := by decide +kernel
theorem dX12_keepsAhead_47 : decode cX12_keepsAhead 47 = .ok (.iaload, 1) := by decide +kernel
theorem dX12_keepsAhead_48 : decode cX12_keepsAhead 48 = .ok (.iastore, 1) := by decide +kernel
theorem dX12_keepsAhead_49 : decode cX12_keepsAhead 49 = .ok (.iinc 1 1, 3) := by decide +kernel
theorem dX12_keepsAhead_52 : decode cX12_keepsAhead 52 = .ok (.goto (-31), 3) := by decide +kernel
theorem dX12_keepsAhead_55 : decode cX12_keepsAhead 55 = .ok (.iconst 0, 1) := by decide +kernel
theorem dX12_keepsAhead_56 : decode cX12_keepsAhead 56 = .ok (.istore_n 1, 1) := by decide +kernel
theorem dX12_keepsAhead_57 : decode cX12_keepsAhead 57 = .ok (.iload_n 1, 1) := by decide +kernel
theorem dX12_keepsAhead_58 : decode cX12_keepsAhead 58 = .ok (.sipush 135, 3) := by decide +kernel
theorem dX12_keepsAhead_61 : decode cX12_keepsAhead 61 = .ok (.if_icmp .ge 30, 3) := by decide +kernel
theorem dX12_keepsAhead_64 : decode cX12_keepsAhead 64 = .ok (.aload_n 0, 1) := by decide +kernel
theorem dX12_keepsAhead_65 : decode cX12_keepsAhead 65 = .ok (.getfield 13, 3) := by decide +kernel
theorem dX12_keepsAhead_68 : decode cX12_keepsAhead 68 = .ok (.sipush 135, 3) := by decide +kernel
theorem dX12_keepsAhead_71 : decode cX12_keepsAhead 71 = .ok (.aload_n 0, 1) := by decide +kernel
theorem dX12_keepsAhead_72 : decode cX12_keepsAhead 72 = .ok (.getfield 138, 3) := by decide +kernel
theorem dX12_keepsAhead_75 : decode cX12_keepsAhead 75 = .ok (.imul, 1) := by decide +kernel
theorem dX12_keepsAhead_76 : decode cX12_keepsAhead 76 = .ok (.iload_n 1, 1) := by decide +kernel
theorem dX12_keepsAhead_77 : decode cX12_keepsAhead 77 = .ok (.iadd, 1) := by decide +kernel
theorem dX12_keepsAhead_78 : decode cX12_keepsAhead 78 = .ok (.aload_n 0, 1) := by decide +kernel
theorem dX12_keepsAhead_79 : decode cX12_keepsAhead 79 = .ok (.getfield 7, 3) := by decide +kernel
theorem dX12_keepsAhead_82 : decode cX12_keepsAhead 82 = .ok (.iload_n 1, 1) := by decide +kernel
theorem dX12_keepsAhead_83 : decode cX12_keepsAhead 83 = .ok (.iaload, 1) := by decide +kernel
theorem dX12_keepsAhead_84 : decode cX12_keepsAhead 84 = .ok (.iastore, 1) := by decide +kernel
theorem dX12_keepsAhead_85 : decode cX12_keepsAhead 85 = .ok (.iinc 1 1, 3) := by decide +kernel
theorem dX12_keepsAhead_88 : decode cX12_keepsAhead 88 = .ok (.goto (-31), 3) := by decide +kernel
theorem dX12_keepsAhead_91 : decode cX12_keepsAhead 91 = .ok (.aload_n 0, 1) := by decide +kernel
theorem dX12_keepsAhead_92 : decode cX12_keepsAhead 92 = .ok (.aload_n 0, 1) := by decide +kernel
theorem dX12_keepsAhead_93 : decode cX12_keepsAhead 93 = .ok (.getfield 138, 3) := by decide +kernel
theorem dX12_keepsAhead_96 : decode cX12_keepsAhead 96 = .ok (.iconst 1, 1) := by decide +kernel
theorem dX12_keepsAhead_97 : decode cX12_keepsAhead 97 = .ok (.iadd, 1) := by decide +kernel
theorem dX12_keepsAhead_98 : decode cX12_keepsAhead 98 = .ok (.putfield 138, 3) := by decide +kernel
theorem dX12_keepsAhead_101 : decode cX12_keepsAhead 101 = .ok (.return_, 1) := by decide +kernel
def T_X12_keepsAhead_57 : Nat → Int32 → Mm → (Mm → Prop) → Prop
  | 0, _, _, _ => False
  | n + 1, x1, M, K => (((135 : Int32) ≤ x1 → (∀ M2 : Mm, M2 = m_up M 159 3 ((M 159 3) + (1 : Int32)) → (K M2))) ∧ (¬ (135 : Int32) ≤ x1 → (vp_in x1 135 ∧ (vp_in (((135 : Int32) * (M 159 3)) + x1) 810 ∧ (∀ M4 : Mm, M4 = m_up M 161 ((((135 : Int32) * (M 159 3)) + x1)).toNatClampNeg (M 160 (x1).toNatClampNeg) → (∀ y6 : Int32, y6 = x1 + (1 : Int32) → (T_X12_keepsAhead_57 n y6 M4 K)))))))
set_option maxHeartbeats 4000000 in
set_option maxRecDepth 100000 in
theorem w_X12_keepsAhead_57 {p : Program} {l : Launch} {e : Env} {s : State} {m : MethodId} {args : Array Value} {below : List Frame} {meth : Method} {c : Code} {G : fx_G} {K : Mm → Prop} (X : fx_C G p s m c args cX12_keepsAhead 2 RX12) (hr : meth.sig.returnType = none) (hk : meth.locks = false) : ∀ (n : Nat) (x1 : Int32) (M : Mm) (H : Heap) (locs : List Loc) (ls : Array Slot), T_X12_keepsAhead_57 n x1 M K → fx_H G SH M s H locs → lv_has ls 2 [(0, .ref (G.2.2.2 + 159)), (1, .int x1)] → W p l e (fx_rm (0)) s m args below meth c H locs 0 0 (MQ below (va_Qv K (fx_R G SH) (fx_A G)) args s 0 0 (fx_A G)) (F0 m 57 ls []) := by
  obtain ⟨⟨hx, hb, hml, hown, hts⟩, hK, hQ⟩ := id X
  intro n
  induction n with
  | zero =>
    intro x1 M H locs ls hT
    exact hT.elim
  | succ n ih =>
    intro x1 M H locs ls hT h hl
    rw [T_X12_keepsAhead_57] at hT
    refine lv_iload_n hx hb dX12_keepsAhead_57 rfl (lv_at hl 1 rfl) ?_
    refine lv_sipush (v := 135) hx hb dX12_keepsAhead_58 (by decide) ?_
    refine lv_icmp_ge (tgt := 91) hx hb dX12_keepsAhead_61 (by decide) (fun hc1 => ?_) (fun hc1 => ?_)
    · have hT := hT.1 hc1
      refine lv_aload_n hx hb dX12_keepsAhead_91 rfl (lv_at hl 0 rfl) ?_
      refine lv_aload_n hx hb dX12_keepsAhead_92 rfl (lv_at hl 0 rfl) ?_
      refine fx_getI X h (k := 159) (j := 3) sh_159 rfl fl_RX12_138 dX12_keepsAhead_93 ?_
      refine lv_iconst (v := 1) hx hb dX12_keepsAhead_96 (by decide) ?_
      refine lv_iadd hx hb dX12_keepsAhead_97 ?_
      refine fx_putI X h (k := 159) (j := 3) sh_159 rfl fl_RX12_138 dX12_keepsAhead_98 (fun H locs h => ?_)
      obtain ⟨M2, eM2⟩ : ∃ z : Mm, z = m_up M 159 3 ((M 159 3) + (1 : Int32)) := ⟨_, rfl⟩
      have hT := hT M2 eM2
      rw [← eM2] at h
      exact fx_vret X hr hk h hT dX12_keepsAhead_101
    · have hT := hT.2 hc1
      refine lv_aload_n hx hb dX12_keepsAhead_64 rfl (lv_at hl 0 rfl) ?_
      refine fx_getR X h (k := 159) (j := 2) (r := 161) sh_159 rfl fl_RX12_13 dX12_keepsAhead_65 ?_
      refine lv_sipush (v := 135) hx hb dX12_keepsAhead_68 (by decide) ?_
      refine lv_aload_n hx hb dX12_keepsAhead_71 rfl (lv_at hl 0 rfl) ?_
      refine fx_getI X h (k := 159) (j := 3) sh_159 rfl fl_RX12_138 dX12_keepsAhead_72 ?_
      refine lv_imul hx hb dX12_keepsAhead_75 ?_
      refine lv_iload_n hx hb dX12_keepsAhead_76 rfl (lv_at hl 1 rfl) ?_
      refine lv_iadd hx hb dX12_keepsAhead_77 ?_
      refine lv_aload_n hx hb dX12_keepsAhead_78 rfl (lv_at hl 0 rfl) ?_
      refine fx_getR X h (k := 159) (j := 1) (r := 160) sh_159 rfl fl_RX12_7 dX12_keepsAhead_79 ?_
      refine lv_iload_n hx hb dX12_keepsAhead_82 rfl (lv_at hl 1 rfl) ?_
      obtain ⟨hi3, hT⟩ := hT
      refine fx_iald X h (k := 160) sh_160 hi3 dX12_keepsAhead_83 ?_
      obtain ⟨hi5, hT⟩ := hT
      refine fx_iast X h (k := 161) sh_161 hi5 dX12_keepsAhead_84 (fun H locs h => ?_)
      obtain ⟨M4, eM4⟩ : ∃ z : Mm, z = m_up M 161 ((((135 : Int32) * (M 159 3)) + x1)).toNatClampNeg (M 160 (x1).toNatClampNeg) := ⟨_, rfl⟩
      have hT := hT M4 eM4
      rw [← eM4] at h
      obtain ⟨y6, ey6⟩ : ∃ z : Int32, z = x1 + (1 : Int32) := ⟨_, rfl⟩
      have hT := hT y6 ey6
      refine lv_iinc (v := y6) (lv' := [(1, .int y6), (0, .ref (G.2.2.2 + 159))]) hx hb dX12_keepsAhead_85 hl (k := 1) rfl (by rw [ey6]; rfl) (by decide) rfl (fun ls hl => ?_)
      refine lv_goto (tgt := 57) hx hb dX12_keepsAhead_88 (by decide) ?_
      exact ih y6 M4 _ _ ls hT h (lv_sub hl [1, 0] rfl)
def T_X12_keepsAhead_55 (M : Mm) (K : Mm → Prop) : Prop := (T_X12_keepsAhead_57 5000 (0 : Int32) M K)
set_option maxHeartbeats 4000000 in
set_option maxRecDepth 100000 in
theorem w_X12_keepsAhead_55 {p : Program} {l : Launch} {e : Env} {s : State} {m : MethodId} {args : Array Value} {below : List Frame} {meth : Method} {c : Code} {G : fx_G} {K : Mm → Prop} (X : fx_C G p s m c args cX12_keepsAhead 2 RX12) (hr : meth.sig.returnType = none) (hk : meth.locks = false) : ∀ (M : Mm) (H : Heap) (locs : List Loc) (ls : Array Slot), T_X12_keepsAhead_55  M K → fx_H G SH M s H locs → lv_has ls 2 [(0, .ref (G.2.2.2 + 159))] → W p l e (fx_rm (0)) s m args below meth c H locs 0 0 (MQ below (va_Qv K (fx_R G SH) (fx_A G)) args s 0 0 (fx_A G)) (F0 m 55 ls []) := by
  obtain ⟨⟨hx, hb, hml, hown, hts⟩, hK, hQ⟩ := id X
  intro  M H locs ls hT h hl
  unfold T_X12_keepsAhead_55 at hT
  refine lv_iconst (v := 0) hx hb dX12_keepsAhead_55 (by decide) ?_
  refine lv_istore_n (lv' := [(1, .int (0 : Int32)), (0, .ref (G.2.2.2 + 159))]) hx hb dX12_keepsAhead_56 rfl hl (by decide) rfl (fun ls hl => ?_)
  exact w_X12_keepsAhead_57 X hr hk 5000 (0 : Int32) M _ _ ls hT h (lv_sub hl [1, 0] rfl)
def T_X12_keepsAhead_21 : Nat → Int32 → Mm → (Mm → Prop) → Prop
  | 0, _, _, _ => False
  | n + 1, x1, M, K => ((((135 : Int32) * (M 159 3)) ≤ x1 → (T_X12_keepsAhead_55 M K)) ∧ (¬ ((135 : Int32) * (M 159 3)) ≤ x1 → (vp_in (x1 + (135 : Int32)) 810 ∧ (vp_in x1 810 ∧ (∀ M9 : Mm, M9 = m_up M 161 (x1).toNatClampNeg (M 161 ((x1 + (135 : Int32))).toNatClampNeg) → (∀ y11 : Int32, y11 = x1 + (1 : Int32) → (T_X12_keepsAhead_21 n y11 M9 K)))))))
set_option maxHeartbeats 4000000 in
set_option maxRecDepth 100000 in
theorem w_X12_keepsAhead_21 {p : Program} {l : Launch} {e : Env} {s : State} {m : MethodId} {args : Array Value} {below : List Frame} {meth : Method} {c : Code} {G : fx_G} {K : Mm → Prop} (X : fx_C G p s m c args cX12_keepsAhead 2 RX12) (hr : meth.sig.returnType = none) (hk : meth.locks = false) : ∀ (n : Nat) (x1 : Int32) (M : Mm) (H : Heap) (locs : List Loc) (ls : Array Slot), T_X12_keepsAhead_21 n x1 M K → fx_H G SH M s H locs → lv_has ls 2 [(0, .ref (G.2.2.2 + 159)), (1, .int x1)] → W p l e (fx_rm (0)) s m args below meth c H locs 0 0 (MQ below (va_Qv K (fx_R G SH) (fx_A G)) args s 0 0 (fx_A G)) (F0 m 21 ls []) := by
  obtain ⟨⟨hx, hb, hml, hown, hts⟩, hK, hQ⟩ := id X
  intro n
  induction n with
  | zero =>
    intro x1 M H locs ls hT
    exact hT.elim
  | succ n ih =>
    intro x1 M H locs ls hT h hl
    rw [T_X12_keepsAhead_21] at hT
    refine lv_iload_n hx hb dX12_keepsAhead_21 rfl (lv_at hl 1 rfl) ?_
    refine lv_sipush (v := 135) hx hb dX12_keepsAhead_22 (by decide) ?_
    refine lv_aload_n hx hb dX12_keepsAhead_25 rfl (lv_at hl 0 rfl) ?_
    refine fx_getI X h (k := 159) (j := 3) sh_159 rfl fl_RX12_138 dX12_keepsAhead_26 ?_
    refine lv_imul hx hb dX12_keepsAhead_29 ?_
    refine lv_icmp_ge (tgt := 55) hx hb dX12_keepsAhead_30 (by decide) (fun hc7 => ?_) (fun hc7 => ?_)
    · have hT := hT.1 hc7
      exact w_X12_keepsAhead_55 X hr hk M _ _ ls hT h (lv_sub hl [0] rfl)
    · have hT := hT.2 hc7
      refine lv_aload_n hx hb dX12_keepsAhead_33 rfl (lv_at hl 0 rfl) ?_
      refine fx_getR X h (k := 159) (j := 2) (r := 161) sh_159 rfl fl_RX12_13 dX12_keepsAhead_34 ?_
      refine lv_iload_n hx hb dX12_keepsAhead_37 rfl (lv_at hl 1 rfl) ?_
      refine lv_aload_n hx hb dX12_keepsAhead_38 rfl (lv_at hl 0 rfl) ?_
      refine fx_getR X h (k := 159) (j := 2) (r := 161) sh_159 rfl fl_RX12_13 dX12_keepsAhead_39 ?_
      refine lv_iload_n hx hb dX12_keepsAhead_42 rfl (lv_at hl 1 rfl) ?_
      refine lv_sipush (v := 135) hx hb dX12_keepsAhead_43 (by decide) ?_
      refine lv_iadd hx hb dX12_keepsAhead_46 ?_
      obtain ⟨hi8, hT⟩ := hT
      refine fx_iald X h (k := 161) sh_161 hi8 dX12_keepsAhead_47 ?_
      obtain ⟨hi10, hT⟩ := hT
      refine fx_iast X h (k := 161) sh_161 hi10 dX12_keepsAhead_48 (fun H locs h => ?_)
      obtain ⟨M9, eM9⟩ : ∃ z : Mm, z = m_up M 161 (x1).toNatClampNeg (M 161 ((x1 + (135 : Int32))).toNatClampNeg) := ⟨_, rfl⟩
      have hT := hT M9 eM9
      rw [← eM9] at h
      obtain ⟨y11, ey11⟩ : ∃ z : Int32, z = x1 + (1 : Int32) := ⟨_, rfl⟩
      have hT := hT y11 ey11
      refine lv_iinc (v := y11) (lv' := [(1, .int y11), (0, .ref (G.2.2.2 + 159))]) hx hb dX12_keepsAhead_49 hl (k := 1) rfl (by rw [ey11]; rfl) (by decide) rfl (fun ls hl => ?_)
      refine lv_goto (tgt := 21) hx hb dX12_keepsAhead_52 (by decide) ?_
      exact ih y11 M9 _ _ ls hT h (lv_sub hl [1, 0] rfl)
def T_X12_keepsAhead (M : Mm) (K : Mm → Prop) : Prop := (((M 159 3) = (6 : Int32) → (∀ M13 : Mm, M13 = m_up M 159 3 ((M 159 3) - (1 : Int32)) → (T_X12_keepsAhead_21 5000 (0 : Int32) M13 K))) ∧ (¬ (M 159 3) = (6 : Int32) → (T_X12_keepsAhead_55 M K)))
set_option maxHeartbeats 4000000 in
set_option maxRecDepth 100000 in
theorem c_X12_keepsAhead (l : Launch) (G : fx_G) {M : Mm} {K : Mm → Prop} (hT : T_X12_keepsAhead M K) : Met l yX12_keepsAhead (fx_ws yX12_keepsAhead cX12_keepsAhead 2 none) (fx_rm (0)) (va_Pc [.ref (G.2.2.2 + 159)] (fx_P G SH M)) (va_Qv K (fx_R G SH) (fx_A G)) 0 0 (fx_A G) := by
  refine fx_met (own := RX12) (by decide +kernel) rfl (Nat.le_of_ble_eq_true rfl) (fun p e s m below meth c X hr hk h ls hl => ?_)
  obtain ⟨⟨hx, hb, hml, hown, hts⟩, hK, hQ⟩ := id X
  have hl : lv_has ls 2 [(0, .ref (G.2.2.2 + 159))] := hl
  unfold T_X12_keepsAhead at hT
  refine lv_aload_n hx hb dX12_keepsAhead_0 rfl (lv_at hl 0 rfl) ?_
  refine fx_getI X h (k := 159) (j := 3) sh_159 rfl fl_RX12_138 dX12_keepsAhead_1 ?_
  refine lv_bipush (v := 6) hx hb dX12_keepsAhead_4 (by decide) ?_
  refine lv_icmp_ne (tgt := 55) hx hb dX12_keepsAhead_6 (by decide) (fun hc12 => ?_) (fun hc12 => ?_)
  · have hT := hT.2 hc12
    exact w_X12_keepsAhead_55 X hr hk M _ _ ls hT h (lv_sub hl [0] rfl)
  · have hT := hT.1 hc12
    refine lv_aload_n hx hb dX12_keepsAhead_9 rfl (lv_at hl 0 rfl) ?_
    refine lv_aload_n hx hb dX12_keepsAhead_10 rfl (lv_at hl 0 rfl) ?_
    refine fx_getI X h (k := 159) (j := 3) sh_159 rfl fl_RX12_138 dX12_keepsAhead_11 ?_
    refine lv_iconst (v := 1) hx hb dX12_keepsAhead_14 (by decide) ?_
    refine lv_isub hx hb dX12_keepsAhead_15 ?_
    refine fx_putI X h (k := 159) (j := 3) sh_159 rfl fl_RX12_138 dX12_keepsAhead_16 (fun H locs h => ?_)
    obtain ⟨M13, eM13⟩ : ∃ z : Mm, z = m_up M 159 3 ((M 159 3) - (1 : Int32)) := ⟨_, rfl⟩
    have hT := hT M13 eM13
    rw [← eM13] at h
    refine lv_iconst (v := 0) hx hb dX12_keepsAhead_19 (by decide) ?_
    refine lv_istore_n (lv' := [(1, .int (0 : Int32)), (0, .ref (G.2.2.2 + 159))]) hx hb dX12_keepsAhead_20 rfl hl (by decide) rfl (fun ls hl => ?_)
    exact w_X12_keepsAhead_21 X hr hk 5000 (0 : Int32) M13 _ _ ls hT h (lv_sub hl [1, 0] rfl)
/-! MockParcelsModel.undo()Z -/
theorem dX12_undo_0 : decode cX12_undo 0 = .ok (.aload_n 0, 1) := by decide +kernel
theorem dX12_undo_1 : decode cX12_undo 1 = .ok (.iconst 0, 1) := by decide +kernel
theorem dX12_undo_2 : decode cX12_undo 2 = .ok (.putfield 134, 3) := by decide +kernel
theorem dX12_undo_5 : decode cX12_undo 5 = .ok (.aload_n 0, 1) := by decide +kernel
theorem dX12_undo_6 : decode cX12_undo 6 = .ok (.getfield 138, 3) := by decide +kernel
theorem dX12_undo_9 : decode cX12_undo 9 = .ok (.ifCond .ne 5, 3) := by decide +kernel
theorem dX12_undo_12 : decode cX12_undo 12 = .ok (.iconst 0, 1) := by decide +kernel
theorem dX12_undo_13 : decode cX12_undo 13 = .ok (.ireturn, 1) := by decide +kernel
theorem dX12_undo_14 : decode cX12_undo 14 = .ok (.aload_n 0, 1) := by decide +kernel
theorem dX12_undo_15 : decode cX12_undo 15 = .ok (.aload_n 0, 1) := by decide +kernel
theorem dX12_undo_16 : decode cX12_undo 16 = .ok (.getfield 138, 3) := by decide +kernel
theorem dX12_undo_19 : decode cX12_undo 19 = .ok (.iconst 1, 1) := by decide +kernel
theorem dX12_undo_20 : decode cX12_undo 20 = .ok (.isub, 1) := by decide +kernel
theorem dX12_undo_21 : decode cX12_undo 21 = .ok (.putfield 138, 3) := by decide +kernel
theorem dX12_undo_24 : decode cX12_undo 24 = .ok (.iconst 0, 1) := by decide +kernel
theorem dX12_undo_25 : decode cX12_undo 25 = .ok (.istore_n 1, 1) := by decide +kernel
theorem dX12_undo_26 : decode cX12_undo 26 = .ok (.iload_n 1, 1) := by decide +kernel
theorem dX12_undo_27 : decode cX12_undo 27 = .ok (.sipush 135, 3) := by decide +kernel
theorem dX12_undo_30 : decode cX12_undo 30 = .ok (.if_icmp .ge 30, 3) := by decide +kernel
theorem dX12_undo_33 : decode cX12_undo 33 = .ok (.aload_n 0, 1) := by decide +kernel
theorem dX12_undo_34 : decode cX12_undo 34 = .ok (.getfield 7, 3) := by decide +kernel
theorem dX12_undo_37 : decode cX12_undo 37 = .ok (.iload_n 1, 1) := by decide +kernel
theorem dX12_undo_38 : decode cX12_undo 38 = .ok (.aload_n 0, 1) := by decide +kernel
theorem dX12_undo_39 : decode cX12_undo 39 = .ok (.getfield 13, 3) := by decide +kernel
theorem dX12_undo_42 : decode cX12_undo 42 = .ok (.sipush 135, 3) := by decide +kernel
theorem dX12_undo_45 : decode cX12_undo 45 = .ok (.aload_n 0, 1) := by decide +kernel
theorem dX12_undo_46 : decode cX12_undo 46 = .ok (.getfield 138, 3) := by decide +kernel
theorem dX12_undo_49 : decode cX12_undo 49 = .ok (.imul, 1) := by decide +kernel
theorem dX12_undo_50 : decode cX12_undo 50 = .ok (.iload_n 1, 1) := by decide +kernel
theorem dX12_undo_51 : decode cX12_undo 51 = .ok (.iadd, 1) := by decide +kernel
theorem dX12_undo_52 : decode cX12_undo 52 = .ok (.iaload, 1) := by decide +kernel
theorem dX12_undo_53 : decode cX12_undo 53 = .ok (.iastore, 1) := by decide +kernel
theorem dX12_undo_54 : decode cX12_undo 54 = .ok (.iinc 1 1, 3) := by decide +kernel
theorem dX12_undo_57 : decode cX12_undo 57 = .ok (.goto (-31), 3) := by decide +kernel
theorem dX12_undo_60 : decode cX12_undo 60 = .ok (.iconst 1, 1) := by decide +kernel
theorem dX12_undo_61 : decode cX12_undo 61 = .ok (.ireturn, 1) := by decide +kernel
def T_X12_undo_26 : Nat → Int32 → Mm → (Int32 → Mm → Prop) → Prop
  | 0, _, _, _ => False
  | n + 1, x1, M, K => (((135 : Int32) ≤ x1 → (K (1 : Int32) M)) ∧ (¬ (135 : Int32) ≤ x1 → (vp_in (((135 : Int32) * (M 159 3)) + x1) 810 ∧ (vp_in x1 135 ∧ (∀ M3 : Mm, M3 = m_up M 160 (x1).toNatClampNeg (M 161 ((((135 : Int32) * (M 159 3)) + x1)).toNatClampNeg) → (∀ y5 : Int32, y5 = x1 + (1 : Int32) → (T_X12_undo_26 n y5 M3 K)))))))
set_option maxHeartbeats 4000000 in
set_option maxRecDepth 100000 in
theorem w_X12_undo_26 {p : Program} {l : Launch} {e : Env} {s : State} {m : MethodId} {args : Array Value} {below : List Frame} {meth : Method} {c : Code} {G : fx_G} {K : Int32 → Mm → Prop} (X : fx_C G p s m c args cX12_undo 2 RX12) (hr : meth.sig.returnType = (some .boolean)) (hk : meth.locks = false) : ∀ (n : Nat) (x1 : Int32) (M : Mm) (H : Heap) (locs : List Loc) (ls : Array Slot), T_X12_undo_26 n x1 M K → fx_H G SH M s H locs → lv_has ls 2 [(0, .ref (G.2.2.2 + 159)), (1, .int x1)] → W p l e (fx_rm (0)) s m args below meth c H locs 0 0 (MQ below (va_Qi K (fx_R G SH) (fx_A G)) args s 0 0 (fx_A G)) (F0 m 26 ls []) := by
  obtain ⟨⟨hx, hb, hml, hown, hts⟩, hK, hQ⟩ := id X
  intro n
  induction n with
  | zero =>
    intro x1 M H locs ls hT
    exact hT.elim
  | succ n ih =>
    intro x1 M H locs ls hT h hl
    rw [T_X12_undo_26] at hT
    refine lv_iload_n hx hb dX12_undo_26 rfl (lv_at hl 1 rfl) ?_
    refine lv_sipush (v := 135) hx hb dX12_undo_27 (by decide) ?_
    refine lv_icmp_ge (tgt := 60) hx hb dX12_undo_30 (by decide) (fun hc1 => ?_) (fun hc1 => ?_)
    · have hT := hT.1 hc1
      refine lv_iconst (v := 1) hx hb dX12_undo_60 (by decide) ?_
      exact fx_zret X hr hk h (Or.inr rfl) hT dX12_undo_61
    · have hT := hT.2 hc1
      refine lv_aload_n hx hb dX12_undo_33 rfl (lv_at hl 0 rfl) ?_
      refine fx_getR X h (k := 159) (j := 1) (r := 160) sh_159 rfl fl_RX12_7 dX12_undo_34 ?_
      refine lv_iload_n hx hb dX12_undo_37 rfl (lv_at hl 1 rfl) ?_
      refine lv_aload_n hx hb dX12_undo_38 rfl (lv_at hl 0 rfl) ?_
      refine fx_getR X h (k := 159) (j := 2) (r := 161) sh_159 rfl fl_RX12_13 dX12_undo_39 ?_
      refine lv_sipush (v := 135) hx hb dX12_undo_42 (by decide) ?_
      refine lv_aload_n hx hb dX12_undo_45 rfl (lv_at hl 0 rfl) ?_
      refine fx_getI X h (k := 159) (j := 3) sh_159 rfl fl_RX12_138 dX12_undo_46 ?_
      refine lv_imul hx hb dX12_undo_49 ?_
      refine lv_iload_n hx hb dX12_undo_50 rfl (lv_at hl 1 rfl) ?_
      refine lv_iadd hx hb dX12_undo_51 ?_
      obtain ⟨hi2, hT⟩ := hT
      refine fx_iald X h (k := 161) sh_161 hi2 dX12_undo_52 ?_
      obtain ⟨hi4, hT⟩ := hT
      refine fx_iast X h (k := 160) sh_160 hi4 dX12_undo_53 (fun H locs h => ?_)
      obtain ⟨M3, eM3⟩ : ∃ z : Mm, z = m_up M 160 (x1).toNatClampNeg (M 161 ((((135 : Int32) * (M 159 3)) + x1)).toNatClampNeg) := ⟨_, rfl⟩
      have hT := hT M3 eM3
      rw [← eM3] at h
      obtain ⟨y5, ey5⟩ : ∃ z : Int32, z = x1 + (1 : Int32) := ⟨_, rfl⟩
      have hT := hT y5 ey5
      refine lv_iinc (v := y5) (lv' := [(1, .int y5), (0, .ref (G.2.2.2 + 159))]) hx hb dX12_undo_54 hl (k := 1) rfl (by rw [ey5]; rfl) (by decide) rfl (fun ls hl => ?_)
      refine lv_goto (tgt := 26) hx hb dX12_undo_57 (by decide) ?_
      exact ih y5 M3 _ _ ls hT h (lv_sub hl [1, 0] rfl)
def T_X12_undo (M : Mm) (K : Int32 → Mm → Prop) : Prop := (∀ M6 : Mm, M6 = m_up M 159 0 (0 : Int32) → (((M6 159 3) = 0 → (K (0 : Int32) M6)) ∧ (¬ (M6 159 3) = 0 → (∀ M8 : Mm, M8 = m_up M6 159 3 ((M6 159 3) - (1 : Int32)) → (T_X12_undo_26 5000 (0 : Int32) M8 K)))))
set_option maxHeartbeats 4000000 in
set_option maxRecDepth 100000 in
theorem c_X12_undo (l : Launch) (G : fx_G) {M : Mm} {K : Int32 → Mm → Prop} (hT : T_X12_undo M K) : Met l yX12_undo (fx_ws yX12_undo cX12_undo 2 (some .boolean)) (fx_rm (0)) (va_Pc [.ref (G.2.2.2 + 159)] (fx_P G SH M)) (va_Qi K (fx_R G SH) (fx_A G)) 0 0 (fx_A G) := by
  refine fx_met (own := RX12) (by decide +kernel) rfl (Nat.le_of_ble_eq_true rfl) (fun p e s m below meth c X hr hk h ls hl => ?_)
  obtain ⟨⟨hx, hb, hml, hown, hts⟩, hK, hQ⟩ := id X
  have hl : lv_has ls 2 [(0, .ref (G.2.2.2 + 159))] := hl
  unfold T_X12_undo at hT
  refine lv_aload_n hx hb dX12_undo_0 rfl (lv_at hl 0 rfl) ?_
  refine lv_iconst (v := 0) hx hb dX12_undo_1 (by decide) ?_
  refine fx_putI X h (k := 159) (j := 0) sh_159 rfl fl_RX12_134 dX12_undo_2 (fun H locs h => ?_)
  obtain ⟨M6, eM6⟩ : ∃ z : Mm, z = m_up M 159 0 (0 : Int32) := ⟨_, rfl⟩
  have hT := hT M6 eM6
  rw [← eM6] at h
  refine lv_aload_n hx hb dX12_undo_5 rfl (lv_at hl 0 rfl) ?_
  refine fx_getI X h (k := 159) (j := 3) sh_159 rfl fl_RX12_138 dX12_undo_6 ?_
  refine lv_if_ne (tgt := 14) hx hb dX12_undo_9 (by decide) (fun hc7 => ?_) (fun hc7 => ?_)
  · have hT := hT.2 hc7
    refine lv_aload_n hx hb dX12_undo_14 rfl (lv_at hl 0 rfl) ?_
    refine lv_aload_n hx hb dX12_undo_15 rfl (lv_at hl 0 rfl) ?_
    refine fx_getI X h (k := 159) (j := 3) sh_159 rfl fl_RX12_138 dX12_undo_16 ?_
    refine lv_iconst (v := 1) hx hb dX12_undo_19 (by decide) ?_
    refine lv_isub hx hb dX12_undo_20 ?_
    refine fx_putI X h (k := 159) (j := 3) sh_159 rfl fl_RX12_138 dX12_undo_21 (fun H locs h => ?_)
    obtain ⟨M8, eM8⟩ : ∃ z : Mm, z = m_up M6 159 3 ((M6 159 3) - (1 : Int32)) := ⟨_, rfl⟩
    have hT := hT M8 eM8
    rw [← eM8] at h
    refine lv_iconst (v := 0) hx hb dX12_undo_24 (by decide) ?_
    refine lv_istore_n (lv' := [(1, .int (0 : Int32)), (0, .ref (G.2.2.2 + 159))]) hx hb dX12_undo_25 rfl hl (by decide) rfl (fun ls hl => ?_)
    exact w_X12_undo_26 X hr hk 5000 (0 : Int32) M8 _ _ ls hT h (lv_sub hl [1, 0] rfl)
  · have hT := hT.1 hc7
    refine lv_iconst (v := 0) hx hb dX12_undo_12 (by decide) ?_
    exact fx_zret X hr hk h (Or.inl rfl) hT dX12_undo_13
/-! MockParcelsModel.thinks()V -/
theorem dX12_thinks_0 : decode cX12_thinks 0 = .ok (.iconst 0, 1) := by decide +kernel
theorem dX12_thinks_1 : decode cX12_thinks 1 = .ok (.istore_n 1, 1) := by decide +kernel
theorem dX12_thinks_2 : decode cX12_thinks 2 = .ok (.iload_n 1, 1) := by decide +kernel
theorem dX12_thinks_3 : decode cX12_thinks 3 = .ok (.sipush 135, 3) := by decide +kernel
theorem dX12_thinks_6 : decode cX12_thinks 6 = .ok (.if_icmp .ge 21, 3) := by decide +kernel
theorem dX12_thinks_9 : decode cX12_thinks 9 = .ok (.aload_n 0, 1) := by decide +kernel
theorem dX12_thinks_10 : decode cX12_thinks 10 = .ok (.getfield 16, 3) := by decide +kernel
theorem dX12_thinks_13 : decode cX12_thinks 13 = .ok (.iload_n 1, 1) := by decide +kernel
theorem dX12_thinks_14 : decode cX12_thinks 14 = .ok (.aload_n 0, 1) := by decide +kernel
theorem dX12_thinks_15 : decode cX12_thinks 15 = .ok (.getfield 7, 3) := by decide +kernel
theorem dX12_thinks_18 : decode cX12_thinks 18 = .ok (.iload_n 1, 1) := by decide +kernel
theorem dX12_thinks_19 : decode cX12_thinks 19 = .ok (.iaload, 1) := by decide +kernel
theorem dX12_thinks_20 : decode cX12_thinks 20 = .ok (.iastore, 1) := by decide +kernel
theorem dX12_thinks_21 : decode cX12_thinks 21 = .ok (.iinc 1 1, 3) := by decide +kernel
theorem dX12_thinks_24 : decode cX12_thinks 24 = .ok (.goto (-22), 3) := by decide +kernel
theorem dX12_thinks_27 : decode cX12_thinks 27 = .ok (.aload_n 0, 1) := by decide +kernel
theorem dX12_thinks_28 : decode cX12_thinks 28 = .ok (.iconst 1, 1) := by decide +kernel
theorem dX12_thinks_29 : decode cX12_thinks 29 = .ok (.putfield 141, 3) := by decide +kernel
theorem dX12_thinks_32 : decode cX12_thinks 32 = .ok (.return_, 1) := by decide +kernel
def T_X12_thinks_2 : Nat → Int32 → Mm → (Mm → Prop) → Prop
  | 0, _, _, _ => False
  | n + 1, x1, M, K => (((135 : Int32) ≤ x1 → (∀ M2 : Mm, M2 = m_up M 159 5 (1 : Int32) → (K M2))) ∧ (¬ (135 : Int32) ≤ x1 → (vp_in x1 135 ∧ (vp_in x1 135 ∧ (∀ M4 : Mm, M4 = m_up M 162 (x1).toNatClampNeg (M 160 (x1).toNatClampNeg) → (∀ y6 : Int32, y6 = x1 + (1 : Int32) → (T_X12_thinks_2 n y6 M4 K)))))))
set_option maxHeartbeats 4000000 in
set_option maxRecDepth 100000 in
theorem w_X12_thinks_2 {p : Program} {l : Launch} {e : Env} {s : State} {m : MethodId} {args : Array Value} {below : List Frame} {meth : Method} {c : Code} {G : fx_G} {K : Mm → Prop} (X : fx_C G p s m c args cX12_thinks 2 RX12) (hr : meth.sig.returnType = none) (hk : meth.locks = false) : ∀ (n : Nat) (x1 : Int32) (M : Mm) (H : Heap) (locs : List Loc) (ls : Array Slot), T_X12_thinks_2 n x1 M K → fx_H G SH M s H locs → lv_has ls 2 [(0, .ref (G.2.2.2 + 159)), (1, .int x1)] → W p l e (fx_rm (0)) s m args below meth c H locs 0 0 (MQ below (va_Qv K (fx_R G SH) (fx_A G)) args s 0 0 (fx_A G)) (F0 m 2 ls []) := by
  obtain ⟨⟨hx, hb, hml, hown, hts⟩, hK, hQ⟩ := id X
  intro n
  induction n with
  | zero =>
    intro x1 M H locs ls hT
    exact hT.elim
  | succ n ih =>
    intro x1 M H locs ls hT h hl
    rw [T_X12_thinks_2] at hT
    refine lv_iload_n hx hb dX12_thinks_2 rfl (lv_at hl 1 rfl) ?_
    refine lv_sipush (v := 135) hx hb dX12_thinks_3 (by decide) ?_
    refine lv_icmp_ge (tgt := 27) hx hb dX12_thinks_6 (by decide) (fun hc1 => ?_) (fun hc1 => ?_)
    · have hT := hT.1 hc1
      refine lv_aload_n hx hb dX12_thinks_27 rfl (lv_at hl 0 rfl) ?_
      refine lv_iconst (v := 1) hx hb dX12_thinks_28 (by decide) ?_
      refine fx_putZ X h (k := 159) (j := 5) (Or.inr rfl) sh_159 rfl fl_RX12_141 dX12_thinks_29 (fun H locs h => ?_)
      obtain ⟨M2, eM2⟩ : ∃ z : Mm, z = m_up M 159 5 (1 : Int32) := ⟨_, rfl⟩
      have hT := hT M2 eM2
      rw [← eM2] at h
      exact fx_vret X hr hk h hT dX12_thinks_32
    · have hT := hT.2 hc1
      refine lv_aload_n hx hb dX12_thinks_9 rfl (lv_at hl 0 rfl) ?_
      refine fx_getR X h (k := 159) (j := 4) (r := 162) sh_159 rfl fl_RX12_16 dX12_thinks_10 ?_
      refine lv_iload_n hx hb dX12_thinks_13 rfl (lv_at hl 1 rfl) ?_
      refine lv_aload_n hx hb dX12_thinks_14 rfl (lv_at hl 0 rfl) ?_
      refine fx_getR X h (k := 159) (j := 1) (r := 160) sh_159 rfl fl_RX12_7 dX12_thinks_15 ?_
      refine lv_iload_n hx hb dX12_thinks_18 rfl (lv_at hl 1 rfl) ?_
      obtain ⟨hi3, hT⟩ := hT
      refine fx_iald X h (k := 160) sh_160 hi3 dX12_thinks_19 ?_
      obtain ⟨hi5, hT⟩ := hT
      refine fx_iast X h (k := 162) sh_162 hi5 dX12_thinks_20 (fun H locs h => ?_)
      obtain ⟨M4, eM4⟩ : ∃ z : Mm, z = m_up M 162 (x1).toNatClampNeg (M 160 (x1).toNatClampNeg) := ⟨_, rfl⟩
      have hT := hT M4 eM4
      rw [← eM4] at h
      obtain ⟨y6, ey6⟩ : ∃ z : Int32, z = x1 + (1 : Int32) := ⟨_, rfl⟩
      have hT := hT y6 ey6
      refine lv_iinc (v := y6) (lv' := [(1, .int y6), (0, .ref (G.2.2.2 + 159))]) hx hb dX12_thinks_21 hl (k := 1) rfl (by rw [ey6]; rfl) (by decide) rfl (fun ls hl => ?_)
      refine lv_goto (tgt := 2) hx hb dX12_thinks_24 (by decide) ?_
      exact ih y6 M4 _ _ ls hT h (lv_sub hl [1, 0] rfl)
def T_X12_thinks (M : Mm) (K : Mm → Prop) : Prop := (T_X12_thinks_2 5000 (0 : Int32) M K)
set_option maxHeartbeats 4000000 in
set_option maxRecDepth 100000 in
theorem c_X12_thinks (l : Launch) (G : fx_G) {M : Mm} {K : Mm → Prop} (hT : T_X12_thinks M K) : Met l yX12_thinks (fx_ws yX12_thinks cX12_thinks 2 none) (fx_rm (0)) (va_Pc [.ref (G.2.2.2 + 159)] (fx_P G SH M)) (va_Qv K (fx_R G SH) (fx_A G)) 0 0 (fx_A G) := by
  refine fx_met (own := RX12) (by decide +kernel) rfl (Nat.le_of_ble_eq_true rfl) (fun p e s m below meth c X hr hk h ls hl => ?_)
  obtain ⟨⟨hx, hb, hml, hown, hts⟩, hK, hQ⟩ := id X
  have hl : lv_has ls 2 [(0, .ref (G.2.2.2 + 159))] := hl
  unfold T_X12_thinks at hT
  refine lv_iconst (v := 0) hx hb dX12_thinks_0 (by decide) ?_
  refine lv_istore_n (lv' := [(1, .int (0 : Int32)), (0, .ref (G.2.2.2 + 159))]) hx hb dX12_thinks_1 rfl hl (by decide) rfl (fun ls hl => ?_)
  exact w_X12_thinks_2 X hr hk 5000 (0 : Int32) M _ _ ls hT h (lv_sub hl [1, 0] rfl)
/-! MockParcelsModel.endsThought()V -/
theorem dX12_endsThought_0 : decode cX12_endsThought 0 = .ok (.iconst 0, 1) := by decide +kernel
theorem dX12_endsThought_1 : decode cX12_endsThought 1 = .ok (.istore_n 1, 1) := by decide +kernel
theorem dX12_endsThought_2 : decode cX12_endsThought 2 = .ok (.iload_n 1, 1) := by decide +kernel
theorem dX12_endsThought_3 : decode cX12_endsThought 3 = .ok (.sipush 135, 3) := by decide +kernel
theorem dX12_endsThought_6 : decode cX12_endsThought 6 = .ok (.if_icmp .ge 21, 3) := by decide +kernel
theorem dX12_endsThought_9 : decode cX12_endsThought 9 = .ok (.aload_n 0, 1) := by decide +kernel
theorem dX12_endsThought_10 : decode cX12_endsThought 10 = .ok (.getfield 7, 3) := by decide +kernel
theorem dX12_endsThought_13 : decode cX12_endsThought 13 = .ok (.iload_n 1, 1) := by decide +kernel
theorem dX12_endsThought_14 : decode cX12_endsThought 14 = .ok (.aload_n 0, 1) := by decide +kernel
theorem dX12_endsThought_15 : decode cX12_endsThought 15 = .ok (.getfield 16, 3) := by decide +kernel
theorem dX12_endsThought_18 : decode cX12_endsThought 18 = .ok (.iload_n 1, 1) := by decide +kernel
theorem dX12_endsThought_19 : decode cX12_endsThought 19 = .ok (.iaload, 1) := by decide +kernel
theorem dX12_endsThought_20 : decode cX12_endsThought 20 = .ok (.iastore, 1) := by decide +kernel
theorem dX12_endsThought_21 : decode cX12_endsThought 21 = .ok (.iinc 1 1, 3) := by decide +kernel
theorem dX12_endsThought_24 : decode cX12_endsThought 24 = .ok (.goto (-22), 3) := by decide +kernel
theorem dX12_endsThought_27 : decode cX12_endsThought 27 = .ok (.aload_n 0, 1) := by decide +kernel
theorem dX12_endsThought_28 : decode cX12_endsThought 28 = .ok (.iconst 0, 1) := by decide +kernel
theorem dX12_endsThought_29 : decode cX12_endsThought 29 = .ok (.putfield 141, 3) := by decide +kernel
theorem dX12_endsThought_32 : decode cX12_endsThought 32 = .ok (.return_, 1) := by decide +kernel
def T_X12_endsThought_2 : Nat → Int32 → Mm → (Mm → Prop) → Prop
  | 0, _, _, _ => False
  | n + 1, x1, M, K => (((135 : Int32) ≤ x1 → (∀ M2 : Mm, M2 = m_up M 159 5 (0 : Int32) → (K M2))) ∧ (¬ (135 : Int32) ≤ x1 → (vp_in x1 135 ∧ (vp_in x1 135 ∧ (∀ M4 : Mm, M4 = m_up M 160 (x1).toNatClampNeg (M 162 (x1).toNatClampNeg) → (∀ y6 : Int32, y6 = x1 + (1 : Int32) → (T_X12_endsThought_2 n y6 M4 K)))))))
set_option maxHeartbeats 4000000 in
set_option maxRecDepth 100000 in
theorem w_X12_endsThought_2 {p : Program} {l : Launch} {e : Env} {s : State} {m : MethodId} {args : Array Value} {below : List Frame} {meth : Method} {c : Code} {G : fx_G} {K : Mm → Prop} (X : fx_C G p s m c args cX12_endsThought 2 RX12) (hr : meth.sig.returnType = none) (hk : meth.locks = false) : ∀ (n : Nat) (x1 : Int32) (M : Mm) (H : Heap) (locs : List Loc) (ls : Array Slot), T_X12_endsThought_2 n x1 M K → fx_H G SH M s H locs → lv_has ls 2 [(0, .ref (G.2.2.2 + 159)), (1, .int x1)] → W p l e (fx_rm (0)) s m args below meth c H locs 0 0 (MQ below (va_Qv K (fx_R G SH) (fx_A G)) args s 0 0 (fx_A G)) (F0 m 2 ls []) := by
  obtain ⟨⟨hx, hb, hml, hown, hts⟩, hK, hQ⟩ := id X
  intro n
  induction n with
  | zero =>
    intro x1 M H locs ls hT
    exact hT.elim
  | succ n ih =>
    intro x1 M H locs ls hT h hl
    rw [T_X12_endsThought_2] at hT
    refine lv_iload_n hx hb dX12_endsThought_2 rfl (lv_at hl 1 rfl) ?_
    refine lv_sipush (v := 135) hx hb dX12_endsThought_3 (by decide) ?_
    refine lv_icmp_ge (tgt := 27) hx hb dX12_endsThought_6 (by decide) (fun hc1 => ?_) (fun hc1 => ?_)
    · have hT := hT.1 hc1
      refine lv_aload_n hx hb dX12_endsThought_27 rfl (lv_at hl 0 rfl) ?_
      refine lv_iconst (v := 0) hx hb dX12_endsThought_28 (by decide) ?_
      refine fx_putZ X h (k := 159) (j := 5) (Or.inl rfl) sh_159 rfl fl_RX12_141 dX12_endsThought_29 (fun H locs h => ?_)
      obtain ⟨M2, eM2⟩ : ∃ z : Mm, z = m_up M 159 5 (0 : Int32) := ⟨_, rfl⟩
      have hT := hT M2 eM2
      rw [← eM2] at h
      exact fx_vret X hr hk h hT dX12_endsThought_32
    · have hT := hT.2 hc1
      refine lv_aload_n hx hb dX12_endsThought_9 rfl (lv_at hl 0 rfl) ?_
      refine fx_getR X h (k := 159) (j := 1) (r := 160) sh_159 rfl fl_RX12_7 dX12_endsThought_10 ?_
      refine lv_iload_n hx hb dX12_endsThought_13 rfl (lv_at hl 1 rfl) ?_
      refine lv_aload_n hx hb dX12_endsThought_14 rfl (lv_at hl 0 rfl) ?_
      refine fx_getR X h (k := 159) (j := 4) (r := 162) sh_159 rfl fl_RX12_16 dX12_endsThought_15 ?_
      refine lv_iload_n hx hb dX12_endsThought_18 rfl (lv_at hl 1 rfl) ?_
      obtain ⟨hi3, hT⟩ := hT
      refine fx_iald X h (k := 162) sh_162 hi3 dX12_endsThought_19 ?_
      obtain ⟨hi5, hT⟩ := hT
      refine fx_iast X h (k := 160) sh_160 hi5 dX12_endsThought_20 (fun H locs h => ?_)
      obtain ⟨M4, eM4⟩ : ∃ z : Mm, z = m_up M 160 (x1).toNatClampNeg (M 162 (x1).toNatClampNeg) := ⟨_, rfl⟩
      have hT := hT M4 eM4
      rw [← eM4] at h
      obtain ⟨y6, ey6⟩ : ∃ z : Int32, z = x1 + (1 : Int32) := ⟨_, rfl⟩
      have hT := hT y6 ey6
      refine lv_iinc (v := y6) (lv' := [(1, .int y6), (0, .ref (G.2.2.2 + 159))]) hx hb dX12_endsThought_21 hl (k := 1) rfl (by rw [ey6]; rfl) (by decide) rfl (fun ls hl => ?_)
      refine lv_goto (tgt := 2) hx hb dX12_endsThought_24 (by decide) ?_
      exact ih y6 M4 _ _ ls hT h (lv_sub hl [1, 0] rfl)
def T_X12_endsThought (M : Mm) (K : Mm → Prop) : Prop := (T_X12_endsThought_2 5000 (0 : Int32) M K)
set_option maxHeartbeats 4000000 in
set_option maxRecDepth 100000 in
theorem c_X12_endsThought (l : Launch) (G : fx_G) {M : Mm} {K : Mm → Prop} (hT : T_X12_endsThought M K) : Met l yX12_endsThought (fx_ws yX12_endsThought cX12_endsThought 2 none) (fx_rm (0)) (va_Pc [.ref (G.2.2.2 + 159)] (fx_P G SH M)) (va_Qv K (fx_R G SH) (fx_A G)) 0 0 (fx_A G) := by
  refine fx_met (own := RX12) (by decide +kernel) rfl (Nat.le_of_ble_eq_true rfl) (fun p e s m below meth c X hr hk h ls hl => ?_)
  obtain ⟨⟨hx, hb, hml, hown, hts⟩, hK, hQ⟩ := id X
  have hl : lv_has ls 2 [(0, .ref (G.2.2.2 + 159))] := hl
  unfold T_X12_endsThought at hT
  refine lv_iconst (v := 0) hx hb dX12_endsThought_0 (by decide) ?_
  refine lv_istore_n (lv' := [(1, .int (0 : Int32)), (0, .ref (G.2.2.2 + 159))]) hx hb dX12_endsThought_1 rfl hl (by decide) rfl (fun ls hl => ?_)
  exact w_X12_endsThought_2 X hr hk 5000 (0 : Int32) M _ _ ls hT h (lv_sub hl [1, 0] rfl)
/-! MockParcelsModel.state(I)I -/
theorem dX12_state_0 : decode cX12_state 0 = .ok (.aload_n 0, 1) := by decide +kernel
theorem dX12_state_1 : decode cX12_state 1 = .ok (.iconst 0, 1) := by decide +kernel
theorem dX12_state_2 : decode cX12_state 2 = .ok (.putfield 134, 3) := by decide +kernel
theorem dX12_state_5 : decode cX12_state 5 = .ok (.aload_n 0, 1) := by decide +kernel
theorem dX12_state_6 : decode cX12_state 6 = .ok (.getfield 7, 3) := by decide +kernel
theorem dX12_state_9 : decode cX12_state 9 = .ok (.iconst 1, 1) := by decide +kernel
theorem dX12_state_10 : decode cX12_state 10 = .ok (.iaload, 1) := by decide +kernel
theorem dX12_state_11 : decode cX12_state 11 = .ok (.istore_n 2, 1) := by decide +kernel
theorem dX12_state_12 : decode cX12_state 12 = .ok (.aload_n 0, 1) := by decide +kernel
theorem dX12_state_13 : decode cX12_state 13 = .ok (.getfield 7, 3) := by decide +kernel
theorem dX12_state_16 : decode cX12_state 16 = .ok (.iconst 1, 1) := by decide +kernel
theorem dX12_state_17 : decode cX12_state 17 = .ok (.iload_n 1, 1) := by decide +kernel
theorem dX12_state_18 : decode cX12_state 18 = .ok (.iastore, 1) := by decide +kernel
theorem dX12_state_19 : decode cX12_state 19 = .ok (.aload_n 0, 1) := by decide +kernel
theorem dX12_state_20 : decode cX12_state 20 = .ok (.iconst 0, 1) := by decide +kernel
theorem dX12_state_21 : decode cX12_state 21 = .ok (.putfield 138, 3) := by decide +kernel
theorem dX12_state_24 : decode cX12_state 24 = .ok (.iload_n 2, 1) := by decide +kernel
theorem dX12_state_25 : decode cX12_state 25 = .ok (.ireturn, 1) := by decide +kernel
def T_X12_state (x1 : Int32) (M : Mm) (K : Int32 → Mm → Prop) : Prop := (∀ M1 : Mm, M1 = m_up M 159 0 (0 : Int32) → (∀ y2 : Int32, y2 = (M1 160 1) → (∀ M3 : Mm, M3 = m_up M1 160 1 x1 → (∀ M4 : Mm, M4 = m_up M3 159 3 (0 : Int32) → (K y2 M4)))))
set_option maxHeartbeats 4000000 in
set_option maxRecDepth 100000 in
theorem c_X12_state (l : Launch) (G : fx_G) {x1 : Int32} {M : Mm} {K : Int32 → Mm → Prop} (hT : T_X12_state x1 M K) : Met l yX12_state (fx_ws yX12_state cX12_state 3 (some .int)) (fx_rm (0)) (va_Pc [.ref (G.2.2.2 + 159), .int x1] (fx_P G SH M)) (va_Qi K (fx_R G SH) (fx_A G)) 0 0 (fx_A G) := by
  refine fx_met (own := RX12) (by decide +kernel) rfl (Nat.le_of_ble_eq_true rfl) (fun p e s m below meth c X hr hk h ls hl => ?_)
  obtain ⟨⟨hx, hb, hml, hown, hts⟩, hK, hQ⟩ := id X
  have hl : lv_has ls 3 [(0, .ref (G.2.2.2 + 159)), (1, .int x1)] := hl
  unfold T_X12_state at hT
  refine lv_aload_n hx hb dX12_state_0 rfl (lv_at hl 0 rfl) ?_
  refine lv_iconst (v := 0) hx hb dX12_state_1 (by decide) ?_
  refine fx_putI X h (k := 159) (j := 0) sh_159 rfl fl_RX12_134 dX12_state_2 (fun H locs h => ?_)
  obtain ⟨M1, eM1⟩ : ∃ z : Mm, z = m_up M 159 0 (0 : Int32) := ⟨_, rfl⟩
  have hT := hT M1 eM1
  rw [← eM1] at h
  refine lv_aload_n hx hb dX12_state_5 rfl (lv_at hl 0 rfl) ?_
  refine fx_getR X h (k := 159) (j := 1) (r := 160) sh_159 rfl fl_RX12_7 dX12_state_6 ?_
  refine lv_iconst (v := 1) hx hb dX12_state_9 (by decide) ?_
  refine fx_iald X h (k := 160) sh_160 (by unfold vp_in; decide) dX12_state_10 ?_
  rw [show ((1 : Int32)).toNatClampNeg = 1 by decide]
  refine lv_topi (fun y2 ey2 => ?_)
  have hT := hT y2 ey2
  refine lv_istore_n (lv' := [(2, .int y2), (0, .ref (G.2.2.2 + 159)), (1, .int x1)]) hx hb dX12_state_11 rfl hl (by decide) rfl (fun ls hl => ?_)
  refine lv_aload_n hx hb dX12_state_12 rfl (lv_at hl 1 rfl) ?_
  refine fx_getR X h (k := 159) (j := 1) (r := 160) sh_159 rfl fl_RX12_7 dX12_state_13 ?_
  refine lv_iconst (v := 1) hx hb dX12_state_16 (by decide) ?_
  refine lv_iload_n hx hb dX12_state_17 rfl (lv_at hl 2 rfl) ?_
  refine fx_iast X h (k := 160) sh_160 (by unfold vp_in; decide) dX12_state_18 (fun H locs h => ?_)
  rw [show ((1 : Int32)).toNatClampNeg = 1 by decide] at h
  obtain ⟨M3, eM3⟩ : ∃ z : Mm, z = m_up M1 160 1 x1 := ⟨_, rfl⟩
  have hT := hT M3 eM3
  rw [← eM3] at h
  refine lv_aload_n hx hb dX12_state_19 rfl (lv_at hl 1 rfl) ?_
  refine lv_iconst (v := 0) hx hb dX12_state_20 (by decide) ?_
  refine fx_putI X h (k := 159) (j := 3) sh_159 rfl fl_RX12_138 dX12_state_21 (fun H locs h => ?_)
  obtain ⟨M4, eM4⟩ : ∃ z : Mm, z = m_up M3 159 3 (0 : Int32) := ⟨_, rfl⟩
  have hT := hT M4 eM4
  rw [← eM4] at h
  refine lv_iload_n hx hb dX12_state_24 rfl (lv_at hl 0 rfl) ?_
  exact fx_iret X hr hk h hT dX12_state_25
/-! MockParcelsModel.draw(I)I -/
theorem dX12_draw_0 : decode cX12_draw 0 = .ok (.aload_n 0, 1) := by decide +kernel
theorem dX12_draw_1 : decode cX12_draw 1 = .ok (.getfield 7, 3) := by decide +kernel
theorem dX12_draw_4 : decode cX12_draw 4 = .ok (.iconst 1, 1) := by decide +kernel
theorem dX12_draw_5 : decode cX12_draw 5 = .ok (.ldc 145, 2) := by decide +kernel
theorem dX12_draw_7 : decode cX12_draw 7 = .ok (.aload_n 0, 1) := by decide +kernel
theorem dX12_draw_8 : decode cX12_draw 8 = .ok (.getfield 7, 3) := by decide +kernel
theorem dX12_draw_11 : decode cX12_draw 11 = .ok (.iconst 1, 1) := by decide +kernel
theorem dX12_draw_12 : decode cX12_draw 12 = .ok (.iaload, 1) := by decide +kernel
theorem dX12_draw_13 : decode cX12_draw 13 = .ok (.imul, 1) := by decide +kernel
theorem dX12_draw_14 : decode cX12_draw 14 = .ok (.ldc 146, 2) := by decide +kernel
theorem dX12_draw_16 : decode cX12_draw 16 = .ok (.iadd, 1) := by decide +kernel
theorem dX12_draw_17 : decode cX12_draw 17 = .ok (.iastore, 1) := by decide +kernel
theorem dX12_draw_18 : decode cX12_draw 18 = .ok (.aload_n 0, 1) := by decide +kernel
theorem dX12_draw_19 : decode cX12_draw 19 = .ok (.getfield 7, 3) := by decide +kernel
theorem dX12_draw_22 : decode cX12_draw 22 = .ok (.iconst 1, 1) := by decide +kernel
theorem dX12_draw_23 : decode cX12_draw 23 = .ok (.iaload, 1) := by decide +kernel
theorem dX12_draw_24 : decode cX12_draw 24 = .ok (.bipush 8, 2) := by decide +kernel
theorem dX12_draw_26 : decode cX12_draw 26 = .ok (.iushr, 1) := by decide +kernel
theorem dX12_draw_27 : decode cX12_draw 27 = .ok (.iload_n 1, 1) := by decide +kernel
theorem dX12_draw_28 : decode cX12_draw 28 = .ok (.irem, 1) := by decide +kernel
theorem dX12_draw_29 : decode cX12_draw 29 = .ok (.ireturn, 1) := by decide +kernel
def T_X12_draw (x1 : Int32) (M : Mm) (K : Int32 → Mm → Prop) : Prop := (∀ M1 : Mm, M1 = m_up M 160 1 (((1664525 : Int32) * (M 160 1)) + (1013904223 : Int32)) → (¬ x1 = 0 ∧ (K (((((M1 160 1)).toUInt32 >>> (((8 : Int32)).toUInt32 &&& Int32.toUInt32 31)).toInt32) - ((((M1 160 1)).toUInt32 >>> (((8 : Int32)).toUInt32 &&& Int32.toUInt32 31)).toInt32) / x1 * x1) M1)))
set_option maxHeartbeats 4000000 in
set_option maxRecDepth 100000 in
theorem c_X12_draw (l : Launch) (G : fx_G) {x1 : Int32} {M : Mm} {K : Int32 → Mm → Prop} (hT : T_X12_draw x1 M K) : Met l yX12_draw (fx_ws yX12_draw cX12_draw 2 (some .int)) (fx_rm (0)) (va_Pc [.ref (G.2.2.2 + 159), .int x1] (fx_P G SH M)) (va_Qi K (fx_R G SH) (fx_A G)) 0 0 (fx_A G) := by
  refine fx_met (own := RX12) (by decide +kernel) rfl (Nat.le_of_ble_eq_true rfl) (fun p e s m below meth c X hr hk h ls hl => ?_)
  obtain ⟨⟨hx, hb, hml, hown, hts⟩, hK, hQ⟩ := id X
  have hl : lv_has ls 2 [(0, .ref (G.2.2.2 + 159)), (1, .int x1)] := hl
  unfold T_X12_draw at hT
  refine lv_aload_n hx hb dX12_draw_0 rfl (lv_at hl 0 rfl) ?_
  refine fx_getR X h (k := 159) (j := 1) (r := 160) sh_159 rfl fl_RX12_7 dX12_draw_1 ?_
  refine lv_iconst (v := 1) hx hb dX12_draw_4 (by decide) ?_
  refine lv_ldc (v := 1664525) hx hb hown (hts _ (fx_s8 (List.mem_of_getElem? (i := 77) rfl) rfl)) dX12_draw_5 ?_
  refine lv_aload_n hx hb dX12_draw_7 rfl (lv_at hl 0 rfl) ?_
  refine fx_getR X h (k := 159) (j := 1) (r := 160) sh_159 rfl fl_RX12_7 dX12_draw_8 ?_
  refine lv_iconst (v := 1) hx hb dX12_draw_11 (by decide) ?_
  refine fx_iald X h (k := 160) sh_160 (by unfold vp_in; decide) dX12_draw_12 ?_
  rw [show ((1 : Int32)).toNatClampNeg = 1 by decide]
  refine lv_imul hx hb dX12_draw_13 ?_
  refine lv_ldc (v := 1013904223) hx hb hown (hts _ (fx_s8 (List.mem_of_getElem? (i := 78) rfl) rfl)) dX12_draw_14 ?_
  refine lv_iadd hx hb dX12_draw_16 ?_
  refine fx_iast X h (k := 160) sh_160 (by unfold vp_in; decide) dX12_draw_17 (fun H locs h => ?_)
  rw [show ((1 : Int32)).toNatClampNeg = 1 by decide] at h
  obtain ⟨M1, eM1⟩ : ∃ z : Mm, z = m_up M 160 1 (((1664525 : Int32) * (M 160 1)) + (1013904223 : Int32)) := ⟨_, rfl⟩
  have hT := hT M1 eM1
  rw [← eM1] at h
  refine lv_aload_n hx hb dX12_draw_18 rfl (lv_at hl 0 rfl) ?_
  refine fx_getR X h (k := 159) (j := 1) (r := 160) sh_159 rfl fl_RX12_7 dX12_draw_19 ?_
  refine lv_iconst (v := 1) hx hb dX12_draw_22 (by decide) ?_
  refine fx_iald X h (k := 160) sh_160 (by unfold vp_in; decide) dX12_draw_23 ?_
  rw [show ((1 : Int32)).toNatClampNeg = 1 by decide]
  refine lv_bipush (v := 8) hx hb dX12_draw_24 (by decide) ?_
  refine lv_iushr hx hb dX12_draw_26 rfl ?_
  refine lv_iload_n hx hb dX12_draw_27 rfl (lv_at hl 1 rfl) ?_
  obtain ⟨hz2, hT⟩ := hT
  refine lv_irem hx hb dX12_draw_28 hz2 ?_
  exact fx_iret X hr hk h hT dX12_draw_29
/-! MockParcelsModel.isParcel(I)Z -/
theorem dX12_isParcel_0 : decode cX12_isParcel 0 = .ok (.iload_n 1, 1) := by decide +kernel
theorem dX12_isParcel_1 : decode cX12_isParcel 1 = .ok (.ifCond .lt 15, 3) := by decide +kernel
theorem dX12_isParcel_4 : decode cX12_isParcel 4 = .ok (.iload_n 1, 1) := by decide +kernel
theorem dX12_isParcel_5 : decode cX12_isParcel 5 = .ok (.aload_n 0, 1) := by decide +kernel
theorem dX12_isParcel_6 : decode cX12_isParcel 6 = .ok (.getfield 147, 3) := by decide +kernel
theorem dX12_isParcel_9 : decode cX12_isParcel 9 = .ok (.if_icmp .ge 7, 3) := by decide +kernel
theorem dX12_isParcel_12 : decode cX12_isParcel 12 = .ok (.iconst 1, 1) := by decide +kernel
theorem dX12_isParcel_13 : decode cX12_isParcel 13 = .ok (.goto 4, 3) := by decide +kernel
theorem dX12_isParcel_16 : decode cX12_isParcel 16 = .ok (.iconst 0, 1) := by decide +kernel
theorem dX12_isParcel_17 : decode cX12_isParcel 17 = .ok (.ireturn, 1) := by decide +kernel
def T_X12_isParcel (x1 : Int32) (M : Mm) (K : Int32 → Mm → Prop) : Prop := ((x1 < 0 → (K (0 : Int32) M)) ∧ (¬ x1 < 0 → (((M 159 6) ≤ x1 → (K (0 : Int32) M)) ∧ (¬ (M 159 6) ≤ x1 → (K (1 : Int32) M)))))
set_option maxHeartbeats 4000000 in
set_option maxRecDepth 100000 in
theorem c_X12_isParcel (l : Launch) (G : fx_G) {x1 : Int32} {M : Mm} {K : Int32 → Mm → Prop} (hT : T_X12_isParcel x1 M K) : Met l yX12_isParcel (fx_ws yX12_isParcel cX12_isParcel 2 (some .boolean)) (fx_rm (0)) (va_Pc [.ref (G.2.2.2 + 159), .int x1] (fx_P G SH M)) (va_Qi K (fx_R G SH) (fx_A G)) 0 0 (fx_A G) := by
  refine fx_met (own := RX12) (by decide +kernel) rfl (Nat.le_of_ble_eq_true rfl) (fun p e s m below meth c X hr hk h ls hl => ?_)
  obtain ⟨⟨hx, hb, hml, hown, hts⟩, hK, hQ⟩ := id X
  have hl : lv_has ls 2 [(0, .ref (G.2.2.2 + 159)), (1, .int x1)] := hl
  unfold T_X12_isParcel at hT
  refine lv_iload_n hx hb dX12_isParcel_0 rfl (lv_at hl 1 rfl) ?_
  refine lv_if_lt (tgt := 16) hx hb dX12_isParcel_1 (by decide) (fun hc1 => ?_) (fun hc1 => ?_)
  · have hT := hT.1 hc1
    refine lv_iconst (v := 0) hx hb dX12_isParcel_16 (by decide) ?_
    exact fx_zret X hr hk h (Or.inl rfl) hT dX12_isParcel_17
  · have hT := hT.2 hc1
    refine lv_iload_n hx hb dX12_isParcel_4 rfl (lv_at hl 1 rfl) ?_
    refine lv_aload_n hx hb dX12_isParcel_5 rfl (lv_at hl 0 rfl) ?_
    refine fx_getI X h (k := 159) (j := 6) sh_159 rfl fl_RX12_147 dX12_isParcel_6 ?_
    refine lv_icmp_ge (tgt := 16) hx hb dX12_isParcel_9 (by decide) (fun hc2 => ?_) (fun hc2 => ?_)
    · have hT := hT.1 hc2
      refine lv_iconst (v := 0) hx hb dX12_isParcel_16 (by decide) ?_
      exact fx_zret X hr hk h (Or.inl rfl) hT dX12_isParcel_17
    · have hT := hT.2 hc2
      refine lv_iconst (v := 1) hx hb dX12_isParcel_12 (by decide) ?_
      refine lv_goto (tgt := 17) hx hb dX12_isParcel_13 (by decide) ?_
      exact fx_zret X hr hk h (Or.inr rfl) hT dX12_isParcel_17
/-! MockParcelsModel.isBidder(I)Z -/
theorem dX12_isBidder_0 : decode cX12_isBidder 0 = .ok (.iload_n 1, 1) := by decide +kernel
theorem dX12_isBidder_1 : decode cX12_isBidder 1 = .ok (.ifCond .lt 15, 3) := by decide +kernel
theorem dX12_isBidder_4 : decode cX12_isBidder 4 = .ok (.iload_n 1, 1) := by decide +kernel
theorem dX12_isBidder_5 : decode cX12_isBidder 5 = .ok (.aload_n 0, 1) := by decide +kernel
theorem dX12_isBidder_6 : decode cX12_isBidder 6 = .ok (.getfield 150, 3) := by decide +kernel
theorem dX12_isBidder_9 : decode cX12_isBidder 9 = .ok (.if_icmp .ge 7, 3) := by decide +kernel
theorem dX12_isBidder_12 : decode cX12_isBidder 12 = .ok (.iconst 1, 1) := by decide +kernel
theorem dX12_isBidder_13 : decode cX12_isBidder 13 = .ok (.goto 4, 3) := by decide +kernel
theorem dX12_isBidder_16 : decode cX12_isBidder 16 = .ok (.iconst 0, 1) := by decide +kernel
theorem dX12_isBidder_17 : decode cX12_isBidder 17 = .ok (.ireturn, 1) := by decide +kernel
def T_X12_isBidder (x1 : Int32) (M : Mm) (K : Int32 → Mm → Prop) : Prop := ((x1 < 0 → (K (0 : Int32) M)) ∧ (¬ x1 < 0 → (((M 159 7) ≤ x1 → (K (0 : Int32) M)) ∧ (¬ (M 159 7) ≤ x1 → (K (1 : Int32) M)))))
set_option maxHeartbeats 4000000 in
set_option maxRecDepth 100000 in
theorem c_X12_isBidder (l : Launch) (G : fx_G) {x1 : Int32} {M : Mm} {K : Int32 → Mm → Prop} (hT : T_X12_isBidder x1 M K) : Met l yX12_isBidder (fx_ws yX12_isBidder cX12_isBidder 2 (some .boolean)) (fx_rm (0)) (va_Pc [.ref (G.2.2.2 + 159), .int x1] (fx_P G SH M)) (va_Qi K (fx_R G SH) (fx_A G)) 0 0 (fx_A G) := by
  refine fx_met (own := RX12) (by decide +kernel) rfl (Nat.le_of_ble_eq_true rfl) (fun p e s m below meth c X hr hk h ls hl => ?_)
  obtain ⟨⟨hx, hb, hml, hown, hts⟩, hK, hQ⟩ := id X
  have hl : lv_has ls 2 [(0, .ref (G.2.2.2 + 159)), (1, .int x1)] := hl
  unfold T_X12_isBidder at hT
  refine lv_iload_n hx hb dX12_isBidder_0 rfl (lv_at hl 1 rfl) ?_
  refine lv_if_lt (tgt := 16) hx hb dX12_isBidder_1 (by decide) (fun hc1 => ?_) (fun hc1 => ?_)
  · have hT := hT.1 hc1
    refine lv_iconst (v := 0) hx hb dX12_isBidder_16 (by decide) ?_
    exact fx_zret X hr hk h (Or.inl rfl) hT dX12_isBidder_17
  · have hT := hT.2 hc1
    refine lv_iload_n hx hb dX12_isBidder_4 rfl (lv_at hl 1 rfl) ?_
    refine lv_aload_n hx hb dX12_isBidder_5 rfl (lv_at hl 0 rfl) ?_
    refine fx_getI X h (k := 159) (j := 7) sh_159 rfl fl_RX12_150 dX12_isBidder_6 ?_
    refine lv_icmp_ge (tgt := 16) hx hb dX12_isBidder_9 (by decide) (fun hc2 => ?_) (fun hc2 => ?_)
    · have hT := hT.1 hc2
      refine lv_iconst (v := 0) hx hb dX12_isBidder_16 (by decide) ?_
      exact fx_zret X hr hk h (Or.inl rfl) hT dX12_isBidder_17
    · have hT := hT.2 hc2
      refine lv_iconst (v := 1) hx hb dX12_isBidder_12 (by decide) ?_
      refine lv_goto (tgt := 17) hx hb dX12_isBidder_13 (by decide) ?_
      exact fx_zret X hr hk h (Or.inr rfl) hT dX12_isBidder_17
/-! MockParcelsModel.hasOf(II)I -/
theorem dX12_hasOf_0 : decode cX12_hasOf 0 = .ok (.aload_n 0, 1) := by decide +kernel
theorem dX12_hasOf_1 : decode cX12_hasOf 1 = .ok (.getfield 7, 3) := by decide +kernel
theorem dX12_hasOf_4 : decode cX12_hasOf 4 = .ok (.bipush 71, 2) := by decide +kernel
theorem dX12_hasOf_6 : decode cX12_hasOf 6 = .ok (.bipush 8, 2) := by decide +kernel
theorem dX12_hasOf_8 : decode cX12_hasOf 8 = .ok (.iload_n 1, 1) := by decide +kernel
theorem dX12_hasOf_9 : decode cX12_hasOf 9 = .ok (.imul, 1) := by decide +kernel
theorem dX12_hasOf_10 : decode cX12_hasOf 10 = .ok (.iadd, 1) := by decide +kernel
theorem dX12_hasOf_11 : decode cX12_hasOf 11 = .ok (.iload_n 2, 1) := by decide +kernel
theorem dX12_hasOf_12 : decode cX12_hasOf 12 = .ok (.iadd, 1) := by decide +kernel
theorem dX12_hasOf_13 : decode cX12_hasOf 13 = .ok (.iaload, 1) := by decide +kernel
theorem dX12_hasOf_14 : decode cX12_hasOf 14 = .ok (.ireturn, 1) := by decide +kernel
def T_X12_hasOf (x1 : Int32) (x2 : Int32) (M : Mm) (K : Int32 → Mm → Prop) : Prop := (vp_in (((71 : Int32) + ((8 : Int32) * x1)) + x2) 135 ∧ (K (M 160 ((((71 : Int32) + ((8 : Int32) * x1)) + x2)).toNatClampNeg) M))
set_option maxHeartbeats 4000000 in
set_option maxRecDepth 100000 in
theorem c_X12_hasOf (l : Launch) (G : fx_G) {x1 : Int32} {x2 : Int32} {M : Mm} {K : Int32 → Mm → Prop} (hT : T_X12_hasOf x1 x2 M K) : Met l yX12_hasOf (fx_ws yX12_hasOf cX12_hasOf 3 (some .int)) (fx_rm (0)) (va_Pc [.ref (G.2.2.2 + 159), .int x1, .int x2] (fx_P G SH M)) (va_Qi K (fx_R G SH) (fx_A G)) 0 0 (fx_A G) := by
  refine fx_met (own := RX12) (by decide +kernel) rfl (Nat.le_of_ble_eq_true rfl) (fun p e s m below meth c X hr hk h ls hl => ?_)
  obtain ⟨⟨hx, hb, hml, hown, hts⟩, hK, hQ⟩ := id X
  have hl : lv_has ls 3 [(0, .ref (G.2.2.2 + 159)), (1, .int x1), (2, .int x2)] := hl
  unfold T_X12_hasOf at hT
  refine lv_aload_n hx hb dX12_hasOf_0 rfl (lv_at hl 0 rfl) ?_
  refine fx_getR X h (k := 159) (j := 1) (r := 160) sh_159 rfl fl_RX12_7 dX12_hasOf_1 ?_
  refine lv_bipush (v := 71) hx hb dX12_hasOf_4 (by decide) ?_
  refine lv_bipush (v := 8) hx hb dX12_hasOf_6 (by decide) ?_
  refine lv_iload_n hx hb dX12_hasOf_8 rfl (lv_at hl 1 rfl) ?_
  refine lv_imul hx hb dX12_hasOf_9 ?_
  refine lv_iadd hx hb dX12_hasOf_10 ?_
  refine lv_iload_n hx hb dX12_hasOf_11 rfl (lv_at hl 2 rfl) ?_
  refine lv_iadd hx hb dX12_hasOf_12 ?_
  obtain ⟨hi1, hT⟩ := hT
  refine fx_iald X h (k := 160) sh_160 hi1 dX12_hasOf_13 ?_
  exact fx_iret X hr hk h hT dX12_hasOf_14
/-! MockParcelsModel.hasMore(III)V -/
theorem dX12_hasMore_0 : decode cX12_hasMore 0 = .ok (.aload_n 0, 1) := by decide +kernel
theorem dX12_hasMore_1 : decode cX12_hasMore 1 = .ok (.getfield 7, 3) := by decide +kernel
theorem dX12_hasMore_4 : decode cX12_hasMore 4 = .ok (.bipush 71, 2) := by decide +kernel
theorem dX12_hasMore_6 : decode cX12_hasMore 6 = .ok (.bipush 8, 2) := by decide +kernel
theorem dX12_hasMore_8 : decode cX12_hasMore 8 = .ok (.iload_n 1, 1) := by decide +kernel
theorem dX12_hasMore_9 : decode cX12_hasMore 9 = .ok (.imul, 1) := by decide +kernel
theorem dX12_hasMore_10 : decode cX12_hasMore 10 = .ok (.iadd, 1) := by decide +kernel
theorem dX12_hasMore_11 : decode cX12_hasMore 11 = .ok (.iload_n 2, 1) := by decide +kernel
theorem dX12_hasMore_12 : decode cX12_hasMore 12 = .ok (.iadd, 1) := by decide +kernel
theorem dX12_hasMore_13 : decode cX12_hasMore 13 = .ok (.aload_n 0, 1) := by decide +kernel
theorem dX12_hasMore_14 : decode cX12_hasMore 14 = .ok (.getfield 7, 3) := by decide +kernel
theorem dX12_hasMore_17 : decode cX12_hasMore 17 = .ok (.bipush 71, 2) := by decide +kernel
theorem dX12_hasMore_19 : decode cX12_hasMore 19 = .ok (.bipush 8, 2) := by decide +kernel
theorem dX12_hasMore_21 : decode cX12_hasMore 21 = .ok (.iload_n 1, 1) := by decide +kernel
theorem dX12_hasMore_22 : decode cX12_hasMore 22 = .ok (.imul, 1) := by decide +kernel
theorem dX12_hasMore_23 : decode cX12_hasMore 23 = .ok (.iadd, 1) := by decide +kernel
theorem dX12_hasMore_24 : decode cX12_hasMore 24 = .ok (.iload_n 2, 1) := by decide +kernel
theorem dX12_hasMore_25 : decode cX12_hasMore 25 = .ok (.iadd, 1) := by decide +kernel
theorem dX12_hasMore_26 : decode cX12_hasMore 26 = .ok (.iaload, 1) := by decide +kernel
theorem dX12_hasMore_27 : decode cX12_hasMore 27 = .ok (.iload_n 3, 1) := by decide +kernel
theorem dX12_hasMore_28 : decode cX12_hasMore 28 = .ok (.iadd, 1) := by decide +kernel
theorem dX12_hasMore_29 : decode cX12_hasMore 29 = .ok (.iastore, 1) := by decide +kernel
theorem dX12_hasMore_30 : decode cX12_hasMore 30 = .ok (.return_, 1) := by decide +kernel
def T_X12_hasMore (x1 : Int32) (x2 : Int32) (x3 : Int32) (M : Mm) (K : Mm → Prop) : Prop := (vp_in (((71 : Int32) + ((8 : Int32) * x1)) + x2) 135 ∧ (vp_in (((71 : Int32) + ((8 : Int32) * x1)) + x2) 135 ∧ (∀ M2 : Mm, M2 = m_up M 160 ((((71 : Int32) + ((8 : Int32) * x1)) + x2)).toNatClampNeg ((M 160 ((((71 : Int32) + ((8 : Int32) * x1)) + x2)).toNatClampNeg) + x3) → (K M2))))
set_option maxHeartbeats 4000000 in
set_option maxRecDepth 100000 in
theorem c_X12_hasMore (l : Launch) (G : fx_G) {x1 : Int32} {x2 : Int32} {x3 : Int32} {M : Mm} {K : Mm → Prop} (hT : T_X12_hasMore x1 x2 x3 M K) : Met l yX12_hasMore (fx_ws yX12_hasMore cX12_hasMore 4 none) (fx_rm (0)) (va_Pc [.ref (G.2.2.2 + 159), .int x1, .int x2, .int x3] (fx_P G SH M)) (va_Qv K (fx_R G SH) (fx_A G)) 0 0 (fx_A G) := by
  refine fx_met (own := RX12) (by decide +kernel) rfl (Nat.le_of_ble_eq_true rfl) (fun p e s m below meth c X hr hk h ls hl => ?_)
  obtain ⟨⟨hx, hb, hml, hown, hts⟩, hK, hQ⟩ := id X
  have hl : lv_has ls 4 [(0, .ref (G.2.2.2 + 159)), (1, .int x1), (2, .int x2), (3, .int x3)] := hl
  unfold T_X12_hasMore at hT
  refine lv_aload_n hx hb dX12_hasMore_0 rfl (lv_at hl 0 rfl) ?_
  refine fx_getR X h (k := 159) (j := 1) (r := 160) sh_159 rfl fl_RX12_7 dX12_hasMore_1 ?_
  refine lv_bipush (v := 71) hx hb dX12_hasMore_4 (by decide) ?_
  refine lv_bipush (v := 8) hx hb dX12_hasMore_6 (by decide) ?_
  refine lv_iload_n hx hb dX12_hasMore_8 rfl (lv_at hl 1 rfl) ?_
  refine lv_imul hx hb dX12_hasMore_9 ?_
  refine lv_iadd hx hb dX12_hasMore_10 ?_
  refine lv_iload_n hx hb dX12_hasMore_11 rfl (lv_at hl 2 rfl) ?_
  refine lv_iadd hx hb dX12_hasMore_12 ?_
  refine lv_aload_n hx hb dX12_hasMore_13 rfl (lv_at hl 0 rfl) ?_
  refine fx_getR X h (k := 159) (j := 1) (r := 160) sh_159 rfl fl_RX12_7 dX12_hasMore_14 ?_
  refine lv_bipush (v := 71) hx hb dX12_hasMore_17 (by decide) ?_
  refine lv_bipush (v := 8) hx hb dX12_hasMore_19 (by decide) ?_
  refine lv_iload_n hx hb dX12_hasMore_21 rfl (lv_at hl 1 rfl) ?_
  refine lv_imul hx hb dX12_hasMore_22 ?_
  refine lv_iadd hx hb dX12_hasMore_23 ?_
  refine lv_iload_n hx hb dX12_hasMore_24 rfl (lv_at hl 2 rfl) ?_
  refine lv_iadd hx hb dX12_hasMore_25 ?_
  obtain ⟨hi1, hT⟩ := hT
  refine fx_iald X h (k := 160) sh_160 hi1 dX12_hasMore_26 ?_
  refine lv_iload_n hx hb dX12_hasMore_27 rfl (lv_at hl 3 rfl) ?_
  refine lv_iadd hx hb dX12_hasMore_28 ?_
  obtain ⟨hi3, hT⟩ := hT
  refine fx_iast X h (k := 160) sh_160 hi3 dX12_hasMore_29 (fun H locs h => ?_)
  obtain ⟨M2, eM2⟩ : ∃ z : Mm, z = m_up M 160 ((((71 : Int32) + ((8 : Int32) * x1)) + x2)).toNatClampNeg ((M 160 ((((71 : Int32) + ((8 : Int32) * x1)) + x2)).toNatClampNeg) + x3) := ⟨_, rfl⟩
  have hT := hT M2 eM2
  rw [← eM2] at h
  exact fx_vret X hr hk h hT dX12_hasMore_30
/-! MockParcelsModel.thingsOf(I)I -/
theorem dX12_thingsOf_0 : decode cX12_thingsOf 0 = .ok (.iconst 0, 1) := by decide +kernel
theorem dX12_thingsOf_1 : decode cX12_thingsOf 1 = .ok (.istore_n 2, 1) := by decide +kernel
theorem dX12_thingsOf_2 : decode cX12_thingsOf 2 = .ok (.iconst 1, 1) := by decide +kernel
theorem dX12_thingsOf_3 : decode cX12_thingsOf 3 = .ok (.istore_n 3, 1) := by decide +kernel
theorem dX12_thingsOf_4 : decode cX12_thingsOf 4 = .ok (.iload_n 3, 1) := by decide +kernel
theorem dX12_thingsOf_5 : decode cX12_thingsOf 5 = .ok (.bipush 8, 2) := by decide +kernel
theorem dX12_thingsOf_7 : decode cX12_thingsOf 7 = .ok (.if_icmp .ge 18, 3) := by decide +kernel
theorem dX12_thingsOf_10 : decode cX12_thingsOf 10 = .ok (.iload_n 2, 1) := by decide +kernel
theorem dX12_thingsOf_11 : decode cX12_thingsOf 11 = .ok (.aload_n 0, 1) := by decide +kernel
theorem dX12_thingsOf_12 : decode cX12_thingsOf 12 = .ok (.iload_n 1, 1) := by decide +kernel
theorem dX12_thingsOf_13 : decode cX12_thingsOf 13 = .ok (.iload_n 3, 1) := by decide +kernel
theorem dX12_thingsOf_14 : decode cX12_thingsOf 14 = .ok (.invokevirtual 153, 3) := by decide +kernel
theorem dX12_thingsOf_17 : decode cX12_thingsOf 17 = .ok (.iadd, 1) := by decide +kernel
theorem dX12_thingsOf_18 : decode cX12_thingsOf 18 = .ok (.istore_n 2, 1) := by decide +kernel
theorem dX12_thingsOf_19 : decode cX12_thingsOf 19 = .ok (.iinc 3 1, 3) := by decide +kernel
theorem dX12_thingsOf_22 : decode cX12_thingsOf 22 = .ok (.goto (-18), 3) := by decide +kernel
theorem dX12_thingsOf_25 : decode cX12_thingsOf 25 = .ok (.iload_n 2, 1) := by decide +kernel
theorem dX12_thingsOf_26 : decode cX12_thingsOf 26 = .ok (.ireturn, 1) := by decide +kernel
def T_X12_thingsOf_4 : Nat → Int32 → Int32 → Int32 → Mm → (Int32 → Mm → Prop) → Prop
  | 0, _, _, _, _, _ => False
  | n + 1, x1, x2, x3, M, K => (((8 : Int32) ≤ x3 → (K x2 M)) ∧ (¬ (8 : Int32) ≤ x3 → (T_X12_hasOf x1 x3 M (fun r4 M3 => (∀ y5 : Int32, y5 = (x2 + r4) → (∀ y6 : Int32, y6 = x3 + (1 : Int32) → (T_X12_thingsOf_4 n x1 y5 y6 M3 K)))))))
set_option maxHeartbeats 4000000 in
set_option maxRecDepth 100000 in
theorem w_X12_thingsOf_4 {p : Program} {l : Launch} {e : Env} {s : State} {m : MethodId} {args : Array Value} {below : List Frame} {meth : Method} {c : Code} {G : fx_G} {K : Int32 → Mm → Prop} (X : fx_C G p s m c args cX12_thingsOf 4 RX12) (hr : meth.sig.returnType = (some .int)) (hk : meth.locks = false) : ∀ (n : Nat) (x1 : Int32) (x2 : Int32) (x3 : Int32) (M : Mm) (H : Heap) (locs : List Loc) (ls : Array Slot), T_X12_thingsOf_4 n x1 x2 x3 M K → fx_H G SH M s H locs → lv_has ls 4 [(0, .ref (G.2.2.2 + 159)), (1, .int x1), (2, .int x2), (3, .int x3)] → W p l e (fx_rm (1)) s m args below meth c H locs 0 0 (MQ below (va_Qi K (fx_R G SH) (fx_A G)) args s 0 0 (fx_A G)) (F0 m 4 ls []) := by
  obtain ⟨⟨hx, hb, hml, hown, hts⟩, hK, hQ⟩ := id X
  intro n
  induction n with
  | zero =>
    intro x1 x2 x3 M H locs ls hT
    exact hT.elim
  | succ n ih =>
    intro x1 x2 x3 M H locs ls hT h hl
    rw [T_X12_thingsOf_4] at hT
    refine lv_iload_n hx hb dX12_thingsOf_4 rfl (lv_at hl 3 rfl) ?_
    refine lv_bipush (v := 8) hx hb dX12_thingsOf_5 (by decide) ?_
    refine lv_icmp_ge (tgt := 25) hx hb dX12_thingsOf_7 (by decide) (fun hc1 => ?_) (fun hc1 => ?_)
    · have hT := hT.1 hc1
      refine lv_iload_n hx hb dX12_thingsOf_25 rfl (lv_at hl 2 rfl) ?_
      exact fx_iret X hr hk h hT dX12_thingsOf_26
    · have hT := hT.2 hc1
      refine lv_iload_n hx hb dX12_thingsOf_10 rfl (lv_at hl 2 rfl) ?_
      refine lv_aload_n hx hb dX12_thingsOf_11 rfl (lv_at hl 0 rfl) ?_
      refine lv_iload_n hx hb dX12_thingsOf_12 rfl (lv_at hl 1 rfl) ?_
      refine lv_iload_n hx hb dX12_thingsOf_13 rfl (lv_at hl 3 rfl) ?_
      refine fx_vi X h ym_X12_hasOf yi_X12_hasOf ys_X12_hasOf (fx_s8 (List.mem_of_getElem? (i := 49) rfl) rfl) sh_159 rfl (c_X12_hasOf l G hT) (As := [.int x1, .int x3]) (rest := [.int x2]) rfl rfl ⟨Nat.le_of_ble_eq_true rfl, Nat.le_of_ble_eq_true rfl⟩ ⟨Nat.le_refl _, Nat.le_refl _⟩ hl.1 (Nat.le_of_ble_eq_true rfl) dX12_thingsOf_14 (fun r4 M3 H locs hT h => ?_)
      refine lv_iadd hx hb dX12_thingsOf_17 ?_
      refine lv_topi (fun y5 ey5 => ?_)
      have hT := hT y5 ey5
      refine lv_istore_n (lv' := [(2, .int y5), (0, .ref (G.2.2.2 + 159)), (1, .int x1), (3, .int x3)]) hx hb dX12_thingsOf_18 rfl hl (by decide) rfl (fun ls hl => ?_)
      obtain ⟨y6, ey6⟩ : ∃ z : Int32, z = x3 + (1 : Int32) := ⟨_, rfl⟩
      have hT := hT y6 ey6
      refine lv_iinc (v := y6) (lv' := [(3, .int y6), (2, .int y5), (0, .ref (G.2.2.2 + 159)), (1, .int x1)]) hx hb dX12_thingsOf_19 hl (k := 3) rfl (by rw [ey6]; rfl) (by decide) rfl (fun ls hl => ?_)
      refine lv_goto (tgt := 4) hx hb dX12_thingsOf_22 (by decide) ?_
      exact ih x1 y5 y6 M3 _ _ ls hT h (lv_sub hl [2, 3, 1, 0] rfl)
def T_X12_thingsOf (x1 : Int32) (M : Mm) (K : Int32 → Mm → Prop) : Prop := (T_X12_thingsOf_4 5000 x1 (0 : Int32) (1 : Int32) M K)
set_option maxHeartbeats 4000000 in
set_option maxRecDepth 100000 in
theorem c_X12_thingsOf (l : Launch) (G : fx_G) {x1 : Int32} {M : Mm} {K : Int32 → Mm → Prop} (hT : T_X12_thingsOf x1 M K) : Met l yX12_thingsOf (fx_ws yX12_thingsOf cX12_thingsOf 4 (some .int)) (fx_rm (1)) (va_Pc [.ref (G.2.2.2 + 159), .int x1] (fx_P G SH M)) (va_Qi K (fx_R G SH) (fx_A G)) 0 0 (fx_A G) := by
  refine fx_met (own := RX12) (by decide +kernel) rfl (Nat.le_of_ble_eq_true rfl) (fun p e s m below meth c X hr hk h ls hl => ?_)
  obtain ⟨⟨hx, hb, hml, hown, hts⟩, hK, hQ⟩ := id X
  have hl : lv_has ls 4 [(0, .ref (G.2.2.2 + 159)), (1, .int x1)] := hl
  unfold T_X12_thingsOf at hT
  refine lv_iconst (v := 0) hx hb dX12_thingsOf_0 (by decide) ?_
  refine lv_istore_n (lv' := [(2, .int (0 : Int32)), (0, .ref (G.2.2.2 + 159)), (1, .int x1)]) hx hb dX12_thingsOf_1 rfl hl (by decide) rfl (fun ls hl => ?_)
  refine lv_iconst (v := 1) hx hb dX12_thingsOf_2 (by decide) ?_
  refine lv_istore_n (lv' := [(3, .int (1 : Int32)), (2, .int (0 : Int32)), (0, .ref (G.2.2.2 + 159)), (1, .int x1)]) hx hb dX12_thingsOf_3 rfl hl (by decide) rfl (fun ls hl => ?_)
  exact w_X12_thingsOf_4 X hr hk 5000 x1 (0 : Int32) (1 : Int32) M _ _ ls hT h (lv_sub hl [2, 3, 1, 0] rfl)
/-! MockParcelsModel.unsoldSet()I -/
theorem dX12_unsoldSet_0 : decode cX12_unsoldSet 0 = .ok (.iconst 0, 1) := by decide +kernel
theorem dX12_unsoldSet_1 : decode cX12_unsoldSet 1 = .ok (.istore_n 1, 1) := by decide +kernel
theorem dX12_unsoldSet_2 : decode cX12_unsoldSet 2 = .ok (.iconst 0, 1) := by decide +kernel
theorem dX12_unsoldSet_3 : decode cX12_unsoldSet 3 = .ok (.istore_n 2, 1) := by decide +kernel
theorem dX12_unsoldSet_4 : decode cX12_unsoldSet 4 = .ok (.iload_n 2, 1) := by decide +kernel
theorem dX12_unsoldSet_5 : decode cX12_unsoldSet 5 = .ok (.aload_n 0, 1) := by decide +kernel
theorem dX12_unsoldSet_6 : decode cX12_unsoldSet 6 = .ok (.getfield 147, 3) := by decide +kernel
theorem dX12_unsoldSet_9 : decode cX12_unsoldSet 9 = .ok (.if_icmp .ge 27, 3) := by decide +kernel
theorem dX12_unsoldSet_12 : decode cX12_unsoldSet 12 = .ok (.aload_n 0, 1) := by decide +kernel
theorem dX12_unsoldSet_13 : decode cX12_unsoldSet 13 = .ok (.getfield 7, 3) := by decide +kernel
theorem dX12_unsoldSet_16 : decode cX12_unsoldSet 16 = .ok (.bipush 7, 2) := by decide +kernel
theorem dX12_unsoldSet_18 : decode cX12_unsoldSet 18 = .ok (.iload_n 2, 1) := by decide +kernel
theorem dX12_unsoldSet_19 : decode cX12_unsoldSet 19 = .ok (.iadd, 1) := by decide +kernel
theorem dX12_unsoldSet_20 : decode cX12_unsoldSet 20 = .ok (.iaload, 1) := by decide +kernel
theorem dX12_unsoldSet_21 : decode cX12_unsoldSet 21 = .ok (.ifCond .ne 9, 3) := by decide +kernel
theorem dX12_unsoldSet_24 : decode cX12_unsoldSet 24 = .ok (.iload_n 1, 1) := by decide +kernel
theorem dX12_unsoldSet_25 : decode cX12_unsoldSet 25 = .ok (.iconst 1, 1) := by decide +kernel
theorem dX12_unsoldSet_26 : decode cX12_unsoldSet 26 = .ok (.iload_n 2, 1) := by decide +kernel
theorem dX12_unsoldSet_27 : decode cX12_unsoldSet 27 = .ok (.ishl, 1) := by decide +kernel
theorem dX12_unsoldSet_28 : decode cX12_unsoldSet 28 = .ok (.ior, 1) := by decide +kernel
theorem dX12_unsoldSet_29 : decode cX12_unsoldSet 29 = .ok (.istore_n 1, 1) := by decide +kernel
theorem dX12_unsoldSet_30 : decode cX12_unsoldSet 30 = .ok (.iinc 2 1, 3) := by decide +kernel
theorem dX12_unsoldSet_33 : decode cX12_unsoldSet 33 = .ok (.goto (-29), 3) := by decide +kernel
theorem dX12_unsoldSet_36 : decode cX12_unsoldSet 36 = .ok (.iload_n 1, 1) := by decide +kernel
theorem dX12_unsoldSet_37 : decode cX12_unsoldSet 37 = .ok (.ireturn, 1) := by decide +kernel
def T_X12_unsoldSet_30 (B4 : Int32 → Int32 → Mm → Prop) (x1 : Int32) (x2 : Int32) (M : Mm) (K : Int32 → Mm → Prop) : Prop := (∀ y1 : Int32, y1 = x2 + (1 : Int32) → (B4 x1 y1 M))
set_option maxHeartbeats 4000000 in
set_option maxRecDepth 100000 in
theorem w_X12_unsoldSet_30 {p : Program} {l : Launch} {e : Env} {s : State} {m : MethodId} {args : Array Value} {below : List Frame} {meth : Method} {c : Code} {G : fx_G} {K : Int32 → Mm → Prop} {B4 : Int32 → Int32 → Mm → Prop} (X : fx_C G p s m c args cX12_unsoldSet 3 RX12) (hr : meth.sig.returnType = (some .int)) (hk : meth.locks = false) (hB4 : ∀ (x1 : Int32) (x2 : Int32) (M : Mm) (H : Heap) (locs : List Loc) (ls : Array Slot), B4 x1 x2 M → fx_H G SH M s H locs → lv_has ls 3 [(0, .ref (G.2.2.2 + 159)), (1, .int x1), (2, .int x2)] → W p l e (fx_rm (0)) s m args below meth c H locs 0 0 (MQ below (va_Qi K (fx_R G SH) (fx_A G)) args s 0 0 (fx_A G)) (F0 m 4 ls [])) : ∀ (x1 : Int32) (x2 : Int32) (M : Mm) (H : Heap) (locs : List Loc) (ls : Array Slot), T_X12_unsoldSet_30 B4 x1 x2 M K → fx_H G SH M s H locs → lv_has ls 3 [(0, .ref (G.2.2.2 + 159)), (1, .int x1), (2, .int x2)] → W p l e (fx_rm (0)) s m args below meth c H locs 0 0 (MQ below (va_Qi K (fx_R G SH) (fx_A G)) args s 0 0 (fx_A G)) (F0 m 30 ls []) := by
  obtain ⟨⟨hx, hb, hml, hown, hts⟩, hK, hQ⟩ := id X
  intro x1 x2 M H locs ls hT h hl
  unfold T_X12_unsoldSet_30 at hT
  obtain ⟨y1, ey1⟩ : ∃ z : Int32, z = x2 + (1 : Int32) := ⟨_, rfl⟩
  have hT := hT y1 ey1
  refine lv_iinc (v := y1) (lv' := [(2, .int y1), (0, .ref (G.2.2.2 + 159)), (1, .int x1)]) hx hb dX12_unsoldSet_30 hl (k := 2) rfl (by rw [ey1]; rfl) (by decide) rfl (fun ls hl => ?_)
  refine lv_goto (tgt := 4) hx hb dX12_unsoldSet_33 (by decide) ?_
  exact hB4 x1 y1 M _ _ ls hT h (lv_sub hl [1, 2, 0] rfl)
def T_X12_unsoldSet_4 : Nat → Int32 → Int32 → Mm → (Int32 → Mm → Prop) → Prop
  | 0, _, _, _, _ => False
  | n + 1, x1, x2, M, K => (((M 159 6) ≤ x2 → (K x1 M)) ∧ (¬ (M 159 6) ≤ x2 → (vp_in ((7 : Int32) + x2) 135 ∧ (((M 160 (((7 : Int32) + x2)).toNatClampNeg) = 0 → (∀ y5 : Int32, y5 = (x1 ||| ((1 : Int32) <<< (x2 &&& 31))) → (T_X12_unsoldSet_30 (fun x1 x2 M => T_X12_unsoldSet_4 n x1 x2 M K) y5 x2 M K))) ∧ (¬ (M 160 (((7 : Int32) + x2)).toNatClampNeg) = 0 → (T_X12_unsoldSet_30 (fun x1 x2 M => T_X12_unsoldSet_4 n x1 x2 M K) x1 x2 M K))))))
set_option maxHeartbeats 4000000 in
set_option maxRecDepth 100000 in
theorem w_X12_unsoldSet_4 {p : Program} {l : Launch} {e : Env} {s : State} {m : MethodId} {args : Array Value} {below : List Frame} {meth : Method} {c : Code} {G : fx_G} {K : Int32 → Mm → Prop} (X : fx_C G p s m c args cX12_unsoldSet 3 RX12) (hr : meth.sig.returnType = (some .int)) (hk : meth.locks = false) : ∀ (n : Nat) (x1 : Int32) (x2 : Int32) (M : Mm) (H : Heap) (locs : List Loc) (ls : Array Slot), T_X12_unsoldSet_4 n x1 x2 M K → fx_H G SH M s H locs → lv_has ls 3 [(0, .ref (G.2.2.2 + 159)), (1, .int x1), (2, .int x2)] → W p l e (fx_rm (0)) s m args below meth c H locs 0 0 (MQ below (va_Qi K (fx_R G SH) (fx_A G)) args s 0 0 (fx_A G)) (F0 m 4 ls []) := by
  obtain ⟨⟨hx, hb, hml, hown, hts⟩, hK, hQ⟩ := id X
  intro n
  induction n with
  | zero =>
    intro x1 x2 M H locs ls hT
    exact hT.elim
  | succ n ih =>
    intro x1 x2 M H locs ls hT h hl
    rw [T_X12_unsoldSet_4] at hT
    refine lv_iload_n hx hb dX12_unsoldSet_4 rfl (lv_at hl 2 rfl) ?_
    refine lv_aload_n hx hb dX12_unsoldSet_5 rfl (lv_at hl 0 rfl) ?_
    refine fx_getI X h (k := 159) (j := 6) sh_159 rfl fl_RX12_147 dX12_unsoldSet_6 ?_
    refine lv_icmp_ge (tgt := 36) hx hb dX12_unsoldSet_9 (by decide) (fun hc2 => ?_) (fun hc2 => ?_)
    · have hT := hT.1 hc2
      refine lv_iload_n hx hb dX12_unsoldSet_36 rfl (lv_at hl 1 rfl) ?_
      exact fx_iret X hr hk h hT dX12_unsoldSet_37
    · have hT := hT.2 hc2
      refine lv_aload_n hx hb dX12_unsoldSet_12 rfl (lv_at hl 0 rfl) ?_
      refine fx_getR X h (k := 159) (j := 1) (r := 160) sh_159 rfl fl_RX12_7 dX12_unsoldSet_13 ?_
      refine lv_bipush (v := 7) hx hb dX12_unsoldSet_16 (by decide) ?_
      refine lv_iload_n hx hb dX12_unsoldSet_18 rfl (lv_at hl 2 rfl) ?_
      refine lv_iadd hx hb dX12_unsoldSet_19 ?_
      obtain ⟨hi3, hT⟩ := hT
      refine fx_iald X h (k := 160) sh_160 hi3 dX12_unsoldSet_20 ?_
      refine lv_if_ne (tgt := 30) hx hb dX12_unsoldSet_21 (by decide) (fun hc4 => ?_) (fun hc4 => ?_)
      · have hT := hT.2 hc4
        exact w_X12_unsoldSet_30 X hr hk (B4 := (fun x1 x2 M => T_X12_unsoldSet_4 n x1 x2 M K)) ih x1 x2 M _ _ ls hT h (lv_sub hl [0, 1, 2] rfl)
      · have hT := hT.1 hc4
        refine lv_iload_n hx hb dX12_unsoldSet_24 rfl (lv_at hl 1 rfl) ?_
        refine lv_iconst (v := 1) hx hb dX12_unsoldSet_25 (by decide) ?_
        refine lv_iload_n hx hb dX12_unsoldSet_26 rfl (lv_at hl 2 rfl) ?_
        refine lv_ishl hx hb dX12_unsoldSet_27 ?_
        refine lv_ior hx hb dX12_unsoldSet_28 ?_
        refine lv_topi (fun y5 ey5 => ?_)
        have hT := hT y5 ey5
        refine lv_istore_n (lv' := [(1, .int y5), (0, .ref (G.2.2.2 + 159)), (2, .int x2)]) hx hb dX12_unsoldSet_29 rfl hl (by decide) rfl (fun ls hl => ?_)
        exact w_X12_unsoldSet_30 X hr hk (B4 := (fun x1 x2 M => T_X12_unsoldSet_4 n x1 x2 M K)) ih y5 x2 M _ _ ls hT h (lv_sub hl [1, 0, 2] rfl)
def T_X12_unsoldSet (M : Mm) (K : Int32 → Mm → Prop) : Prop := (T_X12_unsoldSet_4 5000 (0 : Int32) (0 : Int32) M K)
set_option maxHeartbeats 4000000 in
set_option maxRecDepth 100000 in
theorem c_X12_unsoldSet (l : Launch) (G : fx_G) {M : Mm} {K : Int32 → Mm → Prop} (hT : T_X12_unsoldSet M K) : Met l yX12_unsoldSet (fx_ws yX12_unsoldSet cX12_unsoldSet 3 (some .int)) (fx_rm (0)) (va_Pc [.ref (G.2.2.2 + 159)] (fx_P G SH M)) (va_Qi K (fx_R G SH) (fx_A G)) 0 0 (fx_A G) := by
  refine fx_met (own := RX12) (by decide +kernel) rfl (Nat.le_of_ble_eq_true rfl) (fun p e s m below meth c X hr hk h ls hl => ?_)
  obtain ⟨⟨hx, hb, hml, hown, hts⟩, hK, hQ⟩ := id X
  have hl : lv_has ls 3 [(0, .ref (G.2.2.2 + 159))] := hl
  unfold T_X12_unsoldSet at hT
  refine lv_iconst (v := 0) hx hb dX12_unsoldSet_0 (by decide) ?_
  refine lv_istore_n (lv' := [(1, .int (0 : Int32)), (0, .ref (G.2.2.2 + 159))]) hx hb dX12_unsoldSet_1 rfl hl (by decide) rfl (fun ls hl => ?_)
  refine lv_iconst (v := 0) hx hb dX12_unsoldSet_2 (by decide) ?_
  refine lv_istore_n (lv' := [(2, .int (0 : Int32)), (1, .int (0 : Int32)), (0, .ref (G.2.2.2 + 159))]) hx hb dX12_unsoldSet_3 rfl hl (by decide) rfl (fun ls hl => ?_)
  exact w_X12_unsoldSet_4 X hr hk 5000 (0 : Int32) (0 : Int32) M _ _ ls hT h (lv_sub hl [2, 1, 0] rfl)
/-! MockParcelsModel.parcel(III)I -/
theorem dX12_parcel_0 : decode cX12_parcel 0 = .ok (.aload_n 0, 1) := by decide +kernel
theorem dX12_parcel_1 : decode cX12_parcel 1 = .ok (.iconst 0, 1) := by decide +kernel
theorem dX12_parcel_2 : decode cX12_parcel 2 = .ok (.putfield 134, 3) := by decide +kernel
theorem dX12_parcel_5 : decode cX12_parcel 5 = .ok (.aload_n 0, 1) := by decide +kernel
theorem dX12_parcel_6 : decode cX12_parcel 6 = .ok (.iload_n 1, 1) := by decide +kernel
theorem dX12_parcel_7 : decode cX12_parcel 7 = .ok (.iconst 0, 1) := by decide +kernel
theorem dX12_parcel_8 : decode cX12_parcel 8 = .ok (.bipush 99, 2) := by decide +kernel
theorem dX12_parcel_10 : decode cX12_parcel 10 = .ok (.invokevirtual 157, 3) := by decide +kernel
theorem dX12_parcel_13 : decode cX12_parcel 13 = .ok (.ifCond .eq 34, 3) := by decide +kernel
theorem dX12_parcel_16 : decode cX12_parcel 16 = .ok (.aload_n 0, 1) := by decide +kernel
theorem dX12_parcel_17 : decode cX12_parcel 17 = .ok (.iload_n 2, 1) := by decide +kernel
theorem dX12_parcel_18 : decode cX12_parcel 18 = .ok (.iconst 0, 1) := by decide +kernel
theorem dX12_parcel_19 : decode cX12_parcel 19 = .ok (.bipush 9, 2) := by decide +kernel
theorem dX12_parcel_21 : decode cX12_parcel 21 = .ok (.invokevirtual 157, 3) := by decide +kernel
theorem dX12_parcel_24 : decode cX12_parcel 24 = .ok (.ifCond .eq 23, 3) := by decide +kernel
theorem dX12_parcel_27 : decode cX12_parcel 27 = .ok (.aload_n 0, 1) := by decide +kernel
theorem dX12_parcel_28 : decode cX12_parcel 28 = .ok (.iload_n 3, 1) := by decide +kernel
theorem dX12_parcel_29 : decode cX12_parcel 29 = .ok (.iconst 0, 1) := by decide +kernel
theorem dX12_parcel_30 : decode cX12_parcel 30 = .ok (.bipush 9, 2) := by decide +kernel
theorem dX12_parcel_32 : decode cX12_parcel 32 = .ok (.invokevirtual 157, 3) := by decide +kernel
theorem dX12_parcel_35 : decode cX12_parcel 35 = .ok (.ifCond .eq 12, 3) := by decide +kernel
theorem dX12_parcel_38 : decode cX12_parcel 38 = .ok (.aload_n 0, 1) := by decide +kernel
theorem dX12_parcel_39 : decode cX12_parcel 39 = .ok (.getfield 147, 3) := by decide +kernel
theorem dX12_parcel_42 : decode cX12_parcel 42 = .ok (.bipush 16, 2) := by decide +kernel
theorem dX12_parcel_44 : decode cX12_parcel 44 = .ok (.if_icmp .ne 5, 3) := by decide +kernel
theorem dX12_parcel_47 : decode cX12_parcel 47 = .ok (.iconst (-1), 1) := by decide +kernel
theorem dX12_parcel_48 : decode cX12_parcel 48 = .ok (.ireturn, 1) := by decide +kernel
theorem dX12_parcel_49 : decode cX12_parcel 49 = .ok (.aload_n 0, 1) := by decide +kernel
theorem dX12_parcel_50 : decode cX12_parcel 50 = .ok (.getfield 19, 3) := by decide +kernel
theorem dX12_parcel_53 : decode cX12_parcel 53 = .ok (.aload_n 0, 1) := by decide +kernel
theorem dX12_parcel_54 : decode cX12_parcel 54 = .ok (.getfield 147, 3) := by decide +kernel
theorem dX12_parcel_57 : decode cX12_parcel 57 = .ok (.iload_n 1, 1) := by decide +kernel
theorem dX12_parcel_58 : decode cX12_parcel 58 = .ok (.iastore, 1) := by decide +kernel
theorem dX12_parcel_59 : decode cX12_parcel 59 = .ok (.aload_n 0, 1) := by decide +kernel
theorem dX12_parcel_60 : decode cX12_parcel 60 = .ok (.getfield 22, 3) := by decide +kernel
theorem dX12_parcel_63 : decode cX12_parcel 63 = .ok (.aload_n 0, 1) := by decide +kernel
theorem dX12_parcel_64 : decode cX12_parcel 64 = .ok (.getfield 147, 3) := by decide +kernel
theorem dX12_parcel_67 : decode cX12_parcel 67 = .ok (.iload_n 2, 1) := by decide +kernel
theorem dX12_parcel_68 : decode cX12_parcel 68 = .ok (.iastore, 1) := by decide +kernel
theorem dX12_parcel_69 : decode cX12_parcel 69 = .ok (.aload_n 0, 1) := by decide +kernel
theorem dX12_parcel_70 : decode cX12_parcel 70 = .ok (.getfield 25, 3) := by decide +kernel
theorem dX12_parcel_73 : decode cX12_parcel 73 = .ok (.aload_n 0, 1) := by decide +kernel
theorem dX12_parcel_74 : decode cX12_parcel 74 = .ok (.getfield 147, 3) := by decide +kernel
theorem dX12_parcel_77 : decode cX12_parcel 77 = .ok (.iload_n 3, 1) := by decide +kernel
theorem dX12_parcel_78 : decode cX12_parcel 78 = .ok (.iastore, 1) := by decide +kernel
theorem dX12_parcel_79 : decode cX12_parcel 79 = .ok (.aload_n 0, 1) := by decide +kernel
theorem dX12_parcel_80 : decode cX12_parcel 80 = .ok (.getfield 7, 3) := by decide +kernel
theorem dX12_parcel_83 : decode cX12_parcel 83 = .ok (.bipush 7, 2) := by decide +kernel
theorem dX12_parcel_85 : decode cX12_parcel 85 = .ok (.aload_n 0, 1) := by decide +kernel
theorem dX12_parcel_86 : decode cX12_parcel 86 = .ok (.getfield 147, 3) := by decide +kernel
theorem dX12_parcel_89 : decode cX12_parcel 89 = .ok (.iadd, 1) := by decide +kernel
theorem dX12_parcel_90 : decode cX12_parcel 90 = .ok (.iconst 0, 1) := by decide +kernel
theorem dX12_parcel_91 : decode cX12_parcel 91 = .ok (.iastore, 1) := by decide +kernel
theorem dX12_parcel_92 : decode cX12_parcel 92 = .ok (.aload_n 0, 1) := by decide +kernel
theorem dX12_parcel_93 : decode cX12_parcel 93 = .ok (.getfield 7, 3) := by decide +kernel
theorem dX12_parcel_96 : decode cX12_parcel 96 = .ok (.bipush 23, 2) := by decide +kernel
theorem dX12_parcel_98 : decode cX12_parcel 98 = .ok (.aload_n 0, 1) := by decide +kernel
theorem dX12_parcel_99 : decode cX12_parcel 99 = .ok (.getfield 147, 3) := by decide +kernel
theorem dX12_parcel_102 : decode cX12_parcel 102 = .ok (.iadd, 1) := by decide +kernel
theorem dX12_parcel_103 : decode cX12_parcel 103 = .ok (.iconst 0, 1) := by decide +kernel
theorem dX12_parcel_104 : decode cX12_parcel 104 = .ok (.iastore, 1) := by decide +kernel
theorem dX12_parcel_105 : decode cX12_parcel 105 = .ok (.aload_n 0, 1) := by decide +kernel
theorem dX12_parcel_106 : decode cX12_parcel 106 = .ok (.getfield 7, 3) := by decide +kernel
theorem dX12_parcel_109 : decode cX12_parcel 109 = .ok (.bipush 39, 2) := by decide +kernel
theorem dX12_parcel_111 : decode cX12_parcel 111 = .ok (.aload_n 0, 1) := by decide +kernel
theorem dX12_parcel_112 : decode cX12_parcel 112 = .ok (.getfield 147, 3) := by decide +kernel
theorem dX12_parcel_115 : decode cX12_parcel 115 = .ok (.iadd, 1) := by decide +kernel
theorem dX12_parcel_116 : decode cX12_parcel 116 = .ok (.iconst 0, 1) := by decide +kernel
theorem dX12_parcel_117 : decode cX12_parcel 117 = .ok (.iastore, 1) := by decide +kernel
theorem dX12_parcel_118 : decode cX12_parcel 118 = .ok (.aload_n 0, 1) := by decide +kernel
theorem dX12_parcel_119 : decode cX12_parcel 119 = .ok (.aload_n 0, 1) := by decide +kernel
theorem dX12_parcel_120 : decode cX12_parcel 120 = .ok (.getfield 147, 3) := by decide +kernel
theorem dX12_parcel_123 : decode cX12_parcel 123 = .ok (.iconst 1, 1) := by decide +kernel
theorem dX12_parcel_124 : decode cX12_parcel 124 = .ok (.iadd, 1) := by decide +kernel
theorem dX12_parcel_125 : decode cX12_parcel 125 = .ok (.putfield 147, 3) := by decide +kernel
theorem dX12_parcel_128 : decode cX12_parcel 128 = .ok (.aload_n 0, 1) := by decide +kernel
theorem dX12_parcel_129 : decode cX12_parcel 129 = .ok (.iconst 0, 1) := by decide +kernel
theorem dX12_parcel_130 : decode cX12_parcel 130 = .ok (.putfield 138, 3) := by decide +kernel
theorem dX12_parcel_133 : decode cX12_parcel 133 = .ok (.aload_n 0, 1) := by decide +kernel
theorem dX12_parcel_134 : decode cX12_parcel 134 = .ok (.getfield 147, 3) := by decide +kernel
theorem dX12_parcel_137 : decode cX12_parcel 137 = .ok (.iconst 1, 1) := by decide +kernel
theorem dX12_parcel_138 : decode cX12_parcel 138 = .ok (.isub, 1) := by decide +kernel
theorem dX12_parcel_139 : decode cX12_parcel 139 = .ok (.ireturn, 1) := by decide +kernel
def T_X12_parcel (x1 : Int32) (x2 : Int32) (x3 : Int32) (M : Mm) (K : Int32 → Mm → Prop) : Prop := (∀ M1 : Mm, M1 = m_up M 159 0 (0 : Int32) → (T_X12_isIn x1 (0 : Int32) (99 : Int32) M1 (fun r4 M3 => ((r4 = 0 → (K (-1 : Int32) M3)) ∧ (¬ r4 = 0 → (T_X12_isIn x2 (0 : Int32) (9 : Int32) M3 (fun r8 M7 => ((r8 = 0 → (K (-1 : Int32) M7)) ∧ (¬ r8 = 0 → (T_X12_isIn x3 (0 : Int32) (9 : Int32) M7 (fun r12 M11 => ((r12 = 0 → (K (-1 : Int32) M11)) ∧ (¬ r12 = 0 → (((M11 159 6) = (16 : Int32) → (K (-1 : Int32) M11)) ∧ (¬ (M11 159 6) = (16 : Int32) → (vp_in (M11 159 6) 16 ∧ (∀ M15 : Mm, M15 = m_up M11 163 ((M11 159 6)).toNatClampNeg x1 → (vp_in (M15 159 6) 16 ∧ (∀ M17 : Mm, M17 = m_up M15 164 ((M15 159 6)).toNatClampNeg x2 → (vp_in (M17 159 6) 16 ∧ (∀ M19 : Mm, M19 = m_up M17 165 ((M17 159 6)).toNatClampNeg x3 → (vp_in ((7 : Int32) + (M19 159 6)) 135 ∧ (∀ M21 : Mm, M21 = m_up M19 160 (((7 : Int32) + (M19 159 6))).toNatClampNeg (0 : Int32) → (vp_in ((23 : Int32) + (M21 159 6)) 135 ∧ (∀ M23 : Mm, M23 = m_up M21 160 (((23 : Int32) + (M21 159 6))).toNatClampNeg (0 : Int32) → (vp_in ((39 : Int32) + (M23 159 6)) 135 ∧ (∀ M25 : Mm, M25 = m_up M23 160 (((39 : Int32) + (M23 159 6))).toNatClampNeg (0 : Int32) → (∀ M27 : Mm, M27 = m_up M25 159 6 ((M25 159 6) + (1 : Int32)) → (∀ M28 : Mm, M28 = m_up M27 159 3 (0 : Int32) → (K ((M28 159 6) - (1 : Int32)) M28))))))))))))))))))))))))))))))
set_option maxHeartbeats 4000000 in
set_option maxRecDepth 100000 in
theorem c_X12_parcel (l : Launch) (G : fx_G) {x1 : Int32} {x2 : Int32} {x3 : Int32} {M : Mm} {K : Int32 → Mm → Prop} (hT : T_X12_parcel x1 x2 x3 M K) : Met l yX12_parcel (fx_ws yX12_parcel cX12_parcel 4 (some .int)) (fx_rm (1)) (va_Pc [.ref (G.2.2.2 + 159), .int x1, .int x2, .int x3] (fx_P G SH M)) (va_Qi K (fx_R G SH) (fx_A G)) 0 0 (fx_A G) := by
  refine fx_met (own := RX12) (by decide +kernel) rfl (Nat.le_of_ble_eq_true rfl) (fun p e s m below meth c X hr hk h ls hl => ?_)
  obtain ⟨⟨hx, hb, hml, hown, hts⟩, hK, hQ⟩ := id X
  have hl : lv_has ls 4 [(0, .ref (G.2.2.2 + 159)), (1, .int x1), (2, .int x2), (3, .int x3)] := hl
  unfold T_X12_parcel at hT
  refine lv_aload_n hx hb dX12_parcel_0 rfl (lv_at hl 0 rfl) ?_
  refine lv_iconst (v := 0) hx hb dX12_parcel_1 (by decide) ?_
  refine fx_putI X h (k := 159) (j := 0) sh_159 rfl fl_RX12_134 dX12_parcel_2 (fun H locs h => ?_)
  obtain ⟨M1, eM1⟩ : ∃ z : Mm, z = m_up M 159 0 (0 : Int32) := ⟨_, rfl⟩
  have hT := hT M1 eM1
  rw [← eM1] at h
  refine lv_aload_n hx hb dX12_parcel_5 rfl (lv_at hl 0 rfl) ?_
  refine lv_iload_n hx hb dX12_parcel_6 rfl (lv_at hl 1 rfl) ?_
  refine lv_iconst (v := 0) hx hb dX12_parcel_7 (by decide) ?_
  refine lv_bipush (v := 99) hx hb dX12_parcel_8 (by decide) ?_
  refine fx_vi X h ym_X12_isIn yi_X12_isIn ys_X12_isIn (fx_s7 (List.mem_of_getElem? (i := 77) rfl) rfl) sh_159 rfl (c_X12_isIn l G hT) (As := [.int x1, .int (0 : Int32), .int (99 : Int32)]) (rest := []) rfl rfl ⟨Nat.le_of_ble_eq_true rfl, Nat.le_of_ble_eq_true rfl⟩ ⟨Nat.le_refl _, Nat.le_refl _⟩ hl.1 (Nat.le_of_ble_eq_true rfl) dX12_parcel_10 (fun r4 M3 H locs hT h => ?_)
  refine lv_if_eq (tgt := 47) hx hb dX12_parcel_13 (by decide) (fun hc5 => ?_) (fun hc5 => ?_)
  · have hT := hT.1 hc5
    refine lv_iconst (v := -1) hx hb dX12_parcel_47 (by decide) ?_
    exact fx_iret X hr hk h hT dX12_parcel_48
  · have hT := hT.2 hc5
    refine lv_aload_n hx hb dX12_parcel_16 rfl (lv_at hl 0 rfl) ?_
    refine lv_iload_n hx hb dX12_parcel_17 rfl (lv_at hl 2 rfl) ?_
    refine lv_iconst (v := 0) hx hb dX12_parcel_18 (by decide) ?_
    refine lv_bipush (v := 9) hx hb dX12_parcel_19 (by decide) ?_
    refine fx_vi X h ym_X12_isIn yi_X12_isIn ys_X12_isIn (fx_s7 (List.mem_of_getElem? (i := 77) rfl) rfl) sh_159 rfl (c_X12_isIn l G hT) (As := [.int x2, .int (0 : Int32), .int (9 : Int32)]) (rest := []) rfl rfl ⟨Nat.le_of_ble_eq_true rfl, Nat.le_of_ble_eq_true rfl⟩ ⟨Nat.le_refl _, Nat.le_refl _⟩ hl.1 (Nat.le_of_ble_eq_true rfl) dX12_parcel_21 (fun r8 M7 H locs hT h => ?_)
    refine lv_if_eq (tgt := 47) hx hb dX12_parcel_24 (by decide) (fun hc9 => ?_) (fun hc9 => ?_)
    · have hT := hT.1 hc9
      refine lv_iconst (v := -1) hx hb dX12_parcel_47 (by decide) ?_
      exact fx_iret X hr hk h hT dX12_parcel_48
    · have hT := hT.2 hc9
      refine lv_aload_n hx hb dX12_parcel_27 rfl (lv_at hl 0 rfl) ?_
      refine lv_iload_n hx hb dX12_parcel_28 rfl (lv_at hl 3 rfl) ?_
      refine lv_iconst (v := 0) hx hb dX12_parcel_29 (by decide) ?_
      refine lv_bipush (v := 9) hx hb dX12_parcel_30 (by decide) ?_
      refine fx_vi X h ym_X12_isIn yi_X12_isIn ys_X12_isIn (fx_s7 (List.mem_of_getElem? (i := 77) rfl) rfl) sh_159 rfl (c_X12_isIn l G hT) (As := [.int x3, .int (0 : Int32), .int (9 : Int32)]) (rest := []) rfl rfl ⟨Nat.le_of_ble_eq_true rfl, Nat.le_of_ble_eq_true rfl⟩ ⟨Nat.le_refl _, Nat.le_refl _⟩ hl.1 (Nat.le_of_ble_eq_true rfl) dX12_parcel_32 (fun r12 M11 H locs hT h => ?_)
      refine lv_if_eq (tgt := 47) hx hb dX12_parcel_35 (by decide) (fun hc13 => ?_) (fun hc13 => ?_)
      · have hT := hT.1 hc13
        refine lv_iconst (v := -1) hx hb dX12_parcel_47 (by decide) ?_
        exact fx_iret X hr hk h hT dX12_parcel_48
      · have hT := hT.2 hc13
        refine lv_aload_n hx hb dX12_parcel_38 rfl (lv_at hl 0 rfl) ?_
        refine fx_getI X h (k := 159) (j := 6) sh_159 rfl fl_RX12_147 dX12_parcel_39 ?_
        refine lv_bipush (v := 16) hx hb dX12_parcel_42 (by decide) ?_
        refine lv_icmp_ne (tgt := 49) hx hb dX12_parcel_44 (by decide) (fun hc14 => ?_) (fun hc14 => ?_)
        · have hT := hT.2 hc14
          refine lv_aload_n hx hb dX12_parcel_49 rfl (lv_at hl 0 rfl) ?_
          refine fx_getR X h (k := 159) (j := 8) (r := 163) sh_159 rfl fl_RX12_19 dX12_parcel_50 ?_
          refine lv_aload_n hx hb dX12_parcel_53 rfl (lv_at hl 0 rfl) ?_
          refine fx_getI X h (k := 159) (j := 6) sh_159 rfl fl_RX12_147 dX12_parcel_54 ?_
          refine lv_iload_n hx hb dX12_parcel_57 rfl (lv_at hl 1 rfl) ?_
          obtain ⟨hi16, hT⟩ := hT
          refine fx_iast X h (k := 163) sh_163 hi16 dX12_parcel_58 (fun H locs h => ?_)
          obtain ⟨M15, eM15⟩ : ∃ z : Mm, z = m_up M11 163 ((M11 159 6)).toNatClampNeg x1 := ⟨_, rfl⟩
          have hT := hT M15 eM15
          rw [← eM15] at h
          refine lv_aload_n hx hb dX12_parcel_59 rfl (lv_at hl 0 rfl) ?_
          refine fx_getR X h (k := 159) (j := 9) (r := 164) sh_159 rfl fl_RX12_22 dX12_parcel_60 ?_
          refine lv_aload_n hx hb dX12_parcel_63 rfl (lv_at hl 0 rfl) ?_
          refine fx_getI X h (k := 159) (j := 6) sh_159 rfl fl_RX12_147 dX12_parcel_64 ?_
          refine lv_iload_n hx hb dX12_parcel_67 rfl (lv_at hl 2 rfl) ?_
          obtain ⟨hi18, hT⟩ := hT
          refine fx_iast X h (k := 164) sh_164 hi18 dX12_parcel_68 (fun H locs h => ?_)
          obtain ⟨M17, eM17⟩ : ∃ z : Mm, z = m_up M15 164 ((M15 159 6)).toNatClampNeg x2 := ⟨_, rfl⟩
          have hT := hT M17 eM17
          rw [← eM17] at h
          refine lv_aload_n hx hb dX12_parcel_69 rfl (lv_at hl 0 rfl) ?_
          refine fx_getR X h (k := 159) (j := 10) (r := 165) sh_159 rfl fl_RX12_25 dX12_parcel_70 ?_
          refine lv_aload_n hx hb dX12_parcel_73 rfl (lv_at hl 0 rfl) ?_
          refine fx_getI X h (k := 159) (j := 6) sh_159 rfl fl_RX12_147 dX12_parcel_74 ?_
          refine lv_iload_n hx hb dX12_parcel_77 rfl (lv_at hl 3 rfl) ?_
          obtain ⟨hi20, hT⟩ := hT
          refine fx_iast X h (k := 165) sh_165 hi20 dX12_parcel_78 (fun H locs h => ?_)
          obtain ⟨M19, eM19⟩ : ∃ z : Mm, z = m_up M17 165 ((M17 159 6)).toNatClampNeg x3 := ⟨_, rfl⟩
          have hT := hT M19 eM19
          rw [← eM19] at h
          refine lv_aload_n hx hb dX12_parcel_79 rfl (lv_at hl 0 rfl) ?_
          refine fx_getR X h (k := 159) (j := 1) (r := 160) sh_159 rfl fl_RX12_7 dX12_parcel_80 ?_
          refine lv_bipush (v := 7) hx hb dX12_parcel_83 (by decide) ?_
          refine lv_aload_n hx hb dX12_parcel_85 rfl (lv_at hl 0 rfl) ?_
          refine fx_getI X h (k := 159) (j := 6) sh_159 rfl fl_RX12_147 dX12_parcel_86 ?_
          refine lv_iadd hx hb dX12_parcel_89 ?_
          refine lv_iconst (v := 0) hx hb dX12_parcel_90 (by decide) ?_
          obtain ⟨hi22, hT⟩ := hT
          refine fx_iast X h (k := 160) sh_160 hi22 dX12_parcel_91 (fun H locs h => ?_)
          obtain ⟨M21, eM21⟩ : ∃ z : Mm, z = m_up M19 160 (((7 : Int32) + (M19 159 6))).toNatClampNeg (0 : Int32) := ⟨_, rfl⟩
          have hT := hT M21 eM21
          rw [← eM21] at h
          refine lv_aload_n hx hb dX12_parcel_92 rfl (lv_at hl 0 rfl) ?_
          refine fx_getR X h (k := 159) (j := 1) (r := 160) sh_159 rfl fl_RX12_7 dX12_parcel_93 ?_
          refine lv_bipush (v := 23) hx hb dX12_parcel_96 (by decide) ?_
          refine lv_aload_n hx hb dX12_parcel_98 rfl (lv_at hl 0 rfl) ?_
          refine fx_getI X h (k := 159) (j := 6) sh_159 rfl fl_RX12_147 dX12_parcel_99 ?_
          refine lv_iadd hx hb dX12_parcel_102 ?_
          refine lv_iconst (v := 0) hx hb dX12_parcel_103 (by decide) ?_
          obtain ⟨hi24, hT⟩ := hT
          refine fx_iast X h (k := 160) sh_160 hi24 dX12_parcel_104 (fun H locs h => ?_)
          obtain ⟨M23, eM23⟩ : ∃ z : Mm, z = m_up M21 160 (((23 : Int32) + (M21 159 6))).toNatClampNeg (0 : Int32) := ⟨_, rfl⟩
          have hT := hT M23 eM23
          rw [← eM23] at h
          refine lv_aload_n hx hb dX12_parcel_105 rfl (lv_at hl 0 rfl) ?_
          refine fx_getR X h (k := 159) (j := 1) (r := 160) sh_159 rfl fl_RX12_7 dX12_parcel_106 ?_
          refine lv_bipush (v := 39) hx hb dX12_parcel_109 (by decide) ?_
          refine lv_aload_n hx hb dX12_parcel_111 rfl (lv_at hl 0 rfl) ?_
          refine fx_getI X h (k := 159) (j := 6) sh_159 rfl fl_RX12_147 dX12_parcel_112 ?_
          refine lv_iadd hx hb dX12_parcel_115 ?_
          refine lv_iconst (v := 0) hx hb dX12_parcel_116 (by decide) ?_
          obtain ⟨hi26, hT⟩ := hT
          refine fx_iast X h (k := 160) sh_160 hi26 dX12_parcel_117 (fun H locs h => ?_)
          obtain ⟨M25, eM25⟩ : ∃ z : Mm, z = m_up M23 160 (((39 : Int32) + (M23 159 6))).toNatClampNeg (0 : Int32) := ⟨_, rfl⟩
          have hT := hT M25 eM25
          rw [← eM25] at h
          refine lv_aload_n hx hb dX12_parcel_118 rfl (lv_at hl 0 rfl) ?_
          refine lv_aload_n hx hb dX12_parcel_119 rfl (lv_at hl 0 rfl) ?_
          refine fx_getI X h (k := 159) (j := 6) sh_159 rfl fl_RX12_147 dX12_parcel_120 ?_
          refine lv_iconst (v := 1) hx hb dX12_parcel_123 (by decide) ?_
          refine lv_iadd hx hb dX12_parcel_124 ?_
          refine fx_putI X h (k := 159) (j := 6) sh_159 rfl fl_RX12_147 dX12_parcel_125 (fun H locs h => ?_)
          obtain ⟨M27, eM27⟩ : ∃ z : Mm, z = m_up M25 159 6 ((M25 159 6) + (1 : Int32)) := ⟨_, rfl⟩
          have hT := hT M27 eM27
          rw [← eM27] at h
          refine lv_aload_n hx hb dX12_parcel_128 rfl (lv_at hl 0 rfl) ?_
          refine lv_iconst (v := 0) hx hb dX12_parcel_129 (by decide) ?_
          refine fx_putI X h (k := 159) (j := 3) sh_159 rfl fl_RX12_138 dX12_parcel_130 (fun H locs h => ?_)
          obtain ⟨M28, eM28⟩ : ∃ z : Mm, z = m_up M27 159 3 (0 : Int32) := ⟨_, rfl⟩
          have hT := hT M28 eM28
          rw [← eM28] at h
          refine lv_aload_n hx hb dX12_parcel_133 rfl (lv_at hl 0 rfl) ?_
          refine fx_getI X h (k := 159) (j := 6) sh_159 rfl fl_RX12_147 dX12_parcel_134 ?_
          refine lv_iconst (v := 1) hx hb dX12_parcel_137 (by decide) ?_
          refine lv_isub hx hb dX12_parcel_138 ?_
          exact fx_iret X hr hk h hT dX12_parcel_139
        · have hT := hT.1 hc14
          refine lv_iconst (v := -1) hx hb dX12_parcel_47 (by decide) ?_
          exact fx_iret X hr hk h hT dX12_parcel_48
/-! MockParcelsModel.bidder(IIZ)I -/
theorem dX12_bidder_0 : decode cX12_bidder 0 = .ok (.aload_n 0, 1) := by decide +kernel
theorem dX12_bidder_1 : decode cX12_bidder 1 = .ok (.iconst 0, 1) := by decide +kernel
theorem dX12_bidder_2 : decode cX12_bidder 2 = .ok (.putfield 134, 3) := by decide +kernel
theorem dX12_bidder_5 : decode cX12_bidder 5 = .ok (.aload_n 0, 1) := by decide +kernel
theorem dX12_bidder_6 : decode cX12_bidder 6 = .ok (.iload_n 1, 1) := by decide +kernel
theorem dX12_bidder_7 : decode cX12_bidder 7 = .ok (.iconst 0, 1) := by decide +kernel
theorem dX12_bidder_8 : decode cX12_bidder 8 = .ok (.sipush 9999, 3) := by decide +kernel
theorem dX12_bidder_11 : decode cX12_bidder 11 = .ok (.invokevirtual 157, 3) := by decide +kernel
theorem dX12_bidder_14 : decode cX12_bidder 14 = .ok (.ifCond .eq 23, 3) := by decide +kernel
theorem dX12_bidder_17 : decode cX12_bidder 17 = .ok (.aload_n 0, 1) := by decide +kernel
theorem dX12_bidder_18 : decode cX12_bidder 18 = .ok (.iload_n 2, 1) := by decide +kernel
theorem dX12_bidder_19 : decode cX12_bidder 19 = .ok (.iconst 0, 1) := by decide +kernel
theorem dX12_bidder_20 : decode cX12_bidder 20 = .ok (.bipush 9, 2) := by decide +kernel
theorem dX12_bidder_22 : decode cX12_bidder 22 = .ok (.invokevirtual 157, 3) := by decide +kernel
theorem dX12_bidder_25 : decode cX12_bidder 25 = .ok (.ifCond .eq 12, 3) := by decide +kernel
theorem dX12_bidder_28 : decode cX12_bidder 28 = .ok (.aload_n 0, 1) := by decide +kernel
theorem dX12_bidder_29 : decode cX12_bidder 29 = .ok (.getfield 150, 3) := by decide +kernel
theorem dX12_bidder_32 : decode cX12_bidder 32 = .ok (.bipush 8, 2) := by decide +kernel
theorem dX12_bidder_34 : decode cX12_bidder 34 = .ok (.if_icmp .ne 5, 3) := by decide +kernel
theorem dX12_bidder_37 : decode cX12_bidder 37 = .ok (.iconst (-1), 1) := by decide +kernel
theorem dX12_bidder_38 : decode cX12_bidder 38 = .ok (.ireturn, 1) := by decide +kernel
theorem dX12_bidder_39 : decode cX12_bidder 39 = .ok (.aload_n 0, 1) := by decide +kernel
theorem dX12_bidder_40 : decode cX12_bidder 40 = .ok (.getfield 7, 3) := by decide +kernel
theorem dX12_bidder_43 : decode cX12_bidder 43 = .ok (.bipush 55, 2) := by decide +kernel
theorem dX12_bidder_45 : decode cX12_bidder 45 = .ok (.aload_n 0, 1) := by decide +kernel
theorem dX12_bidder_46 : decode cX12_bidder 46 = .ok (.getfield 150, 3) := by decide +kernel
theorem dX12_bidder_49 : decode cX12_bidder 49 = .ok (.iadd, 1) := by decide +kernel
theorem dX12_bidder_50 : decode cX12_bidder 50 = .ok (.iload_n 1, 1) := by decide +kernel
theorem dX12_bidder_51 : decode cX12_bidder 51 = .ok (.iastore, 1) := by decide +kernel
theorem dX12_bidder_52 : decode cX12_bidder 52 = .ok (.aload_n 0, 1) := by decide +kernel
theorem dX12_bidder_53 : decode cX12_bidder 53 = .ok (.getfield 7, 3) := by decide +kernel
theorem dX12_bidder_56 : decode cX12_bidder 56 = .ok (.bipush 63, 2) := by decide +kernel
theorem dX12_bidder_58 : decode cX12_bidder 58 = .ok (.aload_n 0, 1) := by decide +kernel
theorem dX12_bidder_59 : decode cX12_bidder 59 = .ok (.getfield 150, 3) := by decide +kernel
theorem dX12_bidder_62 : decode cX12_bidder 62 = .ok (.iadd, 1) := by decide +kernel
theorem dX12_bidder_63 : decode cX12_bidder 63 = .ok (.iconst 0, 1) := by decide +kernel
theorem dX12_bidder_64 : decode cX12_bidder 64 = .ok (.iastore, 1) := by decide +kernel
theorem dX12_bidder_65 : decode cX12_bidder 65 = .ok (.iconst 0, 1) := by decide +kernel
theorem dX12_bidder_66 : decode cX12_bidder 66 = .ok (.istore 4, 2) := by decide +kernel
theorem dX12_bidder_68 : decode cX12_bidder 68 = .ok (.iload 4, 2) := by decide +kernel
theorem dX12_bidder_70 : decode cX12_bidder 70 = .ok (.bipush 8, 2) := by decide +kernel
theorem dX12_bidder_72 : decode cX12_bidder 72 = .ok (.if_icmp .ge 28, 3) := by decide +kernel
theorem dX12_bidder_75 : decode cX12_bidder 75 = .ok (.aload_n 0, 1) := by decide +kernel
theorem dX12_bidder_76 : decode cX12_bidder 76 = .ok (.getfield 7, 3) := by decide +kernel
theorem dX12_bidder_79 : decode cX12_bidder 79 = .ok (.bipush 71, 2) := by decide +kernel
theorem dX12_bidder_81 : decode cX12_bidder 81 = .ok (.bipush 8, 2) := by decide +kernel
theorem dX12_bidder_83 : decode cX12_bidder 83 = .ok (.aload_n 0, 1) := by decide +kernel
theorem dX12_bidder_84 : decode cX12_bidder 84 = .ok (.getfield 150, 3) := by decide +kernel
theorem dX12_bidder_87 : decode cX12_bidder 87 = .ok (.imul, 1) := by decide +kernel
theorem dX12_bidder_88 : decode cX12_bidder 88 = .ok (.iadd, 1) := by decide +kernel
theorem dX12_bidder_89 : decode cX12_bidder 89 = .ok (.iload 4, 2) := by decide +kernel
theorem dX12_bidder_91 : decode cX12_bidder 91 = .ok (.iadd, 1) := by decide +kernel
theorem dX12_bidder_92 : decode cX12_bidder 92 = .ok (.iconst 0, 1) := by decide +kernel
theorem dX12_bidder_93 : decode cX12_bidder 93 = .ok (.iastore, 1) := by decide +kernel
theorem dX12_bidder_94 : decode cX12_bidder 94 = .ok (.iinc 4 1, 3) := by decide +kernel
theorem dX12_bidder_97 : decode cX12_bidder 97 = .ok (.goto (-29), 3) := by decide +kernel
theorem dX12_bidder_100 : decode cX12_bidder 100 = .ok (.aload_n 0, 1) := by decide +kernel
theorem dX12_bidder_101 : decode cX12_bidder 101 = .ok (.getfield 28, 3) := by decide +kernel
theorem dX12_bidder_104 : decode cX12_bidder 104 = .ok (.aload_n 0, 1) := by decide +kernel
theorem dX12_bidder_105 : decode cX12_bidder 105 = .ok (.getfield 150, 3) := by decide +kernel
theorem dX12_bidder_108 : decode cX12_bidder 108 = .ok (.iload_n 2, 1) := by decide +kernel
theorem dX12_bidder_109 : decode cX12_bidder 109 = .ok (.iastore, 1) := by decide +kernel
theorem dX12_bidder_110 : decode cX12_bidder 110 = .ok (.aload_n 0, 1) := by decide +kernel
theorem dX12_bidder_111 : decode cX12_bidder 111 = .ok (.getfield 31, 3) := by decide +kernel
theorem dX12_bidder_114 : decode cX12_bidder 114 = .ok (.aload_n 0, 1) := by decide +kernel
theorem dX12_bidder_115 : decode cX12_bidder 115 = .ok (.getfield 150, 3) := by decide +kernel
theorem dX12_bidder_118 : decode cX12_bidder 118 = .ok (.iload_n 3, 1) := by decide +kernel
theorem dX12_bidder_119 : decode cX12_bidder 119 = .ok (.ifCond .eq 7, 3) := by decide +kernel
theorem dX12_bidder_122 : decode cX12_bidder 122 = .ok (.iconst 1, 1) := by decide +kernel
theorem dX12_bidder_123 : decode cX12_bidder 123 = .ok (.goto 4, 3) := by decide +kernel
theorem dX12_bidder_126 : decode cX12_bidder 126 = .ok (.iconst 0, 1) := by decide +kernel
theorem dX12_bidder_127 : decode cX12_bidder 127 = .ok (.iastore, 1) := by decide +kernel
theorem dX12_bidder_128 : decode cX12_bidder 128 = .ok (.aload_n 0, 1) := by decide +kernel
theorem dX12_bidder_129 : decode cX12_bidder 129 = .ok (.aload_n 0, 1) := by decide +kernel
theorem dX12_bidder_130 : decode cX12_bidder 130 = .ok (.getfield 150, 3) := by decide +kernel
theorem dX12_bidder_133 : decode cX12_bidder 133 = .ok (.iconst 1, 1) := by decide +kernel
theorem dX12_bidder_134 : decode cX12_bidder 134 = .ok (.iadd, 1) := by decide +kernel
theorem dX12_bidder_135 : decode cX12_bidder 135 = .ok (.putfield 150, 3) := by decide +kernel
theorem dX12_bidder_138 : decode cX12_bidder 138 = .ok (.aload_n 0, 1) := by decide +kernel
theorem dX12_bidder_139 : decode cX12_bidder 139 = .ok (.iconst 0, 1) := by decide +kernel
theorem dX12_bidder_140 : decode cX12_bidder 140 = .ok (.putfield 138, 3) := by decide +kernel
theorem dX12_bidder_143 : decode cX12_bidder 143 = .ok (.aload_n 0, 1) := by decide +kernel
theorem dX12_bidder_144 : decode cX12_bidder 144 = .ok (.getfield 150, 3) := by decide +kernel
theorem dX12_bidder_147 : decode cX12_bidder 147 = .ok (.iconst 1, 1) := by decide +kernel
theorem dX12_bidder_148 : decode cX12_bidder 148 = .ok (.isub, 1) := by decide +kernel
theorem dX12_bidder_149 : decode cX12_bidder 149 = .ok (.ireturn, 1) := by decide +kernel
def T_X12_bidder_127 (s1 : Int32) (s2 : Int32) (M : Mm) (K : Int32 → Mm → Prop) : Prop := (vp_in s1 8 ∧ (∀ M1 : Mm, M1 = m_up M 167 (s1).toNatClampNeg s2 → (∀ M3 : Mm, M3 = m_up M1 159 7 ((M1 159 7) + (1 : Int32)) → (∀ M4 : Mm, M4 = m_up M3 159 3 (0 : Int32) → (K ((M4 159 7) - (1 : Int32)) M4)))))
set_option maxHeartbeats 4000000 in
set_option maxRecDepth 100000 in
theorem w_X12_bidder_127 {p : Program} {l : Launch} {e : Env} {s : State} {m : MethodId} {args : Array Value} {below : List Frame} {meth : Method} {c : Code} {G : fx_G} {K : Int32 → Mm → Prop} (X : fx_C G p s m c args cX12_bidder 5 RX12) (hr : meth.sig.returnType = (some .int)) (hk : meth.locks = false) : ∀ (s1 : Int32) (s2 : Int32) (M : Mm) (H : Heap) (locs : List Loc) (ls : Array Slot), T_X12_bidder_127 s1 s2 M K → fx_H G SH M s H locs → lv_has ls 5 [(0, .ref (G.2.2.2 + 159))] → W p l e (fx_rm (1)) s m args below meth c H locs 0 0 (MQ below (va_Qi K (fx_R G SH) (fx_A G)) args s 0 0 (fx_A G)) (F0 m 127 ls [.int s2, .int s1, .ref (G.2.2.2 + 167)]) := by
  obtain ⟨⟨hx, hb, hml, hown, hts⟩, hK, hQ⟩ := id X
  intro s1 s2 M H locs ls hT h hl
  unfold T_X12_bidder_127 at hT
  obtain ⟨hi2, hT⟩ := hT
  refine fx_iast X h (k := 167) sh_167 hi2 dX12_bidder_127 (fun H locs h => ?_)
  obtain ⟨M1, eM1⟩ : ∃ z : Mm, z = m_up M 167 (s1).toNatClampNeg s2 := ⟨_, rfl⟩
  have hT := hT M1 eM1
  rw [← eM1] at h
  refine lv_aload_n hx hb dX12_bidder_128 rfl (lv_at hl 0 rfl) ?_
  refine lv_aload_n hx hb dX12_bidder_129 rfl (lv_at hl 0 rfl) ?_
  refine fx_getI X h (k := 159) (j := 7) sh_159 rfl fl_RX12_150 dX12_bidder_130 ?_
  refine lv_iconst (v := 1) hx hb dX12_bidder_133 (by decide) ?_
  refine lv_iadd hx hb dX12_bidder_134 ?_
  refine fx_putI X h (k := 159) (j := 7) sh_159 rfl fl_RX12_150 dX12_bidder_135 (fun H locs h => ?_)
  obtain ⟨M3, eM3⟩ : ∃ z : Mm, z = m_up M1 159 7 ((M1 159 7) + (1 : Int32)) := ⟨_, rfl⟩
  have hT := hT M3 eM3
  rw [← eM3] at h
  refine lv_aload_n hx hb dX12_bidder_138 rfl (lv_at hl 0 rfl) ?_
  refine lv_iconst (v := 0) hx hb dX12_bidder_139 (by decide) ?_
  refine fx_putI X h (k := 159) (j := 3) sh_159 rfl fl_RX12_138 dX12_bidder_140 (fun H locs h => ?_)
  obtain ⟨M4, eM4⟩ : ∃ z : Mm, z = m_up M3 159 3 (0 : Int32) := ⟨_, rfl⟩
  have hT := hT M4 eM4
  rw [← eM4] at h
  refine lv_aload_n hx hb dX12_bidder_143 rfl (lv_at hl 0 rfl) ?_
  refine fx_getI X h (k := 159) (j := 7) sh_159 rfl fl_RX12_150 dX12_bidder_144 ?_
  refine lv_iconst (v := 1) hx hb dX12_bidder_147 (by decide) ?_
  refine lv_isub hx hb dX12_bidder_148 ?_
  exact fx_iret X hr hk h hT dX12_bidder_149
def T_X12_bidder_68 : Nat → Int32 → Int32 → Int32 → Mm → (Int32 → Mm → Prop) → Prop
  | 0, _, _, _, _, _ => False
  | n + 1, x2, x3, x4, M, K => (((8 : Int32) ≤ x4 → (vp_in (M 159 7) 8 ∧ (∀ M6 : Mm, M6 = m_up M 166 ((M 159 7)).toNatClampNeg x2 → ((x3 = 0 → (T_X12_bidder_127 (M6 159 7) (0 : Int32) M6 K)) ∧ (¬ x3 = 0 → (T_X12_bidder_127 (M6 159 7) (1 : Int32) M6 K)))))) ∧ (¬ (8 : Int32) ≤ x4 → (vp_in (((71 : Int32) + ((8 : Int32) * (M 159 7))) + x4) 135 ∧ (∀ M9 : Mm, M9 = m_up M 160 ((((71 : Int32) + ((8 : Int32) * (M 159 7))) + x4)).toNatClampNeg (0 : Int32) → (∀ y11 : Int32, y11 = x4 + (1 : Int32) → (T_X12_bidder_68 n x2 x3 y11 M9 K))))))
set_option maxHeartbeats 4000000 in
set_option maxRecDepth 100000 in
theorem w_X12_bidder_68 {p : Program} {l : Launch} {e : Env} {s : State} {m : MethodId} {args : Array Value} {below : List Frame} {meth : Method} {c : Code} {G : fx_G} {K : Int32 → Mm → Prop} (X : fx_C G p s m c args cX12_bidder 5 RX12) (hr : meth.sig.returnType = (some .int)) (hk : meth.locks = false) : ∀ (n : Nat) (x2 : Int32) (x3 : Int32) (x4 : Int32) (M : Mm) (H : Heap) (locs : List Loc) (ls : Array Slot), T_X12_bidder_68 n x2 x3 x4 M K → fx_H G SH M s H locs → lv_has ls 5 [(0, .ref (G.2.2.2 + 159)), (2, .int x2), (3, .int x3), (4, .int x4)] → W p l e (fx_rm (1)) s m args below meth c H locs 0 0 (MQ below (va_Qi K (fx_R G SH) (fx_A G)) args s 0 0 (fx_A G)) (F0 m 68 ls []) := by
  obtain ⟨⟨hx, hb, hml, hown, hts⟩, hK, hQ⟩ := id X
  intro n
  induction n with
  | zero =>
    intro x2 x3 x4 M H locs ls hT
    exact hT.elim
  | succ n ih =>
    intro x2 x3 x4 M H locs ls hT h hl
    rw [T_X12_bidder_68] at hT
    refine lv_iload hx hb dX12_bidder_68 (lv_at hl 3 rfl) ?_
    refine lv_bipush (v := 8) hx hb dX12_bidder_70 (by decide) ?_
    refine lv_icmp_ge (tgt := 100) hx hb dX12_bidder_72 (by decide) (fun hc5 => ?_) (fun hc5 => ?_)
    · have hT := hT.1 hc5
      refine lv_aload_n hx hb dX12_bidder_100 rfl (lv_at hl 0 rfl) ?_
      refine fx_getR X h (k := 159) (j := 11) (r := 166) sh_159 rfl fl_RX12_28 dX12_bidder_101 ?_
      refine lv_aload_n hx hb dX12_bidder_104 rfl (lv_at hl 0 rfl) ?_
      refine fx_getI X h (k := 159) (j := 7) sh_159 rfl fl_RX12_150 dX12_bidder_105 ?_
      refine lv_iload_n hx hb dX12_bidder_108 rfl (lv_at hl 1 rfl) ?_
      obtain ⟨hi7, hT⟩ := hT
      refine fx_iast X h (k := 166) sh_166 hi7 dX12_bidder_109 (fun H locs h => ?_)
      obtain ⟨M6, eM6⟩ : ∃ z : Mm, z = m_up M 166 ((M 159 7)).toNatClampNeg x2 := ⟨_, rfl⟩
      have hT := hT M6 eM6
      rw [← eM6] at h
      refine lv_aload_n hx hb dX12_bidder_110 rfl (lv_at hl 0 rfl) ?_
      refine fx_getR X h (k := 159) (j := 12) (r := 167) sh_159 rfl fl_RX12_31 dX12_bidder_111 ?_
      refine lv_aload_n hx hb dX12_bidder_114 rfl (lv_at hl 0 rfl) ?_
      refine fx_getI X h (k := 159) (j := 7) sh_159 rfl fl_RX12_150 dX12_bidder_115 ?_
      refine lv_iload_n hx hb dX12_bidder_118 rfl (lv_at hl 2 rfl) ?_
      refine lv_if_eq (tgt := 126) hx hb dX12_bidder_119 (by decide) (fun hc8 => ?_) (fun hc8 => ?_)
      · have hT := hT.1 hc8
        refine lv_iconst (v := 0) hx hb dX12_bidder_126 (by decide) ?_
        exact w_X12_bidder_127 X hr hk (M6 159 7) (0 : Int32) M6 _ _ ls hT h (lv_sub hl [0] rfl)
      · have hT := hT.2 hc8
        refine lv_iconst (v := 1) hx hb dX12_bidder_122 (by decide) ?_
        refine lv_goto (tgt := 127) hx hb dX12_bidder_123 (by decide) ?_
        exact w_X12_bidder_127 X hr hk (M6 159 7) (1 : Int32) M6 _ _ ls hT h (lv_sub hl [0] rfl)
    · have hT := hT.2 hc5
      refine lv_aload_n hx hb dX12_bidder_75 rfl (lv_at hl 0 rfl) ?_
      refine fx_getR X h (k := 159) (j := 1) (r := 160) sh_159 rfl fl_RX12_7 dX12_bidder_76 ?_
      refine lv_bipush (v := 71) hx hb dX12_bidder_79 (by decide) ?_
      refine lv_bipush (v := 8) hx hb dX12_bidder_81 (by decide) ?_
      refine lv_aload_n hx hb dX12_bidder_83 rfl (lv_at hl 0 rfl) ?_
      refine fx_getI X h (k := 159) (j := 7) sh_159 rfl fl_RX12_150 dX12_bidder_84 ?_
      refine lv_imul hx hb dX12_bidder_87 ?_
      refine lv_iadd hx hb dX12_bidder_88 ?_
      refine lv_iload hx hb dX12_bidder_89 (lv_at hl 3 rfl) ?_
      refine lv_iadd hx hb dX12_bidder_91 ?_
      refine lv_iconst (v := 0) hx hb dX12_bidder_92 (by decide) ?_
      obtain ⟨hi10, hT⟩ := hT
      refine fx_iast X h (k := 160) sh_160 hi10 dX12_bidder_93 (fun H locs h => ?_)
      obtain ⟨M9, eM9⟩ : ∃ z : Mm, z = m_up M 160 ((((71 : Int32) + ((8 : Int32) * (M 159 7))) + x4)).toNatClampNeg (0 : Int32) := ⟨_, rfl⟩
      have hT := hT M9 eM9
      rw [← eM9] at h
      obtain ⟨y11, ey11⟩ : ∃ z : Int32, z = x4 + (1 : Int32) := ⟨_, rfl⟩
      have hT := hT y11 ey11
      refine lv_iinc (v := y11) (lv' := [(4, .int y11), (0, .ref (G.2.2.2 + 159)), (2, .int x2), (3, .int x3)]) hx hb dX12_bidder_94 hl (k := 3) rfl (by rw [ey11]; rfl) (by decide) rfl (fun ls hl => ?_)
      refine lv_goto (tgt := 68) hx hb dX12_bidder_97 (by decide) ?_
      exact ih x2 x3 y11 M9 _ _ ls hT h (lv_sub hl [1, 2, 3, 0] rfl)
def T_X12_bidder (x1 : Int32) (x2 : Int32) (x3 : Int32) (M : Mm) (K : Int32 → Mm → Prop) : Prop := (∀ M12 : Mm, M12 = m_up M 159 0 (0 : Int32) → (T_X12_isIn x1 (0 : Int32) (9999 : Int32) M12 (fun r15 M14 => ((r15 = 0 → (K (-1 : Int32) M14)) ∧ (¬ r15 = 0 → (T_X12_isIn x2 (0 : Int32) (9 : Int32) M14 (fun r19 M18 => ((r19 = 0 → (K (-1 : Int32) M18)) ∧ (¬ r19 = 0 → (((M18 159 7) = (8 : Int32) → (K (-1 : Int32) M18)) ∧ (¬ (M18 159 7) = (8 : Int32) → (vp_in ((55 : Int32) + (M18 159 7)) 135 ∧ (∀ M22 : Mm, M22 = m_up M18 160 (((55 : Int32) + (M18 159 7))).toNatClampNeg x1 → (vp_in ((63 : Int32) + (M22 159 7)) 135 ∧ (∀ M24 : Mm, M24 = m_up M22 160 (((63 : Int32) + (M22 159 7))).toNatClampNeg (0 : Int32) → (T_X12_bidder_68 5000 x2 x3 (0 : Int32) M24 K))))))))))))))))
set_option maxHeartbeats 4000000 in
set_option maxRecDepth 100000 in
theorem c_X12_bidder (l : Launch) (G : fx_G) {x1 : Int32} {x2 : Int32} {x3 : Int32} {M : Mm} {K : Int32 → Mm → Prop} (hT : T_X12_bidder x1 x2 x3 M K) : Met l yX12_bidder (fx_ws yX12_bidder cX12_bidder 5 (some .int)) (fx_rm (1)) (va_Pc [.ref (G.2.2.2 + 159), .int x1, .int x2, .int x3] (fx_P G SH M)) (va_Qi K (fx_R G SH) (fx_A G)) 0 0 (fx_A G) := by
  refine fx_met (own := RX12) (by decide +kernel) rfl (Nat.le_of_ble_eq_true rfl) (fun p e s m below meth c X hr hk h ls hl => ?_)
  obtain ⟨⟨hx, hb, hml, hown, hts⟩, hK, hQ⟩ := id X
  have hl : lv_has ls 5 [(0, .ref (G.2.2.2 + 159)), (1, .int x1), (2, .int x2), (3, .int x3)] := hl
  unfold T_X12_bidder at hT
  refine lv_aload_n hx hb dX12_bidder_0 rfl (lv_at hl 0 rfl) ?_
  refine lv_iconst (v := 0) hx hb dX12_bidder_1 (by decide) ?_
  refine fx_putI X h (k := 159) (j := 0) sh_159 rfl fl_RX12_134 dX12_bidder_2 (fun H locs h => ?_)
  obtain ⟨M12, eM12⟩ : ∃ z : Mm, z = m_up M 159 0 (0 : Int32) := ⟨_, rfl⟩
  have hT := hT M12 eM12
  rw [← eM12] at h
  refine lv_aload_n hx hb dX12_bidder_5 rfl (lv_at hl 0 rfl) ?_
  refine lv_iload_n hx hb dX12_bidder_6 rfl (lv_at hl 1 rfl) ?_
  refine lv_iconst (v := 0) hx hb dX12_bidder_7 (by decide) ?_
  refine lv_sipush (v := 9999) hx hb dX12_bidder_8 (by decide) ?_
  refine fx_vi X h ym_X12_isIn yi_X12_isIn ys_X12_isIn (fx_s7 (List.mem_of_getElem? (i := 77) rfl) rfl) sh_159 rfl (c_X12_isIn l G hT) (As := [.int x1, .int (0 : Int32), .int (9999 : Int32)]) (rest := []) rfl rfl ⟨Nat.le_of_ble_eq_true rfl, Nat.le_of_ble_eq_true rfl⟩ ⟨Nat.le_refl _, Nat.le_refl _⟩ hl.1 (Nat.le_of_ble_eq_true rfl) dX12_bidder_11 (fun r15 M14 H locs hT h => ?_)
  refine lv_if_eq (tgt := 37) hx hb dX12_bidder_14 (by decide) (fun hc16 => ?_) (fun hc16 => ?_)
  · have hT := hT.1 hc16
    refine lv_iconst (v := -1) hx hb dX12_bidder_37 (by decide) ?_
    exact fx_iret X hr hk h hT dX12_bidder_38
  · have hT := hT.2 hc16
    refine lv_aload_n hx hb dX12_bidder_17 rfl (lv_at hl 0 rfl) ?_
    refine lv_iload_n hx hb dX12_bidder_18 rfl (lv_at hl 2 rfl) ?_
    refine lv_iconst (v := 0) hx hb dX12_bidder_19 (by decide) ?_
    refine lv_bipush (v := 9) hx hb dX12_bidder_20 (by decide) ?_
    refine fx_vi X h ym_X12_isIn yi_X12_isIn ys_X12_isIn (fx_s7 (List.mem_of_getElem? (i := 77) rfl) rfl) sh_159 rfl (c_X12_isIn l G hT) (As := [.int x2, .int (0 : Int32), .int (9 : Int32)]) (rest := []) rfl rfl ⟨Nat.le_of_ble_eq_true rfl, Nat.le_of_ble_eq_true rfl⟩ ⟨Nat.le_refl _, Nat.le_refl _⟩ hl.1 (Nat.le_of_ble_eq_true rfl) dX12_bidder_22 (fun r19 M18 H locs hT h => ?_)
    refine lv_if_eq (tgt := 37) hx hb dX12_bidder_25 (by decide) (fun hc20 => ?_) (fun hc20 => ?_)
    · have hT := hT.1 hc20
      refine lv_iconst (v := -1) hx hb dX12_bidder_37 (by decide) ?_
      exact fx_iret X hr hk h hT dX12_bidder_38
    · have hT := hT.2 hc20
      refine lv_aload_n hx hb dX12_bidder_28 rfl (lv_at hl 0 rfl) ?_
      refine fx_getI X h (k := 159) (j := 7) sh_159 rfl fl_RX12_150 dX12_bidder_29 ?_
      refine lv_bipush (v := 8) hx hb dX12_bidder_32 (by decide) ?_
      refine lv_icmp_ne (tgt := 39) hx hb dX12_bidder_34 (by decide) (fun hc21 => ?_) (fun hc21 => ?_)
      · have hT := hT.2 hc21
        refine lv_aload_n hx hb dX12_bidder_39 rfl (lv_at hl 0 rfl) ?_
        refine fx_getR X h (k := 159) (j := 1) (r := 160) sh_159 rfl fl_RX12_7 dX12_bidder_40 ?_
        refine lv_bipush (v := 55) hx hb dX12_bidder_43 (by decide) ?_
        refine lv_aload_n hx hb dX12_bidder_45 rfl (lv_at hl 0 rfl) ?_
        refine fx_getI X h (k := 159) (j := 7) sh_159 rfl fl_RX12_150 dX12_bidder_46 ?_
        refine lv_iadd hx hb dX12_bidder_49 ?_
        refine lv_iload_n hx hb dX12_bidder_50 rfl (lv_at hl 1 rfl) ?_
        obtain ⟨hi23, hT⟩ := hT
        refine fx_iast X h (k := 160) sh_160 hi23 dX12_bidder_51 (fun H locs h => ?_)
        obtain ⟨M22, eM22⟩ : ∃ z : Mm, z = m_up M18 160 (((55 : Int32) + (M18 159 7))).toNatClampNeg x1 := ⟨_, rfl⟩
        have hT := hT M22 eM22
        rw [← eM22] at h
        refine lv_aload_n hx hb dX12_bidder_52 rfl (lv_at hl 0 rfl) ?_
        refine fx_getR X h (k := 159) (j := 1) (r := 160) sh_159 rfl fl_RX12_7 dX12_bidder_53 ?_
        refine lv_bipush (v := 63) hx hb dX12_bidder_56 (by decide) ?_
        refine lv_aload_n hx hb dX12_bidder_58 rfl (lv_at hl 0 rfl) ?_
        refine fx_getI X h (k := 159) (j := 7) sh_159 rfl fl_RX12_150 dX12_bidder_59 ?_
        refine lv_iadd hx hb dX12_bidder_62 ?_
        refine lv_iconst (v := 0) hx hb dX12_bidder_63 (by decide) ?_
        obtain ⟨hi25, hT⟩ := hT
        refine fx_iast X h (k := 160) sh_160 hi25 dX12_bidder_64 (fun H locs h => ?_)
        obtain ⟨M24, eM24⟩ : ∃ z : Mm, z = m_up M22 160 (((63 : Int32) + (M22 159 7))).toNatClampNeg (0 : Int32) := ⟨_, rfl⟩
        have hT := hT M24 eM24
        rw [← eM24] at h
        refine lv_iconst (v := 0) hx hb dX12_bidder_65 (by decide) ?_
        refine lv_istore (lv' := [(4, .int (0 : Int32)), (0, .ref (G.2.2.2 + 159)), (1, .int x1), (2, .int x2), (3, .int x3)]) hx hb dX12_bidder_66 hl (by decide) rfl (fun ls hl => ?_)
        exact w_X12_bidder_68 X hr hk 5000 x2 x3 (0 : Int32) M24 _ _ ls hT h (lv_sub hl [1, 3, 4, 0] rfl)
      · have hT := hT.1 hc21
        refine lv_iconst (v := -1) hx hb dX12_bidder_37 (by decide) ?_
        exact fx_iret X hr hk h hT dX12_bidder_38
/-! MockParcelsModel.canSet(III)Z -/
theorem dX12_canSet_0 : decode cX12_canSet 0 = .ok (.iload_n 1, 1) := by decide +kernel
theorem dX12_canSet_1 : decode cX12_canSet 1 = .ok (.ifCond .ne 12, 3) := by decide +kernel
theorem dX12_canSet_4 : decode cX12_canSet 4 = .ok (.aload_n 0, 1) := by decide +kernel
theorem dX12_canSet_5 : decode cX12_canSet 5 = .ok (.iload_n 3, 1) := by decide +kernel
theorem dX12_canSet_6 : decode cX12_canSet 6 = .ok (.iconst 0, 1) := by decide +kernel
theorem dX12_canSet_7 : decode cX12_canSet 7 = .ok (.bipush 99, 2) := by decide +kernel
theorem dX12_canSet_9 : decode cX12_canSet 9 = .ok (.invokevirtual 157, 3) := by decide +kernel
theorem dX12_canSet_12 : decode cX12_canSet 12 = .ok (.ireturn, 1) := by decide +kernel
theorem dX12_canSet_13 : decode cX12_canSet 13 = .ok (.iload_n 1, 1) := by decide +kernel
theorem dX12_canSet_14 : decode cX12_canSet 14 = .ok (.iconst 1, 1) := by decide +kernel
theorem dX12_canSet_15 : decode cX12_canSet 15 = .ok (.if_icmp .ne 12, 3) := by decide +kernel
theorem dX12_canSet_18 : decode cX12_canSet 18 = .ok (.aload_n 0, 1) := by decide +kernel
theorem dX12_canSet_19 : decode cX12_canSet 19 = .ok (.iload_n 3, 1) := by decide +kernel
theorem dX12_canSet_20 : decode cX12_canSet 20 = .ok (.iconst 0, 1) := by decide +kernel
theorem dX12_canSet_21 : decode cX12_canSet 21 = .ok (.bipush 9, 2) := by decide +kernel
theorem dX12_canSet_23 : decode cX12_canSet 23 = .ok (.invokevirtual 157, 3) := by decide +kernel
theorem dX12_canSet_26 : decode cX12_canSet 26 = .ok (.ireturn, 1) := by decide +kernel
theorem dX12_canSet_27 : decode cX12_canSet 27 = .ok (.iload_n 1, 1) := by decide +kernel
theorem dX12_canSet_28 : decode cX12_canSet 28 = .ok (.iconst 2, 1) := by decide +kernel
theorem dX12_canSet_29 : decode cX12_canSet 29 = .ok (.if_icmp .eq 8, 3) := by decide +kernel
theorem dX12_canSet_32 : decode cX12_canSet 32 = .ok (.iload_n 1, 1) := by decide +kernel
theorem dX12_canSet_33 : decode cX12_canSet 33 = .ok (.iconst 3, 1) := by decide +kernel
theorem dX12_canSet_34 : decode cX12_canSet 34 = .ok (.if_icmp .ne 39, 3) := by decide +kernel
theorem dX12_canSet_37 : decode cX12_canSet 37 = .ok (.aload_n 0, 1) := by decide +kernel
theorem dX12_canSet_38 : decode cX12_canSet 38 = .ok (.iload_n 2, 1) := by decide +kernel
theorem dX12_canSet_39 : decode cX12_canSet 39 = .ok (.invokevirtual 161, 3) := by decide +kernel
theorem dX12_canSet_42 : decode cX12_canSet 42 = .ok (.ifCond .eq 29, 3) := by decide +kernel
theorem dX12_canSet_45 : decode cX12_canSet 45 = .ok (.aload_n 0, 1) := by decide +kernel
theorem dX12_canSet_46 : decode cX12_canSet 46 = .ok (.iload_n 3, 1) := by decide +kernel
theorem dX12_canSet_47 : decode cX12_canSet 47 = .ok (.iconst 0, 1) := by decide +kernel
theorem dX12_canSet_48 : decode cX12_canSet 48 = .ok (.iload_n 1, 1) := by decide +kernel
theorem dX12_canSet_49 : decode cX12_canSet 49 = .ok (.iconst 2, 1) := by decide +kernel
theorem dX12_canSet_50 : decode cX12_canSet 50 = .ok (.if_icmp .ne 9, 3) := by decide +kernel
theorem dX12_canSet_53 : decode cX12_canSet 53 = .ok (.sipush 9999, 3) := by decide +kernel
theorem dX12_canSet_56 : decode cX12_canSet 56 = .ok (.goto 5, 3) := by decide +kernel
theorem dX12_canSet_59 : decode cX12_canSet 59 = .ok (.bipush 9, 2) := by decide +kernel
theorem dX12_canSet_61 : decode cX12_canSet 61 = .ok (.invokevirtual 157, 3) := by decide +kernel
theorem dX12_canSet_64 : decode cX12_canSet 64 = .ok (.ifCond .eq 7, 3) := by decide +kernel
theorem dX12_canSet_67 : decode cX12_canSet 67 = .ok (.iconst 1, 1) := by decide +kernel
theorem dX12_canSet_68 : decode cX12_canSet 68 = .ok (.goto 4, 3) := by decide +kernel
theorem dX12_canSet_71 : decode cX12_canSet 71 = .ok (.iconst 0, 1) := by decide +kernel
theorem dX12_canSet_72 : decode cX12_canSet 72 = .ok (.ireturn, 1) := by decide +kernel
theorem dX12_canSet_73 : decode cX12_canSet 73 = .ok (.iload_n 1, 1) := by decide +kernel
theorem dX12_canSet_74 : decode cX12_canSet 74 = .ok (.iconst 4, 1) := by decide +kernel
theorem dX12_canSet_75 : decode cX12_canSet 75 = .ok (.if_icmp .eq 8, 3) := by decide +kernel
theorem dX12_canSet_78 : decode cX12_canSet 78 = .ok (.iload_n 1, 1) := by decide +kernel
theorem dX12_canSet_79 : decode cX12_canSet 79 = .ok (.iconst 5, 1) := by decide +kernel
theorem dX12_canSet_80 : decode cX12_canSet 80 = .ok (.if_icmp .ne 36, 3) := by decide +kernel
theorem dX12_canSet_83 : decode cX12_canSet 83 = .ok (.aload_n 0, 1) := by decide +kernel
theorem dX12_canSet_84 : decode cX12_canSet 84 = .ok (.iload_n 2, 1) := by decide +kernel
theorem dX12_canSet_85 : decode cX12_canSet 85 = .ok (.invokevirtual 165, 3) := by decide +kernel
theorem dX12_canSet_88 : decode cX12_canSet 88 = .ok (.ifCond .eq 28, 3) := by decide +kernel
theorem dX12_canSet_91 : decode cX12_canSet 91 = .ok (.aload_n 0, 1) := by decide +kernel
theorem dX12_canSet_92 : decode cX12_canSet 92 = .ok (.iload_n 3, 1) := by decide +kernel
theorem dX12_canSet_93 : decode cX12_canSet 93 = .ok (.iconst 0, 1) := by decide +kernel
theorem dX12_canSet_94 : decode cX12_canSet 94 = .ok (.iload_n 1, 1) := by decide +kernel
theorem dX12_canSet_95 : decode cX12_canSet 95 = .ok (.iconst 4, 1) := by decide +kernel
theorem dX12_canSet_96 : decode cX12_canSet 96 = .ok (.if_icmp .ne 8, 3) := by decide +kernel
theorem dX12_canSet_99 : decode cX12_canSet 99 = .ok (.bipush 9, 2) := by decide +kernel
theorem dX12_canSet_101 : decode cX12_canSet 101 = .ok (.goto 5, 3) := by decide +kernel
theorem dX12_canSet_104 : decode cX12_canSet 104 = .ok (.bipush 99, 2) := by decide +kernel
theorem dX12_canSet_106 : decode cX12_canSet 106 = .ok (.invokevirtual 157, 3) := by decide +kernel
theorem dX12_canSet_109 : decode cX12_canSet 109 = .ok (.ifCond .eq 7, 3) := by decide +kernel
theorem dX12_canSet_112 : decode cX12_canSet 112 = .ok (.iconst 1, 1) := by decide +kernel
theorem dX12_canSet_113 : decode cX12_canSet 113 = .ok (.goto 4, 3) := by decide +kernel
theorem dX12_canSet_116 : decode cX12_canSet 116 = .ok (.iconst 0, 1) := by decide +kernel
theorem dX12_canSet_117 : decode cX12_canSet 117 = .ok (.ireturn, 1) := by decide +kernel
def T_X12_canSet_61 (s1 : Int32) (s2 : Int32) (s3 : Int32) (M : Mm) (K : Int32 → Mm → Prop) : Prop := (T_X12_isIn s1 s2 s3 M (fun r3 M2 => ((r3 = 0 → (K (0 : Int32) M2)) ∧ (¬ r3 = 0 → (K (1 : Int32) M2)))))
set_option maxHeartbeats 4000000 in
set_option maxRecDepth 100000 in
theorem w_X12_canSet_61 {p : Program} {l : Launch} {e : Env} {s : State} {m : MethodId} {args : Array Value} {below : List Frame} {meth : Method} {c : Code} {G : fx_G} {K : Int32 → Mm → Prop} (X : fx_C G p s m c args cX12_canSet 4 RX12) (hr : meth.sig.returnType = (some .boolean)) (hk : meth.locks = false) : ∀ (s1 : Int32) (s2 : Int32) (s3 : Int32) (M : Mm) (H : Heap) (locs : List Loc) (ls : Array Slot), T_X12_canSet_61 s1 s2 s3 M K → fx_H G SH M s H locs → lv_has ls 4 [] → W p l e (fx_rm (1)) s m args below meth c H locs 0 0 (MQ below (va_Qi K (fx_R G SH) (fx_A G)) args s 0 0 (fx_A G)) (F0 m 61 ls [.int s3, .int s2, .int s1, .ref (G.2.2.2 + 159)]) := by
  obtain ⟨⟨hx, hb, hml, hown, hts⟩, hK, hQ⟩ := id X
  intro s1 s2 s3 M H locs ls hT h hl
  unfold T_X12_canSet_61 at hT
  refine fx_vi X h ym_X12_isIn yi_X12_isIn ys_X12_isIn (fx_s7 (List.mem_of_getElem? (i := 77) rfl) rfl) sh_159 rfl (c_X12_isIn l G hT) (As := [.int s1, .int s2, .int s3]) (rest := []) rfl rfl ⟨Nat.le_of_ble_eq_true rfl, Nat.le_of_ble_eq_true rfl⟩ ⟨Nat.le_refl _, Nat.le_refl _⟩ hl.1 (Nat.le_of_ble_eq_true rfl) dX12_canSet_61 (fun r3 M2 H locs hT h => ?_)
  refine lv_if_eq (tgt := 71) hx hb dX12_canSet_64 (by decide) (fun hc4 => ?_) (fun hc4 => ?_)
  · have hT := hT.1 hc4
    refine lv_iconst (v := 0) hx hb dX12_canSet_71 (by decide) ?_
    exact fx_zret X hr hk h (Or.inl rfl) hT dX12_canSet_72
  · have hT := hT.2 hc4
    refine lv_iconst (v := 1) hx hb dX12_canSet_67 (by decide) ?_
    refine lv_goto (tgt := 72) hx hb dX12_canSet_68 (by decide) ?_
    exact fx_zret X hr hk h (Or.inr rfl) hT dX12_canSet_72
def T_X12_canSet_37 (x1 : Int32) (x2 : Int32) (x3 : Int32) (M : Mm) (K : Int32 → Mm → Prop) : Prop := (T_X12_isBidder x2 M (fun r7 M6 => ((r7 = 0 → (K (0 : Int32) M6)) ∧ (¬ r7 = 0 → ((x1 = (2 : Int32) → (T_X12_canSet_61 x3 (0 : Int32) (9999 : Int32) M6 K)) ∧ (¬ x1 = (2 : Int32) → (T_X12_canSet_61 x3 (0 : Int32) (9 : Int32) M6 K)))))))
set_option maxHeartbeats 4000000 in
set_option maxRecDepth 100000 in
theorem w_X12_canSet_37 {p : Program} {l : Launch} {e : Env} {s : State} {m : MethodId} {args : Array Value} {below : List Frame} {meth : Method} {c : Code} {G : fx_G} {K : Int32 → Mm → Prop} (X : fx_C G p s m c args cX12_canSet 4 RX12) (hr : meth.sig.returnType = (some .boolean)) (hk : meth.locks = false) : ∀ (x1 : Int32) (x2 : Int32) (x3 : Int32) (M : Mm) (H : Heap) (locs : List Loc) (ls : Array Slot), T_X12_canSet_37 x1 x2 x3 M K → fx_H G SH M s H locs → lv_has ls 4 [(0, .ref (G.2.2.2 + 159)), (1, .int x1), (2, .int x2), (3, .int x3)] → W p l e (fx_rm (1)) s m args below meth c H locs 0 0 (MQ below (va_Qi K (fx_R G SH) (fx_A G)) args s 0 0 (fx_A G)) (F0 m 37 ls []) := by
  obtain ⟨⟨hx, hb, hml, hown, hts⟩, hK, hQ⟩ := id X
  intro x1 x2 x3 M H locs ls hT h hl
  unfold T_X12_canSet_37 at hT
  refine lv_aload_n hx hb dX12_canSet_37 rfl (lv_at hl 0 rfl) ?_
  refine lv_iload_n hx hb dX12_canSet_38 rfl (lv_at hl 2 rfl) ?_
  refine fx_vi X h ym_X12_isBidder yi_X12_isBidder ys_X12_isBidder (fx_s7 (List.mem_of_getElem? (i := 93) rfl) rfl) sh_159 rfl (c_X12_isBidder l G hT) (As := [.int x2]) (rest := []) rfl rfl ⟨Nat.le_of_ble_eq_true rfl, Nat.le_of_ble_eq_true rfl⟩ ⟨Nat.le_refl _, Nat.le_refl _⟩ hl.1 (Nat.le_of_ble_eq_true rfl) dX12_canSet_39 (fun r7 M6 H locs hT h => ?_)
  refine lv_if_eq (tgt := 71) hx hb dX12_canSet_42 (by decide) (fun hc8 => ?_) (fun hc8 => ?_)
  · have hT := hT.1 hc8
    refine lv_iconst (v := 0) hx hb dX12_canSet_71 (by decide) ?_
    exact fx_zret X hr hk h (Or.inl rfl) hT dX12_canSet_72
  · have hT := hT.2 hc8
    refine lv_aload_n hx hb dX12_canSet_45 rfl (lv_at hl 0 rfl) ?_
    refine lv_iload_n hx hb dX12_canSet_46 rfl (lv_at hl 3 rfl) ?_
    refine lv_iconst (v := 0) hx hb dX12_canSet_47 (by decide) ?_
    refine lv_iload_n hx hb dX12_canSet_48 rfl (lv_at hl 1 rfl) ?_
    refine lv_iconst (v := 2) hx hb dX12_canSet_49 (by decide) ?_
    refine lv_icmp_ne (tgt := 59) hx hb dX12_canSet_50 (by decide) (fun hc9 => ?_) (fun hc9 => ?_)
    · have hT := hT.2 hc9
      refine lv_bipush (v := 9) hx hb dX12_canSet_59 (by decide) ?_
      exact w_X12_canSet_61 X hr hk x3 (0 : Int32) (9 : Int32) M6 _ _ ls hT h (lv_sub hl [] rfl)
    · have hT := hT.1 hc9
      refine lv_sipush (v := 9999) hx hb dX12_canSet_53 (by decide) ?_
      refine lv_goto (tgt := 61) hx hb dX12_canSet_56 (by decide) ?_
      exact w_X12_canSet_61 X hr hk x3 (0 : Int32) (9999 : Int32) M6 _ _ ls hT h (lv_sub hl [] rfl)
def T_X12_canSet_106 (s1 : Int32) (s2 : Int32) (s3 : Int32) (M : Mm) (K : Int32 → Mm → Prop) : Prop := (T_X12_isIn s1 s2 s3 M (fun r12 M11 => ((r12 = 0 → (K (0 : Int32) M11)) ∧ (¬ r12 = 0 → (K (1 : Int32) M11)))))
set_option maxHeartbeats 4000000 in
set_option maxRecDepth 100000 in
theorem w_X12_canSet_106 {p : Program} {l : Launch} {e : Env} {s : State} {m : MethodId} {args : Array Value} {below : List Frame} {meth : Method} {c : Code} {G : fx_G} {K : Int32 → Mm → Prop} (X : fx_C G p s m c args cX12_canSet 4 RX12) (hr : meth.sig.returnType = (some .boolean)) (hk : meth.locks = false) : ∀ (s1 : Int32) (s2 : Int32) (s3 : Int32) (M : Mm) (H : Heap) (locs : List Loc) (ls : Array Slot), T_X12_canSet_106 s1 s2 s3 M K → fx_H G SH M s H locs → lv_has ls 4 [] → W p l e (fx_rm (1)) s m args below meth c H locs 0 0 (MQ below (va_Qi K (fx_R G SH) (fx_A G)) args s 0 0 (fx_A G)) (F0 m 106 ls [.int s3, .int s2, .int s1, .ref (G.2.2.2 + 159)]) := by
  obtain ⟨⟨hx, hb, hml, hown, hts⟩, hK, hQ⟩ := id X
  intro s1 s2 s3 M H locs ls hT h hl
  unfold T_X12_canSet_106 at hT
  refine fx_vi X h ym_X12_isIn yi_X12_isIn ys_X12_isIn (fx_s7 (List.mem_of_getElem? (i := 77) rfl) rfl) sh_159 rfl (c_X12_isIn l G hT) (As := [.int s1, .int s2, .int s3]) (rest := []) rfl rfl ⟨Nat.le_of_ble_eq_true rfl, Nat.le_of_ble_eq_true rfl⟩ ⟨Nat.le_refl _, Nat.le_refl _⟩ hl.1 (Nat.le_of_ble_eq_true rfl) dX12_canSet_106 (fun r12 M11 H locs hT h => ?_)
  refine lv_if_eq (tgt := 116) hx hb dX12_canSet_109 (by decide) (fun hc13 => ?_) (fun hc13 => ?_)
  · have hT := hT.1 hc13
    refine lv_iconst (v := 0) hx hb dX12_canSet_116 (by decide) ?_
    exact fx_zret X hr hk h (Or.inl rfl) hT dX12_canSet_117
  · have hT := hT.2 hc13
    refine lv_iconst (v := 1) hx hb dX12_canSet_112 (by decide) ?_
    refine lv_goto (tgt := 117) hx hb dX12_canSet_113 (by decide) ?_
    exact fx_zret X hr hk h (Or.inr rfl) hT dX12_canSet_117
def T_X12_canSet_83 (x1 : Int32) (x2 : Int32) (x3 : Int32) (M : Mm) (K : Int32 → Mm → Prop) : Prop := (T_X12_isParcel x2 M (fun r16 M15 => ((r16 = 0 → (K (0 : Int32) M15)) ∧ (¬ r16 = 0 → ((x1 = (4 : Int32) → (T_X12_canSet_106 x3 (0 : Int32) (9 : Int32) M15 K)) ∧ (¬ x1 = (4 : Int32) → (T_X12_canSet_106 x3 (0 : Int32) (99 : Int32) M15 K)))))))
set_option maxHeartbeats 4000000 in
set_option maxRecDepth 100000 in
theorem w_X12_canSet_83 {p : Program} {l : Launch} {e : Env} {s : State} {m : MethodId} {args : Array Value} {below : List Frame} {meth : Method} {c : Code} {G : fx_G} {K : Int32 → Mm → Prop} (X : fx_C G p s m c args cX12_canSet 4 RX12) (hr : meth.sig.returnType = (some .boolean)) (hk : meth.locks = false) : ∀ (x1 : Int32) (x2 : Int32) (x3 : Int32) (M : Mm) (H : Heap) (locs : List Loc) (ls : Array Slot), T_X12_canSet_83 x1 x2 x3 M K → fx_H G SH M s H locs → lv_has ls 4 [(0, .ref (G.2.2.2 + 159)), (1, .int x1), (2, .int x2), (3, .int x3)] → W p l e (fx_rm (1)) s m args below meth c H locs 0 0 (MQ below (va_Qi K (fx_R G SH) (fx_A G)) args s 0 0 (fx_A G)) (F0 m 83 ls []) := by
  obtain ⟨⟨hx, hb, hml, hown, hts⟩, hK, hQ⟩ := id X
  intro x1 x2 x3 M H locs ls hT h hl
  unfold T_X12_canSet_83 at hT
  refine lv_aload_n hx hb dX12_canSet_83 rfl (lv_at hl 0 rfl) ?_
  refine lv_iload_n hx hb dX12_canSet_84 rfl (lv_at hl 2 rfl) ?_
  refine fx_vi X h ym_X12_isParcel yi_X12_isParcel ys_X12_isParcel (fx_s7 (List.mem_of_getElem? (i := 97) rfl) rfl) sh_159 rfl (c_X12_isParcel l G hT) (As := [.int x2]) (rest := []) rfl rfl ⟨Nat.le_of_ble_eq_true rfl, Nat.le_of_ble_eq_true rfl⟩ ⟨Nat.le_refl _, Nat.le_refl _⟩ hl.1 (Nat.le_of_ble_eq_true rfl) dX12_canSet_85 (fun r16 M15 H locs hT h => ?_)
  refine lv_if_eq (tgt := 116) hx hb dX12_canSet_88 (by decide) (fun hc17 => ?_) (fun hc17 => ?_)
  · have hT := hT.1 hc17
    refine lv_iconst (v := 0) hx hb dX12_canSet_116 (by decide) ?_
    exact fx_zret X hr hk h (Or.inl rfl) hT dX12_canSet_117
  · have hT := hT.2 hc17
    refine lv_aload_n hx hb dX12_canSet_91 rfl (lv_at hl 0 rfl) ?_
    refine lv_iload_n hx hb dX12_canSet_92 rfl (lv_at hl 3 rfl) ?_
    refine lv_iconst (v := 0) hx hb dX12_canSet_93 (by decide) ?_
    refine lv_iload_n hx hb dX12_canSet_94 rfl (lv_at hl 1 rfl) ?_
    refine lv_iconst (v := 4) hx hb dX12_canSet_95 (by decide) ?_
    refine lv_icmp_ne (tgt := 104) hx hb dX12_canSet_96 (by decide) (fun hc18 => ?_) (fun hc18 => ?_)
    · have hT := hT.2 hc18
      refine lv_bipush (v := 99) hx hb dX12_canSet_104 (by decide) ?_
      exact w_X12_canSet_106 X hr hk x3 (0 : Int32) (99 : Int32) M15 _ _ ls hT h (lv_sub hl [] rfl)
    · have hT := hT.1 hc18
      refine lv_bipush (v := 9) hx hb dX12_canSet_99 (by decide) ?_
      refine lv_goto (tgt := 106) hx hb dX12_canSet_101 (by decide) ?_
      exact w_X12_canSet_106 X hr hk x3 (0 : Int32) (9 : Int32) M15 _ _ ls hT h (lv_sub hl [] rfl)
def T_X12_canSet (x1 : Int32) (x2 : Int32) (x3 : Int32) (M : Mm) (K : Int32 → Mm → Prop) : Prop := ((x1 = 0 → (T_X12_isIn x3 (0 : Int32) (99 : Int32) M (fun r30 M29 => ((r30 = 0 ∨ r30 = 1) ∧ K r30 M29)))) ∧ (¬ x1 = 0 → ((x1 = (1 : Int32) → (T_X12_isIn x3 (0 : Int32) (9 : Int32) M (fun r27 M26 => ((r27 = 0 ∨ r27 = 1) ∧ K r27 M26)))) ∧ (¬ x1 = (1 : Int32) → ((x1 = (2 : Int32) → (T_X12_canSet_37 x1 x2 x3 M K)) ∧ (¬ x1 = (2 : Int32) → ((x1 = (3 : Int32) → (T_X12_canSet_37 x1 x2 x3 M K)) ∧ (¬ x1 = (3 : Int32) → ((x1 = (4 : Int32) → (T_X12_canSet_83 x1 x2 x3 M K)) ∧ (¬ x1 = (4 : Int32) → ((x1 = (5 : Int32) → (T_X12_canSet_83 x1 x2 x3 M K)) ∧ (¬ x1 = (5 : Int32) → (K (0 : Int32) M)))))))))))))
set_option maxHeartbeats 4000000 in
set_option maxRecDepth 100000 in
theorem c_X12_canSet (l : Launch) (G : fx_G) {x1 : Int32} {x2 : Int32} {x3 : Int32} {M : Mm} {K : Int32 → Mm → Prop} (hT : T_X12_canSet x1 x2 x3 M K) : Met l yX12_canSet (fx_ws yX12_canSet cX12_canSet 4 (some .boolean)) (fx_rm (1)) (va_Pc [.ref (G.2.2.2 + 159), .int x1, .int x2, .int x3] (fx_P G SH M)) (va_Qi K (fx_R G SH) (fx_A G)) 0 0 (fx_A G) := by
  refine fx_met (own := RX12) (by decide +kernel) rfl (Nat.le_of_ble_eq_true rfl) (fun p e s m below meth c X hr hk h ls hl => ?_)
  obtain ⟨⟨hx, hb, hml, hown, hts⟩, hK, hQ⟩ := id X
  have hl : lv_has ls 4 [(0, .ref (G.2.2.2 + 159)), (1, .int x1), (2, .int x2), (3, .int x3)] := hl
  unfold T_X12_canSet at hT
  refine lv_iload_n hx hb dX12_canSet_0 rfl (lv_at hl 1 rfl) ?_
  refine lv_if_ne (tgt := 13) hx hb dX12_canSet_1 (by decide) (fun hc19 => ?_) (fun hc19 => ?_)
  · have hT := hT.2 hc19
    refine lv_iload_n hx hb dX12_canSet_13 rfl (lv_at hl 1 rfl) ?_
    refine lv_iconst (v := 1) hx hb dX12_canSet_14 (by decide) ?_
    refine lv_icmp_ne (tgt := 27) hx hb dX12_canSet_15 (by decide) (fun hc20 => ?_) (fun hc20 => ?_)
    · have hT := hT.2 hc20
      refine lv_iload_n hx hb dX12_canSet_27 rfl (lv_at hl 1 rfl) ?_
      refine lv_iconst (v := 2) hx hb dX12_canSet_28 (by decide) ?_
      refine lv_icmp_eq (tgt := 37) hx hb dX12_canSet_29 (by decide) (fun hc21 => ?_) (fun hc21 => ?_)
      · have hT := hT.1 hc21
        exact w_X12_canSet_37 X hr hk x1 x2 x3 M _ _ ls hT h (lv_sub hl [0, 1, 2, 3] rfl)
      · have hT := hT.2 hc21
        refine lv_iload_n hx hb dX12_canSet_32 rfl (lv_at hl 1 rfl) ?_
        refine lv_iconst (v := 3) hx hb dX12_canSet_33 (by decide) ?_
        refine lv_icmp_ne (tgt := 73) hx hb dX12_canSet_34 (by decide) (fun hc22 => ?_) (fun hc22 => ?_)
        · have hT := hT.2 hc22
          refine lv_iload_n hx hb dX12_canSet_73 rfl (lv_at hl 1 rfl) ?_
          refine lv_iconst (v := 4) hx hb dX12_canSet_74 (by decide) ?_
          refine lv_icmp_eq (tgt := 83) hx hb dX12_canSet_75 (by decide) (fun hc23 => ?_) (fun hc23 => ?_)
          · have hT := hT.1 hc23
            exact w_X12_canSet_83 X hr hk x1 x2 x3 M _ _ ls hT h (lv_sub hl [0, 1, 2, 3] rfl)
          · have hT := hT.2 hc23
            refine lv_iload_n hx hb dX12_canSet_78 rfl (lv_at hl 1 rfl) ?_
            refine lv_iconst (v := 5) hx hb dX12_canSet_79 (by decide) ?_
            refine lv_icmp_ne (tgt := 116) hx hb dX12_canSet_80 (by decide) (fun hc24 => ?_) (fun hc24 => ?_)
            · have hT := hT.2 hc24
              refine lv_iconst (v := 0) hx hb dX12_canSet_116 (by decide) ?_
              exact fx_zret X hr hk h (Or.inl rfl) hT dX12_canSet_117
            · have hT := hT.1 hc24
              exact w_X12_canSet_83 X hr hk x1 x2 x3 M _ _ ls hT h (lv_sub hl [0, 1, 2, 3] rfl)
        · have hT := hT.1 hc22
          exact w_X12_canSet_37 X hr hk x1 x2 x3 M _ _ ls hT h (lv_sub hl [0, 1, 2, 3] rfl)
    · have hT := hT.1 hc20
      refine lv_aload_n hx hb dX12_canSet_18 rfl (lv_at hl 0 rfl) ?_
      refine lv_iload_n hx hb dX12_canSet_19 rfl (lv_at hl 3 rfl) ?_
      refine lv_iconst (v := 0) hx hb dX12_canSet_20 (by decide) ?_
      refine lv_bipush (v := 9) hx hb dX12_canSet_21 (by decide) ?_
      refine fx_vi X h ym_X12_isIn yi_X12_isIn ys_X12_isIn (fx_s7 (List.mem_of_getElem? (i := 77) rfl) rfl) sh_159 rfl (c_X12_isIn l G hT) (As := [.int x3, .int (0 : Int32), .int (9 : Int32)]) (rest := []) rfl rfl ⟨Nat.le_of_ble_eq_true rfl, Nat.le_of_ble_eq_true rfl⟩ ⟨Nat.le_refl _, Nat.le_refl _⟩ hl.1 (Nat.le_of_ble_eq_true rfl) dX12_canSet_23 (fun r27 M26 H locs hT h => ?_)
      exact fx_zret X hr hk h hT.1 hT.2 dX12_canSet_26
  · have hT := hT.1 hc19
    refine lv_aload_n hx hb dX12_canSet_4 rfl (lv_at hl 0 rfl) ?_
    refine lv_iload_n hx hb dX12_canSet_5 rfl (lv_at hl 3 rfl) ?_
    refine lv_iconst (v := 0) hx hb dX12_canSet_6 (by decide) ?_
    refine lv_bipush (v := 99) hx hb dX12_canSet_7 (by decide) ?_
    refine fx_vi X h ym_X12_isIn yi_X12_isIn ys_X12_isIn (fx_s7 (List.mem_of_getElem? (i := 77) rfl) rfl) sh_159 rfl (c_X12_isIn l G hT) (As := [.int x3, .int (0 : Int32), .int (99 : Int32)]) (rest := []) rfl rfl ⟨Nat.le_of_ble_eq_true rfl, Nat.le_of_ble_eq_true rfl⟩ ⟨Nat.le_refl _, Nat.le_refl _⟩ hl.1 (Nat.le_of_ble_eq_true rfl) dX12_canSet_9 (fun r30 M29 H locs hT h => ?_)
    exact fx_zret X hr hk h hT.1 hT.2 dX12_canSet_12
/-! MockParcelsModel.set(III)Z -/
theorem dX12_set_0 : decode cX12_set 0 = .ok (.aload_n 0, 1) := by decide +kernel
theorem dX12_set_1 : decode cX12_set 1 = .ok (.iconst 0, 1) := by decide +kernel
theorem dX12_set_2 : decode cX12_set 2 = .ok (.putfield 134, 3) := by decide +kernel
theorem dX12_set_5 : decode cX12_set 5 = .ok (.aload_n 0, 1) := by decide +kernel
theorem dX12_set_6 : decode cX12_set 6 = .ok (.iload_n 1, 1) := by decide +kernel
theorem dX12_set_7 : decode cX12_set 7 = .ok (.iload_n 2, 1) := by decide +kernel
theorem dX12_set_8 : decode cX12_set 8 = .ok (.iload_n 3, 1) := by decide +kernel
theorem dX12_set_9 : decode cX12_set 9 = .ok (.invokevirtual 168, 3) := by decide +kernel
theorem dX12_set_12 : decode cX12_set 12 = .ok (.ifCond .ne 5, 3) := by decide +kernel
theorem dX12_set_15 : decode cX12_set 15 = .ok (.iconst 0, 1) := by decide +kernel
theorem dX12_set_16 : decode cX12_set 16 = .ok (.ireturn, 1) := by decide +kernel
theorem dX12_set_17 : decode cX12_set 17 = .ok (.iload_n 1, 1) := by decide +kernel
theorem dX12_set_18 : decode cX12_set 18 = .ok (.ifCond .ne 10, 3) := by decide +kernel
theorem dX12_set_21 : decode cX12_set 21 = .ok (.aload_n 0, 1) := by decide +kernel
theorem dX12_set_22 : decode cX12_set 22 = .ok (.getfield 7, 3) := by decide +kernel
theorem dX12_set_25 : decode cX12_set 25 = .ok (.iconst 4, 1) := by decide +kernel
theorem dX12_set_26 : decode cX12_set 26 = .ok (.iload_n 3, 1) := by decide +kernel
theorem dX12_set_27 : decode cX12_set 27 = .ok (.iastore, 1) := by decide +kernel
theorem dX12_set_28 : decode cX12_set 28 = .ok (.iload_n 1, 1) := by decide +kernel
theorem dX12_set_29 : decode cX12_set 29 = .ok (.iconst 1, 1) := by decide +kernel
theorem dX12_set_30 : decode cX12_set 30 = .ok (.if_icmp .ne 10, 3) := by decide +kernel
theorem dX12_set_33 : decode cX12_set 33 = .ok (.aload_n 0, 1) := by decide +kernel
theorem dX12_set_34 : decode cX12_set 34 = .ok (.getfield 7, 3) := by decide +kernel
theorem dX12_set_37 : decode cX12_set 37 = .ok (.iconst 5, 1) := by decide +kernel
theorem dX12_set_38 : decode cX12_set 38 = .ok (.iload_n 3, 1) := by decide +kernel
theorem dX12_set_39 : decode cX12_set 39 = .ok (.iastore, 1) := by decide +kernel
theorem dX12_set_40 : decode cX12_set 40 = .ok (.iload_n 1, 1) := by decide +kernel
theorem dX12_set_41 : decode cX12_set 41 = .ok (.iconst 2, 1) := by decide +kernel
theorem dX12_set_42 : decode cX12_set 42 = .ok (.if_icmp .ne 13, 3) := by decide +kernel
theorem dX12_set_45 : decode cX12_set 45 = .ok (.aload_n 0, 1) := by decide +kernel
theorem dX12_set_46 : decode cX12_set 46 = .ok (.getfield 7, 3) := by decide +kernel
theorem dX12_set_49 : decode cX12_set 49 = .ok (.bipush 55, 2) := by decide +kernel
theorem dX12_set_51 : decode cX12_set 51 = .ok (.iload_n 2, 1) := by decide +kernel
theorem dX12_set_52 : decode cX12_set 52 = .ok (.iadd, 1) := by decide +kernel
theorem dX12_set_53 : decode cX12_set 53 = .ok (.iload_n 3, 1) := by decide +kernel
theorem dX12_set_54 : decode cX12_set 54 = .ok (.iastore, 1) := by decide +kernel
theorem dX12_set_55 : decode cX12_set 55 = .ok (.iload_n 1, 1) := by decide +kernel
theorem dX12_set_56 : decode cX12_set 56 = .ok (.iconst 3, 1) := by decide +kernel
theorem dX12_set_57 : decode cX12_set 57 = .ok (.if_icmp .ne 10, 3) := by decide +kernel
theorem dX12_set_60 : decode cX12_set 60 = .ok (.aload_n 0, 1) := by decide +kernel
theorem dX12_set_61 : decode cX12_set 61 = .ok (.getfield 28, 3) := by decide +kernel
theorem dX12_set_64 : decode cX12_set 64 = .ok (.iload_n 2, 1) := by decide +kernel
theorem dX12_set_65 : decode cX12_set 65 = .ok (.iload_n 3, 1) := by decide +kernel
theorem dX12_set_66 : decode cX12_set 66 = .ok (.iastore, 1) := by decide +kernel
theorem dX12_set_67 : decode cX12_set 67 = .ok (.iload_n 1, 1) := by decide +kernel
theorem dX12_set_68 : decode cX12_set 68 = .ok (.iconst 4, 1) := by decide +kernel
theorem dX12_set_69 : decode cX12_set 69 = .ok (.if_icmp .ne 10, 3) := by decide +kernel
theorem dX12_set_72 : decode cX12_set 72 = .ok (.aload_n 0, 1) := by decide +kernel
theorem dX12_set_73 : decode cX12_set 73 = .ok (.getfield 25, 3) := by decide +kernel
theorem dX12_set_76 : decode cX12_set 76 = .ok (.iload_n 2, 1) := by decide +kernel
theorem dX12_set_77 : decode cX12_set 77 = .ok (.iload_n 3, 1) := by decide +kernel
theorem dX12_set_78 : decode cX12_set 78 = .ok (.iastore, 1) := by decide +kernel
theorem dX12_set_79 : decode cX12_set 79 = .ok (.iload_n 1, 1) := by decide +kernel
theorem dX12_set_80 : decode cX12_set 80 = .ok (.iconst 5, 1) := by decide +kernel
theorem dX12_set_81 : decode cX12_set 81 = .ok (.if_icmp .ne 13, 3) := by decide +kernel
theorem dX12_set_84 : decode cX12_set 84 = .ok (.aload_n 0, 1) := by decide +kernel
theorem dX12_set_85 : decode cX12_set 85 = .ok (.getfield 7, 3) := by decide +kernel
theorem dX12_set_88 : decode cX12_set 88 = .ok (.bipush 39, 2) := by decide +kernel
theorem dX12_set_90 : decode cX12_set 90 = .ok (.iload_n 2, 1) := by decide +kernel
theorem dX12_set_91 : decode cX12_set 91 = .ok (.iadd, 1) := by decide +kernel
theorem dX12_set_92 : decode cX12_set 92 = .ok (.iload_n 3, 1) := by decide +kernel
theorem dX12_set_93 : decode cX12_set 93 = .ok (.iastore, 1) := by decide +kernel
theorem dX12_set_94 : decode cX12_set 94 = .ok (.aload_n 0, 1) := by decide +kernel
theorem dX12_set_95 : decode cX12_set 95 = .ok (.iconst 0, 1) := by decide +kernel
theorem dX12_set_96 : decode cX12_set 96 = .ok (.putfield 138, 3) := by decide +kernel
theorem dX12_set_99 : decode cX12_set 99 = .ok (.iconst 1, 1) := by decide +kernel
theorem dX12_set_100 : decode cX12_set 100 = .ok (.ireturn, 1) := by decide +kernel
def T_X12_set_94 (M : Mm) (K : Int32 → Mm → Prop) : Prop := (∀ M1 : Mm, M1 = m_up M 159 3 (0 : Int32) → (K (1 : Int32) M1))
set_option maxHeartbeats 4000000 in
set_option maxRecDepth 100000 in
theorem w_X12_set_94 {p : Program} {l : Launch} {e : Env} {s : State} {m : MethodId} {args : Array Value} {below : List Frame} {meth : Method} {c : Code} {G : fx_G} {K : Int32 → Mm → Prop} (X : fx_C G p s m c args cX12_set 4 RX12) (hr : meth.sig.returnType = (some .boolean)) (hk : meth.locks = false) : ∀ (M : Mm) (H : Heap) (locs : List Loc) (ls : Array Slot), T_X12_set_94  M K → fx_H G SH M s H locs → lv_has ls 4 [(0, .ref (G.2.2.2 + 159))] → W p l e (fx_rm (2)) s m args below meth c H locs 0 0 (MQ below (va_Qi K (fx_R G SH) (fx_A G)) args s 0 0 (fx_A G)) (F0 m 94 ls []) := by
  obtain ⟨⟨hx, hb, hml, hown, hts⟩, hK, hQ⟩ := id X
  intro  M H locs ls hT h hl
  unfold T_X12_set_94 at hT
  refine lv_aload_n hx hb dX12_set_94 rfl (lv_at hl 0 rfl) ?_
  refine lv_iconst (v := 0) hx hb dX12_set_95 (by decide) ?_
  refine fx_putI X h (k := 159) (j := 3) sh_159 rfl fl_RX12_138 dX12_set_96 (fun H locs h => ?_)
  obtain ⟨M1, eM1⟩ : ∃ z : Mm, z = m_up M 159 3 (0 : Int32) := ⟨_, rfl⟩
  have hT := hT M1 eM1
  rw [← eM1] at h
  refine lv_iconst (v := 1) hx hb dX12_set_99 (by decide) ?_
  exact fx_zret X hr hk h (Or.inr rfl) hT dX12_set_100
def T_X12_set_79 (x1 : Int32) (x2 : Int32) (x3 : Int32) (M : Mm) (K : Int32 → Mm → Prop) : Prop := ((x1 = (5 : Int32) → (vp_in ((39 : Int32) + x2) 135 ∧ (∀ M3 : Mm, M3 = m_up M 160 (((39 : Int32) + x2)).toNatClampNeg x3 → (T_X12_set_94 M3 K)))) ∧ (¬ x1 = (5 : Int32) → (T_X12_set_94 M K)))
set_option maxHeartbeats 4000000 in
set_option maxRecDepth 100000 in
theorem w_X12_set_79 {p : Program} {l : Launch} {e : Env} {s : State} {m : MethodId} {args : Array Value} {below : List Frame} {meth : Method} {c : Code} {G : fx_G} {K : Int32 → Mm → Prop} (X : fx_C G p s m c args cX12_set 4 RX12) (hr : meth.sig.returnType = (some .boolean)) (hk : meth.locks = false) : ∀ (x1 : Int32) (x2 : Int32) (x3 : Int32) (M : Mm) (H : Heap) (locs : List Loc) (ls : Array Slot), T_X12_set_79 x1 x2 x3 M K → fx_H G SH M s H locs → lv_has ls 4 [(0, .ref (G.2.2.2 + 159)), (1, .int x1), (2, .int x2), (3, .int x3)] → W p l e (fx_rm (2)) s m args below meth c H locs 0 0 (MQ below (va_Qi K (fx_R G SH) (fx_A G)) args s 0 0 (fx_A G)) (F0 m 79 ls []) := by
  obtain ⟨⟨hx, hb, hml, hown, hts⟩, hK, hQ⟩ := id X
  intro x1 x2 x3 M H locs ls hT h hl
  unfold T_X12_set_79 at hT
  refine lv_iload_n hx hb dX12_set_79 rfl (lv_at hl 1 rfl) ?_
  refine lv_iconst (v := 5) hx hb dX12_set_80 (by decide) ?_
  refine lv_icmp_ne (tgt := 94) hx hb dX12_set_81 (by decide) (fun hc2 => ?_) (fun hc2 => ?_)
  · have hT := hT.2 hc2
    exact w_X12_set_94 X hr hk M _ _ ls hT h (lv_sub hl [0] rfl)
  · have hT := hT.1 hc2
    refine lv_aload_n hx hb dX12_set_84 rfl (lv_at hl 0 rfl) ?_
    refine fx_getR X h (k := 159) (j := 1) (r := 160) sh_159 rfl fl_RX12_7 dX12_set_85 ?_
    refine lv_bipush (v := 39) hx hb dX12_set_88 (by decide) ?_
    refine lv_iload_n hx hb dX12_set_90 rfl (lv_at hl 2 rfl) ?_
    refine lv_iadd hx hb dX12_set_91 ?_
    refine lv_iload_n hx hb dX12_set_92 rfl (lv_at hl 3 rfl) ?_
    obtain ⟨hi4, hT⟩ := hT
    refine fx_iast X h (k := 160) sh_160 hi4 dX12_set_93 (fun H locs h => ?_)
    obtain ⟨M3, eM3⟩ : ∃ z : Mm, z = m_up M 160 (((39 : Int32) + x2)).toNatClampNeg x3 := ⟨_, rfl⟩
    have hT := hT M3 eM3
    rw [← eM3] at h
    exact w_X12_set_94 X hr hk M3 _ _ ls hT h (lv_sub hl [0] rfl)
def T_X12_set_67 (x1 : Int32) (x2 : Int32) (x3 : Int32) (M : Mm) (K : Int32 → Mm → Prop) : Prop := ((x1 = (4 : Int32) → (vp_in x2 16 ∧ (∀ M6 : Mm, M6 = m_up M 165 (x2).toNatClampNeg x3 → (T_X12_set_79 x1 x2 x3 M6 K)))) ∧ (¬ x1 = (4 : Int32) → (T_X12_set_79 x1 x2 x3 M K)))
set_option maxHeartbeats 4000000 in
set_option maxRecDepth 100000 in
theorem w_X12_set_67 {p : Program} {l : Launch} {e : Env} {s : State} {m : MethodId} {args : Array Value} {below : List Frame} {meth : Method} {c : Code} {G : fx_G} {K : Int32 → Mm → Prop} (X : fx_C G p s m c args cX12_set 4 RX12) (hr : meth.sig.returnType = (some .boolean)) (hk : meth.locks = false) : ∀ (x1 : Int32) (x2 : Int32) (x3 : Int32) (M : Mm) (H : Heap) (locs : List Loc) (ls : Array Slot), T_X12_set_67 x1 x2 x3 M K → fx_H G SH M s H locs → lv_has ls 4 [(0, .ref (G.2.2.2 + 159)), (1, .int x1), (2, .int x2), (3, .int x3)] → W p l e (fx_rm (2)) s m args below meth c H locs 0 0 (MQ below (va_Qi K (fx_R G SH) (fx_A G)) args s 0 0 (fx_A G)) (F0 m 67 ls []) := by
  obtain ⟨⟨hx, hb, hml, hown, hts⟩, hK, hQ⟩ := id X
  intro x1 x2 x3 M H locs ls hT h hl
  unfold T_X12_set_67 at hT
  refine lv_iload_n hx hb dX12_set_67 rfl (lv_at hl 1 rfl) ?_
  refine lv_iconst (v := 4) hx hb dX12_set_68 (by decide) ?_
  refine lv_icmp_ne (tgt := 79) hx hb dX12_set_69 (by decide) (fun hc5 => ?_) (fun hc5 => ?_)
  · have hT := hT.2 hc5
    exact w_X12_set_79 X hr hk x1 x2 x3 M _ _ ls hT h (lv_sub hl [0, 1, 2, 3] rfl)
  · have hT := hT.1 hc5
    refine lv_aload_n hx hb dX12_set_72 rfl (lv_at hl 0 rfl) ?_
    refine fx_getR X h (k := 159) (j := 10) (r := 165) sh_159 rfl fl_RX12_25 dX12_set_73 ?_
    refine lv_iload_n hx hb dX12_set_76 rfl (lv_at hl 2 rfl) ?_
    refine lv_iload_n hx hb dX12_set_77 rfl (lv_at hl 3 rfl) ?_
    obtain ⟨hi7, hT⟩ := hT
    refine fx_iast X h (k := 165) sh_165 hi7 dX12_set_78 (fun H locs h => ?_)
    obtain ⟨M6, eM6⟩ : ∃ z : Mm, z = m_up M 165 (x2).toNatClampNeg x3 := ⟨_, rfl⟩
    have hT := hT M6 eM6
    rw [← eM6] at h
    exact w_X12_set_79 X hr hk x1 x2 x3 M6 _ _ ls hT h (lv_sub hl [0, 1, 2, 3] rfl)
def T_X12_set_55 (x1 : Int32) (x2 : Int32) (x3 : Int32) (M : Mm) (K : Int32 → Mm → Prop) : Prop := ((x1 = (3 : Int32) → (vp_in x2 8 ∧ (∀ M9 : Mm, M9 = m_up M 166 (x2).toNatClampNeg x3 → (T_X12_set_67 x1 x2 x3 M9 K)))) ∧ (¬ x1 = (3 : Int32) → (T_X12_set_67 x1 x2 x3 M K)))
set_option maxHeartbeats 4000000 in
set_option maxRecDepth 100000 in
theorem w_X12_set_55 {p : Program} {l : Launch} {e : Env} {s : State} {m : MethodId} {args : Array Value} {below : List Frame} {meth : Method} {c : Code} {G : fx_G} {K : Int32 → Mm → Prop} (X : fx_C G p s m c args cX12_set 4 RX12) (hr : meth.sig.returnType = (some .boolean)) (hk : meth.locks = false) : ∀ (x1 : Int32) (x2 : Int32) (x3 : Int32) (M : Mm) (H : Heap) (locs : List Loc) (ls : Array Slot), T_X12_set_55 x1 x2 x3 M K → fx_H G SH M s H locs → lv_has ls 4 [(0, .ref (G.2.2.2 + 159)), (1, .int x1), (2, .int x2), (3, .int x3)] → W p l e (fx_rm (2)) s m args below meth c H locs 0 0 (MQ below (va_Qi K (fx_R G SH) (fx_A G)) args s 0 0 (fx_A G)) (F0 m 55 ls []) := by
  obtain ⟨⟨hx, hb, hml, hown, hts⟩, hK, hQ⟩ := id X
  intro x1 x2 x3 M H locs ls hT h hl
  unfold T_X12_set_55 at hT
  refine lv_iload_n hx hb dX12_set_55 rfl (lv_at hl 1 rfl) ?_
  refine lv_iconst (v := 3) hx hb dX12_set_56 (by decide) ?_
  refine lv_icmp_ne (tgt := 67) hx hb dX12_set_57 (by decide) (fun hc8 => ?_) (fun hc8 => ?_)
  · have hT := hT.2 hc8
    exact w_X12_set_67 X hr hk x1 x2 x3 M _ _ ls hT h (lv_sub hl [0, 1, 2, 3] rfl)
  · have hT := hT.1 hc8
    refine lv_aload_n hx hb dX12_set_60 rfl (lv_at hl 0 rfl) ?_
    refine fx_getR X h (k := 159) (j := 11) (r := 166) sh_159 rfl fl_RX12_28 dX12_set_61 ?_
    refine lv_iload_n hx hb dX12_set_64 rfl (lv_at hl 2 rfl) ?_
    refine lv_iload_n hx hb dX12_set_65 rfl (lv_at hl 3 rfl) ?_
    obtain ⟨hi10, hT⟩ := hT
    refine fx_iast X h (k := 166) sh_166 hi10 dX12_set_66 (fun H locs h => ?_)
    obtain ⟨M9, eM9⟩ : ∃ z : Mm, z = m_up M 166 (x2).toNatClampNeg x3 := ⟨_, rfl⟩
    have hT := hT M9 eM9
    rw [← eM9] at h
    exact w_X12_set_67 X hr hk x1 x2 x3 M9 _ _ ls hT h (lv_sub hl [0, 1, 2, 3] rfl)
def T_X12_set_40 (x1 : Int32) (x2 : Int32) (x3 : Int32) (M : Mm) (K : Int32 → Mm → Prop) : Prop := ((x1 = (2 : Int32) → (vp_in ((55 : Int32) + x2) 135 ∧ (∀ M12 : Mm, M12 = m_up M 160 (((55 : Int32) + x2)).toNatClampNeg x3 → (T_X12_set_55 x1 x2 x3 M12 K)))) ∧ (¬ x1 = (2 : Int32) → (T_X12_set_55 x1 x2 x3 M K)))
set_option maxHeartbeats 4000000 in
set_option maxRecDepth 100000 in
theorem w_X12_set_40 {p : Program} {l : Launch} {e : Env} {s : State} {m : MethodId} {args : Array Value} {below : List Frame} {meth : Method} {c : Code} {G : fx_G} {K : Int32 → Mm → Prop} (X : fx_C G p s m c args cX12_set 4 RX12) (hr : meth.sig.returnType = (some .boolean)) (hk : meth.locks = false) : ∀ (x1 : Int32) (x2 : Int32) (x3 : Int32) (M : Mm) (H : Heap) (locs : List Loc) (ls : Array Slot), T_X12_set_40 x1 x2 x3 M K → fx_H G SH M s H locs → lv_has ls 4 [(0, .ref (G.2.2.2 + 159)), (1, .int x1), (2, .int x2), (3, .int x3)] → W p l e (fx_rm (2)) s m args below meth c H locs 0 0 (MQ below (va_Qi K (fx_R G SH) (fx_A G)) args s 0 0 (fx_A G)) (F0 m 40 ls []) := by
  obtain ⟨⟨hx, hb, hml, hown, hts⟩, hK, hQ⟩ := id X
  intro x1 x2 x3 M H locs ls hT h hl
  unfold T_X12_set_40 at hT
  refine lv_iload_n hx hb dX12_set_40 rfl (lv_at hl 1 rfl) ?_
  refine lv_iconst (v := 2) hx hb dX12_set_41 (by decide) ?_
  refine lv_icmp_ne (tgt := 55) hx hb dX12_set_42 (by decide) (fun hc11 => ?_) (fun hc11 => ?_)
  · have hT := hT.2 hc11
    exact w_X12_set_55 X hr hk x1 x2 x3 M _ _ ls hT h (lv_sub hl [0, 1, 2, 3] rfl)
  · have hT := hT.1 hc11
    refine lv_aload_n hx hb dX12_set_45 rfl (lv_at hl 0 rfl) ?_
    refine fx_getR X h (k := 159) (j := 1) (r := 160) sh_159 rfl fl_RX12_7 dX12_set_46 ?_
    refine lv_bipush (v := 55) hx hb dX12_set_49 (by decide) ?_
    refine lv_iload_n hx hb dX12_set_51 rfl (lv_at hl 2 rfl) ?_
    refine lv_iadd hx hb dX12_set_52 ?_
    refine lv_iload_n hx hb dX12_set_53 rfl (lv_at hl 3 rfl) ?_
    obtain ⟨hi13, hT⟩ := hT
    refine fx_iast X h (k := 160) sh_160 hi13 dX12_set_54 (fun H locs h => ?_)
    obtain ⟨M12, eM12⟩ : ∃ z : Mm, z = m_up M 160 (((55 : Int32) + x2)).toNatClampNeg x3 := ⟨_, rfl⟩
    have hT := hT M12 eM12
    rw [← eM12] at h
    exact w_X12_set_55 X hr hk x1 x2 x3 M12 _ _ ls hT h (lv_sub hl [0, 1, 2, 3] rfl)
def T_X12_set_28 (x1 : Int32) (x2 : Int32) (x3 : Int32) (M : Mm) (K : Int32 → Mm → Prop) : Prop := ((x1 = (1 : Int32) → (∀ M15 : Mm, M15 = m_up M 160 5 x3 → (T_X12_set_40 x1 x2 x3 M15 K))) ∧ (¬ x1 = (1 : Int32) → (T_X12_set_40 x1 x2 x3 M K)))
set_option maxHeartbeats 4000000 in
set_option maxRecDepth 100000 in
theorem w_X12_set_28 {p : Program} {l : Launch} {e : Env} {s : State} {m : MethodId} {args : Array Value} {below : List Frame} {meth : Method} {c : Code} {G : fx_G} {K : Int32 → Mm → Prop} (X : fx_C G p s m c args cX12_set 4 RX12) (hr : meth.sig.returnType = (some .boolean)) (hk : meth.locks = false) : ∀ (x1 : Int32) (x2 : Int32) (x3 : Int32) (M : Mm) (H : Heap) (locs : List Loc) (ls : Array Slot), T_X12_set_28 x1 x2 x3 M K → fx_H G SH M s H locs → lv_has ls 4 [(0, .ref (G.2.2.2 + 159)), (1, .int x1), (2, .int x2), (3, .int x3)] → W p l e (fx_rm (2)) s m args below meth c H locs 0 0 (MQ below (va_Qi K (fx_R G SH) (fx_A G)) args s 0 0 (fx_A G)) (F0 m 28 ls []) := by
  obtain ⟨⟨hx, hb, hml, hown, hts⟩, hK, hQ⟩ := id X
  intro x1 x2 x3 M H locs ls hT h hl
  unfold T_X12_set_28 at hT
  refine lv_iload_n hx hb dX12_set_28 rfl (lv_at hl 1 rfl) ?_
  refine lv_iconst (v := 1) hx hb dX12_set_29 (by decide) ?_
  refine lv_icmp_ne (tgt := 40) hx hb dX12_set_30 (by decide) (fun hc14 => ?_) (fun hc14 => ?_)
  · have hT := hT.2 hc14
    exact w_X12_set_40 X hr hk x1 x2 x3 M _ _ ls hT h (lv_sub hl [0, 1, 2, 3] rfl)
  · have hT := hT.1 hc14
    refine lv_aload_n hx hb dX12_set_33 rfl (lv_at hl 0 rfl) ?_
    refine fx_getR X h (k := 159) (j := 1) (r := 160) sh_159 rfl fl_RX12_7 dX12_set_34 ?_
    refine lv_iconst (v := 5) hx hb dX12_set_37 (by decide) ?_
    refine lv_iload_n hx hb dX12_set_38 rfl (lv_at hl 3 rfl) ?_
    refine fx_iast X h (k := 160) sh_160 (by unfold vp_in; decide) dX12_set_39 (fun H locs h => ?_)
    rw [show ((5 : Int32)).toNatClampNeg = 5 by decide] at h
    obtain ⟨M15, eM15⟩ : ∃ z : Mm, z = m_up M 160 5 x3 := ⟨_, rfl⟩
    have hT := hT M15 eM15
    rw [← eM15] at h
    exact w_X12_set_40 X hr hk x1 x2 x3 M15 _ _ ls hT h (lv_sub hl [0, 1, 2, 3] rfl)
def T_X12_set (x1 : Int32) (x2 : Int32) (x3 : Int32) (M : Mm) (K : Int32 → Mm → Prop) : Prop := (∀ M16 : Mm, M16 = m_up M 159 0 (0 : Int32) → (T_X12_canSet x1 x2 x3 M16 (fun r19 M18 => ((r19 = 0 → (K (0 : Int32) M18)) ∧ (¬ r19 = 0 → ((x1 = 0 → (∀ M22 : Mm, M22 = m_up M18 160 4 x3 → (T_X12_set_28 x1 x2 x3 M22 K))) ∧ (¬ x1 = 0 → (T_X12_set_28 x1 x2 x3 M18 K))))))))
set_option maxHeartbeats 4000000 in
set_option maxRecDepth 100000 in
theorem c_X12_set (l : Launch) (G : fx_G) {x1 : Int32} {x2 : Int32} {x3 : Int32} {M : Mm} {K : Int32 → Mm → Prop} (hT : T_X12_set x1 x2 x3 M K) : Met l yX12_set (fx_ws yX12_set cX12_set 4 (some .boolean)) (fx_rm (2)) (va_Pc [.ref (G.2.2.2 + 159), .int x1, .int x2, .int x3] (fx_P G SH M)) (va_Qi K (fx_R G SH) (fx_A G)) 0 0 (fx_A G) := by
  refine fx_met (own := RX12) (by decide +kernel) rfl (Nat.le_of_ble_eq_true rfl) (fun p e s m below meth c X hr hk h ls hl => ?_)
  obtain ⟨⟨hx, hb, hml, hown, hts⟩, hK, hQ⟩ := id X
  have hl : lv_has ls 4 [(0, .ref (G.2.2.2 + 159)), (1, .int x1), (2, .int x2), (3, .int x3)] := hl
  unfold T_X12_set at hT
  refine lv_aload_n hx hb dX12_set_0 rfl (lv_at hl 0 rfl) ?_
  refine lv_iconst (v := 0) hx hb dX12_set_1 (by decide) ?_
  refine fx_putI X h (k := 159) (j := 0) sh_159 rfl fl_RX12_134 dX12_set_2 (fun H locs h => ?_)
  obtain ⟨M16, eM16⟩ : ∃ z : Mm, z = m_up M 159 0 (0 : Int32) := ⟨_, rfl⟩
  have hT := hT M16 eM16
  rw [← eM16] at h
  refine lv_aload_n hx hb dX12_set_5 rfl (lv_at hl 0 rfl) ?_
  refine lv_iload_n hx hb dX12_set_6 rfl (lv_at hl 1 rfl) ?_
  refine lv_iload_n hx hb dX12_set_7 rfl (lv_at hl 2 rfl) ?_
  refine lv_iload_n hx hb dX12_set_8 rfl (lv_at hl 3 rfl) ?_
  refine fx_vi X h ym_X12_canSet yi_X12_canSet ys_X12_canSet (fx_s7 (List.mem_of_getElem? (i := 89) rfl) rfl) sh_159 rfl (c_X12_canSet l G hT) (As := [.int x1, .int x2, .int x3]) (rest := []) rfl rfl ⟨Nat.le_of_ble_eq_true rfl, Nat.le_of_ble_eq_true rfl⟩ ⟨Nat.le_refl _, Nat.le_refl _⟩ hl.1 (Nat.le_of_ble_eq_true rfl) dX12_set_9 (fun r19 M18 H locs hT h => ?_)
  refine lv_if_ne (tgt := 17) hx hb dX12_set_12 (by decide) (fun hc20 => ?_) (fun hc20 => ?_)
  · have hT := hT.2 hc20
    refine lv_iload_n hx hb dX12_set_17 rfl (lv_at hl 1 rfl) ?_
    refine lv_if_ne (tgt := 28) hx hb dX12_set_18 (by decide) (fun hc21 => ?_) (fun hc21 => ?_)
    · have hT := hT.2 hc21
      exact w_X12_set_28 X hr hk x1 x2 x3 M18 _ _ ls hT h (lv_sub hl [0, 1, 2, 3] rfl)
    · have hT := hT.1 hc21
      refine lv_aload_n hx hb dX12_set_21 rfl (lv_at hl 0 rfl) ?_
      refine fx_getR X h (k := 159) (j := 1) (r := 160) sh_159 rfl fl_RX12_7 dX12_set_22 ?_
      refine lv_iconst (v := 4) hx hb dX12_set_25 (by decide) ?_
      refine lv_iload_n hx hb dX12_set_26 rfl (lv_at hl 3 rfl) ?_
      refine fx_iast X h (k := 160) sh_160 (by unfold vp_in; decide) dX12_set_27 (fun H locs h => ?_)
      rw [show ((4 : Int32)).toNatClampNeg = 4 by decide] at h
      obtain ⟨M22, eM22⟩ : ∃ z : Mm, z = m_up M18 160 4 x3 := ⟨_, rfl⟩
      have hT := hT M22 eM22
      rw [← eM22] at h
      exact w_X12_set_28 X hr hk x1 x2 x3 M22 _ _ ls hT h (lv_sub hl [0, 1, 2, 3] rfl)
  · have hT := hT.1 hc20
    refine lv_iconst (v := 0) hx hb dX12_set_15 (by decide) ?_
    exact fx_zret X hr hk h (Or.inl rfl) hT dX12_set_16
/-! MockParcelsModel.types(I)V -/
theorem dX12_types_0 : decode cX12_types 0 = .ok (.bipush 24, 2) := by decide +kernel
theorem dX12_types_2 : decode cX12_types 2 = .ok (.istore_n 2, 1) := by decide +kernel
theorem dX12_types_3 : decode cX12_types 3 = .ok (.iload_n 2, 1) := by decide +kernel
theorem dX12_types_4 : decode cX12_types 4 = .ok (.ifCond .lt 35, 3) := by decide +kernel
theorem dX12_types_7 : decode cX12_types 7 = .ok (.aload_n 0, 1) := by decide +kernel
theorem dX12_types_8 : decode cX12_types 8 = .ok (.getfield 37, 3) := by decide +kernel
theorem dX12_types_11 : decode cX12_types 11 = .ok (.aload_n 0, 1) := by decide +kernel
theorem dX12_types_12 : decode cX12_types 12 = .ok (.getfield 171, 3) := by decide +kernel
theorem dX12_types_15 : decode cX12_types 15 = .ok (.iload_n 1, 1) := by decide +kernel
theorem dX12_types_16 : decode cX12_types 16 = .ok (.iload_n 2, 1) := by decide +kernel
theorem dX12_types_17 : decode cX12_types 17 = .ok (.ishr, 1) := by decide +kernel
theorem dX12_types_18 : decode cX12_types 18 = .ok (.sipush 255, 3) := by decide +kernel
theorem dX12_types_21 : decode cX12_types 21 = .ok (.iand, 1) := by decide +kernel
theorem dX12_types_22 : decode cX12_types 22 = .ok (.iastore, 1) := by decide +kernel
theorem dX12_types_23 : decode cX12_types 23 = .ok (.aload_n 0, 1) := by decide +kernel
theorem dX12_types_24 : decode cX12_types 24 = .ok (.aload_n 0, 1) := by decide +kernel
theorem dX12_types_25 : decode cX12_types 25 = .ok (.getfield 171, 3) := by decide +kernel
theorem dX12_types_28 : decode cX12_types 28 = .ok (.iconst 1, 1) := by decide +kernel
theorem dX12_types_29 : decode cX12_types 29 = .ok (.iadd, 1) := by decide +kernel
theorem dX12_types_30 : decode cX12_types 30 = .ok (.putfield 171, 3) := by decide +kernel
theorem dX12_types_33 : decode cX12_types 33 = .ok (.iinc 2 (-8), 3) := by decide +kernel
theorem dX12_types_36 : decode cX12_types 36 = .ok (.goto (-33), 3) := by decide +kernel
theorem dX12_types_39 : decode cX12_types 39 = .ok (.return_, 1) := by decide +kernel
def T_X12_types_3 : Nat → Int32 → Int32 → Mm → (Mm → Prop) → Prop
  | 0, _, _, _, _ => False
  | n + 1, x1, x2, M, K => ((x2 < 0 → (K M)) ∧ (¬ x2 < 0 → (vp_in (M 159 15) 400 ∧ (∀ M2 : Mm, M2 = m_up M 169 ((M 159 15)).toNatClampNeg ((x1 >>> (x2 &&& 31)) &&& (255 : Int32)) → (∀ M4 : Mm, M4 = m_up M2 159 15 ((M2 159 15) + (1 : Int32)) → (∀ y5 : Int32, y5 = x2 + (-8 : Int32) → (T_X12_types_3 n x1 y5 M4 K)))))))
set_option maxHeartbeats 4000000 in
set_option maxRecDepth 100000 in
theorem w_X12_types_3 {p : Program} {l : Launch} {e : Env} {s : State} {m : MethodId} {args : Array Value} {below : List Frame} {meth : Method} {c : Code} {G : fx_G} {K : Mm → Prop} (X : fx_C G p s m c args cX12_types 3 RX12) (hr : meth.sig.returnType = none) (hk : meth.locks = false) : ∀ (n : Nat) (x1 : Int32) (x2 : Int32) (M : Mm) (H : Heap) (locs : List Loc) (ls : Array Slot), T_X12_types_3 n x1 x2 M K → fx_H G SH M s H locs → lv_has ls 3 [(0, .ref (G.2.2.2 + 159)), (1, .int x1), (2, .int x2)] → W p l e (fx_rm (0)) s m args below meth c H locs 0 0 (MQ below (va_Qv K (fx_R G SH) (fx_A G)) args s 0 0 (fx_A G)) (F0 m 3 ls []) := by
  obtain ⟨⟨hx, hb, hml, hown, hts⟩, hK, hQ⟩ := id X
  intro n
  induction n with
  | zero =>
    intro x1 x2 M H locs ls hT
    exact hT.elim
  | succ n ih =>
    intro x1 x2 M H locs ls hT h hl
    rw [T_X12_types_3] at hT
    refine lv_iload_n hx hb dX12_types_3 rfl (lv_at hl 2 rfl) ?_
    refine lv_if_lt (tgt := 39) hx hb dX12_types_4 (by decide) (fun hc1 => ?_) (fun hc1 => ?_)
    · have hT := hT.1 hc1
      exact fx_vret X hr hk h hT dX12_types_39
    · have hT := hT.2 hc1
      refine lv_aload_n hx hb dX12_types_7 rfl (lv_at hl 0 rfl) ?_
      refine fx_getR X h (k := 159) (j := 14) (r := 169) sh_159 rfl fl_RX12_37 dX12_types_8 ?_
      refine lv_aload_n hx hb dX12_types_11 rfl (lv_at hl 0 rfl) ?_
      refine fx_getI X h (k := 159) (j := 15) sh_159 rfl fl_RX12_171 dX12_types_12 ?_
      refine lv_iload_n hx hb dX12_types_15 rfl (lv_at hl 1 rfl) ?_
      refine lv_iload_n hx hb dX12_types_16 rfl (lv_at hl 2 rfl) ?_
      refine lv_ishr hx hb dX12_types_17 ?_
      refine lv_sipush (v := 255) hx hb dX12_types_18 (by decide) ?_
      refine lv_iand hx hb dX12_types_21 ?_
      obtain ⟨hi3, hT⟩ := hT
      refine fx_iast X h (k := 169) sh_169 hi3 dX12_types_22 (fun H locs h => ?_)
      obtain ⟨M2, eM2⟩ : ∃ z : Mm, z = m_up M 169 ((M 159 15)).toNatClampNeg ((x1 >>> (x2 &&& 31)) &&& (255 : Int32)) := ⟨_, rfl⟩
      have hT := hT M2 eM2
      rw [← eM2] at h
      refine lv_aload_n hx hb dX12_types_23 rfl (lv_at hl 0 rfl) ?_
      refine lv_aload_n hx hb dX12_types_24 rfl (lv_at hl 0 rfl) ?_
      refine fx_getI X h (k := 159) (j := 15) sh_159 rfl fl_RX12_171 dX12_types_25 ?_
      refine lv_iconst (v := 1) hx hb dX12_types_28 (by decide) ?_
      refine lv_iadd hx hb dX12_types_29 ?_
      refine fx_putI X h (k := 159) (j := 15) sh_159 rfl fl_RX12_171 dX12_types_30 (fun H locs h => ?_)
      obtain ⟨M4, eM4⟩ : ∃ z : Mm, z = m_up M2 159 15 ((M2 159 15) + (1 : Int32)) := ⟨_, rfl⟩
      have hT := hT M4 eM4
      rw [← eM4] at h
      obtain ⟨y5, ey5⟩ : ∃ z : Int32, z = x2 + (-8 : Int32) := ⟨_, rfl⟩
      have hT := hT y5 ey5
      refine lv_iinc (v := y5) (lv' := [(2, .int y5), (0, .ref (G.2.2.2 + 159)), (1, .int x1)]) hx hb dX12_types_33 hl (k := 2) rfl (by rw [ey5]; rfl) (by decide) rfl (fun ls hl => ?_)
      refine lv_goto (tgt := 3) hx hb dX12_types_36 (by decide) ?_
      exact ih x1 y5 M4 _ _ ls hT h (lv_sub hl [1, 2, 0] rfl)
def T_X12_types (x1 : Int32) (M : Mm) (K : Mm → Prop) : Prop := (T_X12_types_3 5000 x1 (24 : Int32) M K)
set_option maxHeartbeats 4000000 in
set_option maxRecDepth 100000 in
theorem c_X12_types (l : Launch) (G : fx_G) {x1 : Int32} {M : Mm} {K : Mm → Prop} (hT : T_X12_types x1 M K) : Met l yX12_types (fx_ws yX12_types cX12_types 3 none) (fx_rm (0)) (va_Pc [.ref (G.2.2.2 + 159), .int x1] (fx_P G SH M)) (va_Qv K (fx_R G SH) (fx_A G)) 0 0 (fx_A G) := by
  refine fx_met (own := RX12) (by decide +kernel) rfl (Nat.le_of_ble_eq_true rfl) (fun p e s m below meth c X hr hk h ls hl => ?_)
  obtain ⟨⟨hx, hb, hml, hown, hts⟩, hK, hQ⟩ := id X
  have hl : lv_has ls 3 [(0, .ref (G.2.2.2 + 159)), (1, .int x1)] := hl
  unfold T_X12_types at hT
  refine lv_bipush (v := 24) hx hb dX12_types_0 (by decide) ?_
  refine lv_istore_n (lv' := [(2, .int (24 : Int32)), (0, .ref (G.2.2.2 + 159)), (1, .int x1)]) hx hb dX12_types_2 rfl hl (by decide) rfl (fun ls hl => ?_)
  exact w_X12_types_3 X hr hk 5000 x1 (24 : Int32) M _ _ ls hT h (lv_sub hl [1, 2, 0] rfl)
/-! MockParcelsModel.feed(IIIII)I -/
theorem dX12_feed_0 : decode cX12_feed 0 = .ok (.aload_n 0, 1) := by decide +kernel
theorem dX12_feed_1 : decode cX12_feed 1 = .ok (.iconst 0, 1) := by decide +kernel
theorem dX12_feed_2 : decode cX12_feed 2 = .ok (.putfield 134, 3) := by decide +kernel
theorem dX12_feed_5 : decode cX12_feed 5 = .ok (.aload_n 0, 1) := by decide +kernel
theorem dX12_feed_6 : decode cX12_feed 6 = .ok (.getfield 171, 3) := by decide +kernel
theorem dX12_feed_9 : decode cX12_feed 9 = .ok (.sipush 380, 3) := by decide +kernel
theorem dX12_feed_12 : decode cX12_feed 12 = .ok (.if_icmp .le 5, 3) := by decide +kernel
theorem dX12_feed_15 : decode cX12_feed 15 = .ok (.iconst (-1), 1) := by decide +kernel
theorem dX12_feed_16 : decode cX12_feed 16 = .ok (.ireturn, 1) := by decide +kernel
theorem dX12_feed_17 : decode cX12_feed 17 = .ok (.aload_n 0, 1) := by decide +kernel
theorem dX12_feed_18 : decode cX12_feed 18 = .ok (.iload_n 1, 1) := by decide +kernel
theorem dX12_feed_19 : decode cX12_feed 19 = .ok (.invokevirtual 174, 3) := by decide +kernel
theorem dX12_feed_22 : decode cX12_feed 22 = .ok (.aload_n 0, 1) := by decide +kernel
theorem dX12_feed_23 : decode cX12_feed 23 = .ok (.iload_n 2, 1) := by decide +kernel
theorem dX12_feed_24 : decode cX12_feed 24 = .ok (.invokevirtual 174, 3) := by decide +kernel
theorem dX12_feed_27 : decode cX12_feed 27 = .ok (.aload_n 0, 1) := by decide +kernel
theorem dX12_feed_28 : decode cX12_feed 28 = .ok (.iload_n 3, 1) := by decide +kernel
theorem dX12_feed_29 : decode cX12_feed 29 = .ok (.invokevirtual 174, 3) := by decide +kernel
theorem dX12_feed_32 : decode cX12_feed 32 = .ok (.aload_n 0, 1) := by decide +kernel
theorem dX12_feed_33 : decode cX12_feed 33 = .ok (.iload 4, 2) := by decide +kernel
theorem dX12_feed_35 : decode cX12_feed 35 = .ok (.invokevirtual 174, 3) := by decide +kernel
theorem dX12_feed_38 : decode cX12_feed 38 = .ok (.aload_n 0, 1) := by decide +kernel
theorem dX12_feed_39 : decode cX12_feed 39 = .ok (.iload 5, 2) := by decide +kernel
theorem dX12_feed_41 : decode cX12_feed 41 = .ok (.invokevirtual 174, 3) := by decide +kernel
theorem dX12_feed_44 : decode cX12_feed 44 = .ok (.aload_n 0, 1) := by decide +kernel
theorem dX12_feed_45 : decode cX12_feed 45 = .ok (.getfield 171, 3) := by decide +kernel
theorem dX12_feed_48 : decode cX12_feed 48 = .ok (.ireturn, 1) := by decide +kernel
def T_X12_feed (x1 : Int32) (x2 : Int32) (x3 : Int32) (x4 : Int32) (x5 : Int32) (M : Mm) (K : Int32 → Mm → Prop) : Prop := (∀ M1 : Mm, M1 = m_up M 159 0 (0 : Int32) → (((M1 159 15) ≤ (380 : Int32) → (T_X12_types x1 M1 (fun M4 => (T_X12_types x2 M4 (fun M6 => (T_X12_types x3 M6 (fun M8 => (T_X12_types x4 M8 (fun M10 => (T_X12_types x5 M10 (fun M12 => (K (M12 159 15) M12)))))))))))) ∧ (¬ (M1 159 15) ≤ (380 : Int32) → (K (-1 : Int32) M1))))
set_option maxHeartbeats 4000000 in
set_option maxRecDepth 100000 in
theorem c_X12_feed (l : Launch) (G : fx_G) {x1 : Int32} {x2 : Int32} {x3 : Int32} {x4 : Int32} {x5 : Int32} {M : Mm} {K : Int32 → Mm → Prop} (hT : T_X12_feed x1 x2 x3 x4 x5 M K) : Met l yX12_feed (fx_ws yX12_feed cX12_feed 6 (some .int)) (fx_rm (1)) (va_Pc [.ref (G.2.2.2 + 159), .int x1, .int x2, .int x3, .int x4, .int x5] (fx_P G SH M)) (va_Qi K (fx_R G SH) (fx_A G)) 0 0 (fx_A G) := by
  refine fx_met (own := RX12) (by decide +kernel) rfl (Nat.le_of_ble_eq_true rfl) (fun p e s m below meth c X hr hk h ls hl => ?_)
  obtain ⟨⟨hx, hb, hml, hown, hts⟩, hK, hQ⟩ := id X
  have hl : lv_has ls 6 [(0, .ref (G.2.2.2 + 159)), (1, .int x1), (2, .int x2), (3, .int x3), (4, .int x4), (5, .int x5)] := hl
  unfold T_X12_feed at hT
  refine lv_aload_n hx hb dX12_feed_0 rfl (lv_at hl 0 rfl) ?_
  refine lv_iconst (v := 0) hx hb dX12_feed_1 (by decide) ?_
  refine fx_putI X h (k := 159) (j := 0) sh_159 rfl fl_RX12_134 dX12_feed_2 (fun H locs h => ?_)
  obtain ⟨M1, eM1⟩ : ∃ z : Mm, z = m_up M 159 0 (0 : Int32) := ⟨_, rfl⟩
  have hT := hT M1 eM1
  rw [← eM1] at h
  refine lv_aload_n hx hb dX12_feed_5 rfl (lv_at hl 0 rfl) ?_
  refine fx_getI X h (k := 159) (j := 15) sh_159 rfl fl_RX12_171 dX12_feed_6 ?_
  refine lv_sipush (v := 380) hx hb dX12_feed_9 (by decide) ?_
  refine lv_icmp_le (tgt := 17) hx hb dX12_feed_12 (by decide) (fun hc2 => ?_) (fun hc2 => ?_)
  · have hT := hT.1 hc2
    refine lv_aload_n hx hb dX12_feed_17 rfl (lv_at hl 0 rfl) ?_
    refine lv_iload_n hx hb dX12_feed_18 rfl (lv_at hl 1 rfl) ?_
    refine fx_vv X h ym_X12_types yi_X12_types ys_X12_types (fx_s7 (List.mem_of_getElem? (i := 105) rfl) rfl) sh_159 rfl (c_X12_types l G hT) (As := [.int x1]) (rest := []) rfl rfl ⟨Nat.le_of_ble_eq_true rfl, Nat.le_of_ble_eq_true rfl⟩ ⟨Nat.le_refl _, Nat.le_refl _⟩ hl.1 (Nat.le_of_ble_eq_true rfl) dX12_feed_19 (fun M4 H locs hT h => ?_)
    refine lv_aload_n hx hb dX12_feed_22 rfl (lv_at hl 0 rfl) ?_
    refine lv_iload_n hx hb dX12_feed_23 rfl (lv_at hl 2 rfl) ?_
    refine fx_vv X h ym_X12_types yi_X12_types ys_X12_types (fx_s7 (List.mem_of_getElem? (i := 105) rfl) rfl) sh_159 rfl (c_X12_types l G hT) (As := [.int x2]) (rest := []) rfl rfl ⟨Nat.le_of_ble_eq_true rfl, Nat.le_of_ble_eq_true rfl⟩ ⟨Nat.le_refl _, Nat.le_refl _⟩ hl.1 (Nat.le_of_ble_eq_true rfl) dX12_feed_24 (fun M6 H locs hT h => ?_)
    refine lv_aload_n hx hb dX12_feed_27 rfl (lv_at hl 0 rfl) ?_
    refine lv_iload_n hx hb dX12_feed_28 rfl (lv_at hl 3 rfl) ?_
    refine fx_vv X h ym_X12_types yi_X12_types ys_X12_types (fx_s7 (List.mem_of_getElem? (i := 105) rfl) rfl) sh_159 rfl (c_X12_types l G hT) (As := [.int x3]) (rest := []) rfl rfl ⟨Nat.le_of_ble_eq_true rfl, Nat.le_of_ble_eq_true rfl⟩ ⟨Nat.le_refl _, Nat.le_refl _⟩ hl.1 (Nat.le_of_ble_eq_true rfl) dX12_feed_29 (fun M8 H locs hT h => ?_)
    refine lv_aload_n hx hb dX12_feed_32 rfl (lv_at hl 0 rfl) ?_
    refine lv_iload hx hb dX12_feed_33 (lv_at hl 4 rfl) ?_
    refine fx_vv X h ym_X12_types yi_X12_types ys_X12_types (fx_s7 (List.mem_of_getElem? (i := 105) rfl) rfl) sh_159 rfl (c_X12_types l G hT) (As := [.int x4]) (rest := []) rfl rfl ⟨Nat.le_of_ble_eq_true rfl, Nat.le_of_ble_eq_true rfl⟩ ⟨Nat.le_refl _, Nat.le_refl _⟩ hl.1 (Nat.le_of_ble_eq_true rfl) dX12_feed_35 (fun M10 H locs hT h => ?_)
    refine lv_aload_n hx hb dX12_feed_38 rfl (lv_at hl 0 rfl) ?_
    refine lv_iload hx hb dX12_feed_39 (lv_at hl 5 rfl) ?_
    refine fx_vv X h ym_X12_types yi_X12_types ys_X12_types (fx_s7 (List.mem_of_getElem? (i := 105) rfl) rfl) sh_159 rfl (c_X12_types l G hT) (As := [.int x5]) (rest := []) rfl rfl ⟨Nat.le_of_ble_eq_true rfl, Nat.le_of_ble_eq_true rfl⟩ ⟨Nat.le_refl _, Nat.le_refl _⟩ hl.1 (Nat.le_of_ble_eq_true rfl) dX12_feed_41 (fun M12 H locs hT h => ?_)
    refine lv_aload_n hx hb dX12_feed_44 rfl (lv_at hl 0 rfl) ?_
    refine fx_getI X h (k := 159) (j := 15) sh_159 rfl fl_RX12_171 dX12_feed_45 ?_
    exact fx_iret X hr hk h hT dX12_feed_48
  · have hT := hT.2 hc2
    refine lv_iconst (v := -1) hx hb dX12_feed_15 (by decide) ?_
    exact fx_iret X hr hk h hT dX12_feed_16
/-! MockParcelsModel.end(I)Z -/
theorem dX12_end_0 : decode cX12_end 0 = .ok (.aload_n 0, 1) := by decide +kernel
theorem dX12_end_1 : decode cX12_end 1 = .ok (.iconst 0, 1) := by decide +kernel
theorem dX12_end_2 : decode cX12_end 2 = .ok (.putfield 134, 3) := by decide +kernel
theorem dX12_end_5 : decode cX12_end 5 = .ok (.aload_n 0, 1) := by decide +kernel
theorem dX12_end_6 : decode cX12_end 6 = .ok (.iload_n 1, 1) := by decide +kernel
theorem dX12_end_7 : decode cX12_end 7 = .ok (.iconst 0, 1) := by decide +kernel
theorem dX12_end_8 : decode cX12_end 8 = .ok (.aload_n 0, 1) := by decide +kernel
theorem dX12_end_9 : decode cX12_end 9 = .ok (.getfield 171, 3) := by decide +kernel
theorem dX12_end_12 : decode cX12_end 12 = .ok (.invokevirtual 157, 3) := by decide +kernel
theorem dX12_end_15 : decode cX12_end 15 = .ok (.ifCond .ne 5, 3) := by decide +kernel
theorem dX12_end_18 : decode cX12_end 18 = .ok (.iconst 0, 1) := by decide +kernel
theorem dX12_end_19 : decode cX12_end 19 = .ok (.ireturn, 1) := by decide +kernel
theorem dX12_end_20 : decode cX12_end 20 = .ok (.aload_n 0, 1) := by decide +kernel
theorem dX12_end_21 : decode cX12_end 21 = .ok (.iload_n 1, 1) := by decide +kernel
theorem dX12_end_22 : decode cX12_end 22 = .ok (.putfield 171, 3) := by decide +kernel
theorem dX12_end_25 : decode cX12_end 25 = .ok (.iconst 1, 1) := by decide +kernel
theorem dX12_end_26 : decode cX12_end 26 = .ok (.ireturn, 1) := by decide +kernel
def T_X12_end (x1 : Int32) (M : Mm) (K : Int32 → Mm → Prop) : Prop := (∀ M1 : Mm, M1 = m_up M 159 0 (0 : Int32) → (T_X12_isIn x1 (0 : Int32) (M1 159 15) M1 (fun r4 M3 => ((r4 = 0 → (K (0 : Int32) M3)) ∧ (¬ r4 = 0 → (∀ M6 : Mm, M6 = m_up M3 159 15 x1 → (K (1 : Int32) M6)))))))
set_option maxHeartbeats 4000000 in
set_option maxRecDepth 100000 in
theorem c_X12_end (l : Launch) (G : fx_G) {x1 : Int32} {M : Mm} {K : Int32 → Mm → Prop} (hT : T_X12_end x1 M K) : Met l yX12_end (fx_ws yX12_end cX12_end 2 (some .boolean)) (fx_rm (1)) (va_Pc [.ref (G.2.2.2 + 159), .int x1] (fx_P G SH M)) (va_Qi K (fx_R G SH) (fx_A G)) 0 0 (fx_A G) := by
  refine fx_met (own := RX12) (by decide +kernel) rfl (Nat.le_of_ble_eq_true rfl) (fun p e s m below meth c X hr hk h ls hl => ?_)
  obtain ⟨⟨hx, hb, hml, hown, hts⟩, hK, hQ⟩ := id X
  have hl : lv_has ls 2 [(0, .ref (G.2.2.2 + 159)), (1, .int x1)] := hl
  unfold T_X12_end at hT
  refine lv_aload_n hx hb dX12_end_0 rfl (lv_at hl 0 rfl) ?_
  refine lv_iconst (v := 0) hx hb dX12_end_1 (by decide) ?_
  refine fx_putI X h (k := 159) (j := 0) sh_159 rfl fl_RX12_134 dX12_end_2 (fun H locs h => ?_)
  obtain ⟨M1, eM1⟩ : ∃ z : Mm, z = m_up M 159 0 (0 : Int32) := ⟨_, rfl⟩
  have hT := hT M1 eM1
  rw [← eM1] at h
  refine lv_aload_n hx hb dX12_end_5 rfl (lv_at hl 0 rfl) ?_
  refine lv_iload_n hx hb dX12_end_6 rfl (lv_at hl 1 rfl) ?_
  refine lv_iconst (v := 0) hx hb dX12_end_7 (by decide) ?_
  refine lv_aload_n hx hb dX12_end_8 rfl (lv_at hl 0 rfl) ?_
  refine fx_getI X h (k := 159) (j := 15) sh_159 rfl fl_RX12_171 dX12_end_9 ?_
  refine fx_vi X h ym_X12_isIn yi_X12_isIn ys_X12_isIn (fx_s7 (List.mem_of_getElem? (i := 77) rfl) rfl) sh_159 rfl (c_X12_isIn l G hT) (As := [.int x1, .int (0 : Int32), .int (M1 159 15)]) (rest := []) rfl rfl ⟨Nat.le_of_ble_eq_true rfl, Nat.le_of_ble_eq_true rfl⟩ ⟨Nat.le_refl _, Nat.le_refl _⟩ hl.1 (Nat.le_of_ble_eq_true rfl) dX12_end_12 (fun r4 M3 H locs hT h => ?_)
  refine lv_if_ne (tgt := 20) hx hb dX12_end_15 (by decide) (fun hc5 => ?_) (fun hc5 => ?_)
  · have hT := hT.2 hc5
    refine lv_aload_n hx hb dX12_end_20 rfl (lv_at hl 0 rfl) ?_
    refine lv_iload_n hx hb dX12_end_21 rfl (lv_at hl 1 rfl) ?_
    refine fx_putI X h (k := 159) (j := 15) sh_159 rfl fl_RX12_171 dX12_end_22 (fun H locs h => ?_)
    obtain ⟨M6, eM6⟩ : ∃ z : Mm, z = m_up M3 159 15 x1 := ⟨_, rfl⟩
    have hT := hT M6 eM6
    rw [← eM6] at h
    refine lv_iconst (v := 1) hx hb dX12_end_25 (by decide) ?_
    exact fx_zret X hr hk h (Or.inr rfl) hT dX12_end_26
  · have hT := hT.1 hc5
    refine lv_iconst (v := 0) hx hb dX12_end_18 (by decide) ?_
    exact fx_zret X hr hk h (Or.inl rfl) hT dX12_end_19
/-! MockParcelsModel.raw(I)I -/
theorem dX12_raw_0 : decode cX12_raw 0 = .ok (.iload_n 1, 1) := by decide +kernel
theorem dX12_raw_1 : decode cX12_raw 1 = .ok (.aload_n 0, 1) := by decide +kernel
theorem dX12_raw_2 : decode cX12_raw 2 = .ok (.getfield 171, 3) := by decide +kernel
theorem dX12_raw_5 : decode cX12_raw 5 = .ok (.if_icmp .ge 12, 3) := by decide +kernel
theorem dX12_raw_8 : decode cX12_raw 8 = .ok (.aload_n 0, 1) := by decide +kernel
theorem dX12_raw_9 : decode cX12_raw 9 = .ok (.getfield 37, 3) := by decide +kernel
theorem dX12_raw_12 : decode cX12_raw 12 = .ok (.iload_n 1, 1) := by decide +kernel
theorem dX12_raw_13 : decode cX12_raw 13 = .ok (.iaload, 1) := by decide +kernel
theorem dX12_raw_14 : decode cX12_raw 14 = .ok (.goto 4, 3) := by decide +kernel
theorem dX12_raw_17 : decode cX12_raw 17 = .ok (.iconst (-1), 1) := by decide +kernel
theorem dX12_raw_18 : decode cX12_raw 18 = .ok (.ireturn, 1) := by decide +kernel
def T_X12_raw (x1 : Int32) (M : Mm) (K : Int32 → Mm → Prop) : Prop := (((M 159 15) ≤ x1 → (K (-1 : Int32) M)) ∧ (¬ (M 159 15) ≤ x1 → (vp_in x1 400 ∧ (K (M 169 (x1).toNatClampNeg) M))))
set_option maxHeartbeats 4000000 in
set_option maxRecDepth 100000 in
theorem c_X12_raw (l : Launch) (G : fx_G) {x1 : Int32} {M : Mm} {K : Int32 → Mm → Prop} (hT : T_X12_raw x1 M K) : Met l yX12_raw (fx_ws yX12_raw cX12_raw 2 (some .int)) (fx_rm (0)) (va_Pc [.ref (G.2.2.2 + 159), .int x1] (fx_P G SH M)) (va_Qi K (fx_R G SH) (fx_A G)) 0 0 (fx_A G) := by
  refine fx_met (own := RX12) (by decide +kernel) rfl (Nat.le_of_ble_eq_true rfl) (fun p e s m below meth c X hr hk h ls hl => ?_)
  obtain ⟨⟨hx, hb, hml, hown, hts⟩, hK, hQ⟩ := id X
  have hl : lv_has ls 2 [(0, .ref (G.2.2.2 + 159)), (1, .int x1)] := hl
  unfold T_X12_raw at hT
  refine lv_iload_n hx hb dX12_raw_0 rfl (lv_at hl 1 rfl) ?_
  refine lv_aload_n hx hb dX12_raw_1 rfl (lv_at hl 0 rfl) ?_
  refine fx_getI X h (k := 159) (j := 15) sh_159 rfl fl_RX12_171 dX12_raw_2 ?_
  refine lv_icmp_ge (tgt := 17) hx hb dX12_raw_5 (by decide) (fun hc1 => ?_) (fun hc1 => ?_)
  · have hT := hT.1 hc1
    refine lv_iconst (v := -1) hx hb dX12_raw_17 (by decide) ?_
    exact fx_iret X hr hk h hT dX12_raw_18
  · have hT := hT.2 hc1
    refine lv_aload_n hx hb dX12_raw_8 rfl (lv_at hl 0 rfl) ?_
    refine fx_getR X h (k := 159) (j := 14) (r := 169) sh_159 rfl fl_RX12_37 dX12_raw_9 ?_
    refine lv_iload_n hx hb dX12_raw_12 rfl (lv_at hl 1 rfl) ?_
    obtain ⟨hi2, hT⟩ := hT
    refine fx_iald X h (k := 169) sh_169 hi2 dX12_raw_13 ?_
    refine lv_goto (tgt := 18) hx hb dX12_raw_14 (by decide) ?_
    exact fx_iret X hr hk h hT dX12_raw_18
/-! MockParcelsModel.isLetter(I)Z -/
theorem dX12_isLetter_0 : decode cX12_isLetter 0 = .ok (.aload_n 0, 1) := by decide +kernel
theorem dX12_isLetter_1 : decode cX12_isLetter 1 = .ok (.iload_n 1, 1) := by decide +kernel
theorem dX12_isLetter_2 : decode cX12_isLetter 2 = .ok (.bipush 97, 2) := by decide +kernel
theorem dX12_isLetter_4 : decode cX12_isLetter 4 = .ok (.bipush 122, 2) := by decide +kernel
theorem dX12_isLetter_6 : decode cX12_isLetter 6 = .ok (.invokevirtual 157, 3) := by decide +kernel
theorem dX12_isLetter_9 : decode cX12_isLetter 9 = .ok (.ifCond .ne 15, 3) := by decide +kernel
theorem dX12_isLetter_12 : decode cX12_isLetter 12 = .ok (.aload_n 0, 1) := by decide +kernel
theorem dX12_isLetter_13 : decode cX12_isLetter 13 = .ok (.iload_n 1, 1) := by decide +kernel
theorem dX12_isLetter_14 : decode cX12_isLetter 14 = .ok (.bipush 65, 2) := by decide +kernel
theorem dX12_isLetter_16 : decode cX12_isLetter 16 = .ok (.bipush 90, 2) := by decide +kernel
theorem dX12_isLetter_18 : decode cX12_isLetter 18 = .ok (.invokevirtual 157, 3) := by decide +kernel
theorem dX12_isLetter_21 : decode cX12_isLetter 21 = .ok (.ifCond .eq 7, 3) := by decide +kernel
theorem dX12_isLetter_24 : decode cX12_isLetter 24 = .ok (.iconst 1, 1) := by decide +kernel
theorem dX12_isLetter_25 : decode cX12_isLetter 25 = .ok (.goto 4, 3) := by decide +kernel
theorem dX12_isLetter_28 : decode cX12_isLetter 28 = .ok (.iconst 0, 1) := by decide +kernel
theorem dX12_isLetter_29 : decode cX12_isLetter 29 = .ok (.ireturn, 1) := by decide +kernel
def T_X12_isLetter_24 (M : Mm) (K : Int32 → Mm → Prop) : Prop := (K (1 : Int32) M)
set_option maxHeartbeats 4000000 in
set_option maxRecDepth 100000 in
theorem w_X12_isLetter_24 {p : Program} {l : Launch} {e : Env} {s : State} {m : MethodId} {args : Array Value} {below : List Frame} {meth : Method} {c : Code} {G : fx_G} {K : Int32 → Mm → Prop} (X : fx_C G p s m c args cX12_isLetter 2 RX12) (hr : meth.sig.returnType = (some .boolean)) (hk : meth.locks = false) : ∀ (M : Mm) (H : Heap) (locs : List Loc) (ls : Array Slot), T_X12_isLetter_24  M K → fx_H G SH M s H locs → lv_has ls 2 [] → W p l e (fx_rm (1)) s m args below meth c H locs 0 0 (MQ below (va_Qi K (fx_R G SH) (fx_A G)) args s 0 0 (fx_A G)) (F0 m 24 ls []) := by
  obtain ⟨⟨hx, hb, hml, hown, hts⟩, hK, hQ⟩ := id X
  intro  M H locs ls hT h hl
  unfold T_X12_isLetter_24 at hT
  refine lv_iconst (v := 1) hx hb dX12_isLetter_24 (by decide) ?_
  refine lv_goto (tgt := 29) hx hb dX12_isLetter_25 (by decide) ?_
  exact fx_zret X hr hk h (Or.inr rfl) hT dX12_isLetter_29
def T_X12_isLetter (x1 : Int32) (M : Mm) (K : Int32 → Mm → Prop) : Prop := (T_X12_isIn x1 (97 : Int32) (122 : Int32) M (fun r3 M2 => ((r3 = 0 → (T_X12_isIn x1 (65 : Int32) (90 : Int32) M2 (fun r7 M6 => ((r7 = 0 → (K (0 : Int32) M6)) ∧ (¬ r7 = 0 → (T_X12_isLetter_24 M6 K)))))) ∧ (¬ r3 = 0 → (T_X12_isLetter_24 M2 K)))))
set_option maxHeartbeats 4000000 in
set_option maxRecDepth 100000 in
theorem c_X12_isLetter (l : Launch) (G : fx_G) {x1 : Int32} {M : Mm} {K : Int32 → Mm → Prop} (hT : T_X12_isLetter x1 M K) : Met l yX12_isLetter (fx_ws yX12_isLetter cX12_isLetter 2 (some .boolean)) (fx_rm (1)) (va_Pc [.ref (G.2.2.2 + 159), .int x1] (fx_P G SH M)) (va_Qi K (fx_R G SH) (fx_A G)) 0 0 (fx_A G) := by
  refine fx_met (own := RX12) (by decide +kernel) rfl (Nat.le_of_ble_eq_true rfl) (fun p e s m below meth c X hr hk h ls hl => ?_)
  obtain ⟨⟨hx, hb, hml, hown, hts⟩, hK, hQ⟩ := id X
  have hl : lv_has ls 2 [(0, .ref (G.2.2.2 + 159)), (1, .int x1)] := hl
  unfold T_X12_isLetter at hT
  refine lv_aload_n hx hb dX12_isLetter_0 rfl (lv_at hl 0 rfl) ?_
  refine lv_iload_n hx hb dX12_isLetter_1 rfl (lv_at hl 1 rfl) ?_
  refine lv_bipush (v := 97) hx hb dX12_isLetter_2 (by decide) ?_
  refine lv_bipush (v := 122) hx hb dX12_isLetter_4 (by decide) ?_
  refine fx_vi X h ym_X12_isIn yi_X12_isIn ys_X12_isIn (fx_s7 (List.mem_of_getElem? (i := 77) rfl) rfl) sh_159 rfl (c_X12_isIn l G hT) (As := [.int x1, .int (97 : Int32), .int (122 : Int32)]) (rest := []) rfl rfl ⟨Nat.le_of_ble_eq_true rfl, Nat.le_of_ble_eq_true rfl⟩ ⟨Nat.le_refl _, Nat.le_refl _⟩ hl.1 (Nat.le_of_ble_eq_true rfl) dX12_isLetter_6 (fun r3 M2 H locs hT h => ?_)
  refine lv_if_ne (tgt := 24) hx hb dX12_isLetter_9 (by decide) (fun hc4 => ?_) (fun hc4 => ?_)
  · have hT := hT.2 hc4
    exact w_X12_isLetter_24 X hr hk M2 _ _ ls hT h (lv_sub hl [] rfl)
  · have hT := hT.1 hc4
    refine lv_aload_n hx hb dX12_isLetter_12 rfl (lv_at hl 0 rfl) ?_
    refine lv_iload_n hx hb dX12_isLetter_13 rfl (lv_at hl 1 rfl) ?_
    refine lv_bipush (v := 65) hx hb dX12_isLetter_14 (by decide) ?_
    refine lv_bipush (v := 90) hx hb dX12_isLetter_16 (by decide) ?_
    refine fx_vi X h ym_X12_isIn yi_X12_isIn ys_X12_isIn (fx_s7 (List.mem_of_getElem? (i := 77) rfl) rfl) sh_159 rfl (c_X12_isIn l G hT) (As := [.int x1, .int (65 : Int32), .int (90 : Int32)]) (rest := []) rfl rfl ⟨Nat.le_of_ble_eq_true rfl, Nat.le_of_ble_eq_true rfl⟩ ⟨Nat.le_refl _, Nat.le_refl _⟩ hl.1 (Nat.le_of_ble_eq_true rfl) dX12_isLetter_18 (fun r7 M6 H locs hT h => ?_)
    refine lv_if_eq (tgt := 28) hx hb dX12_isLetter_21 (by decide) (fun hc8 => ?_) (fun hc8 => ?_)
    · have hT := hT.1 hc8
      refine lv_iconst (v := 0) hx hb dX12_isLetter_28 (by decide) ?_
      exact fx_zret X hr hk h (Or.inl rfl) hT dX12_isLetter_29
    · have hT := hT.2 hc8
      exact w_X12_isLetter_24 X hr hk M6 _ _ ls hT h (lv_sub hl [] rfl)
/-! MockParcelsModel.isDigit(I)Z -/
theorem dX12_isDigit_0 : decode cX12_isDigit 0 = .ok (.aload_n 0, 1) := by decide +kernel
theorem dX12_isDigit_1 : decode cX12_isDigit 1 = .ok (.iload_n 1, 1) := by decide +kernel
theorem dX12_isDigit_2 : decode cX12_isDigit 2 = .ok (.bipush 48, 2) := by decide +kernel
theorem dX12_isDigit_4 : decode cX12_isDigit 4 = .ok (.bipush 57, 2) := by decide +kernel
theorem dX12_isDigit_6 : decode cX12_isDigit 6 = .ok (.invokevirtual 157, 3) := by decide +kernel
theorem dX12_isDigit_9 : decode cX12_isDigit 9 = .ok (.ireturn, 1) := by decide +kernel
def T_X12_isDigit (x1 : Int32) (M : Mm) (K : Int32 → Mm → Prop) : Prop := (T_X12_isIn x1 (48 : Int32) (57 : Int32) M (fun r3 M2 => ((r3 = 0 ∨ r3 = 1) ∧ K r3 M2)))
set_option maxHeartbeats 4000000 in
set_option maxRecDepth 100000 in
theorem c_X12_isDigit (l : Launch) (G : fx_G) {x1 : Int32} {M : Mm} {K : Int32 → Mm → Prop} (hT : T_X12_isDigit x1 M K) : Met l yX12_isDigit (fx_ws yX12_isDigit cX12_isDigit 2 (some .boolean)) (fx_rm (1)) (va_Pc [.ref (G.2.2.2 + 159), .int x1] (fx_P G SH M)) (va_Qi K (fx_R G SH) (fx_A G)) 0 0 (fx_A G) := by
  refine fx_met (own := RX12) (by decide +kernel) rfl (Nat.le_of_ble_eq_true rfl) (fun p e s m below meth c X hr hk h ls hl => ?_)
  obtain ⟨⟨hx, hb, hml, hown, hts⟩, hK, hQ⟩ := id X
  have hl : lv_has ls 2 [(0, .ref (G.2.2.2 + 159)), (1, .int x1)] := hl
  unfold T_X12_isDigit at hT
  refine lv_aload_n hx hb dX12_isDigit_0 rfl (lv_at hl 0 rfl) ?_
  refine lv_iload_n hx hb dX12_isDigit_1 rfl (lv_at hl 1 rfl) ?_
  refine lv_bipush (v := 48) hx hb dX12_isDigit_2 (by decide) ?_
  refine lv_bipush (v := 57) hx hb dX12_isDigit_4 (by decide) ?_
  refine fx_vi X h ym_X12_isIn yi_X12_isIn ys_X12_isIn (fx_s7 (List.mem_of_getElem? (i := 77) rfl) rfl) sh_159 rfl (c_X12_isIn l G hT) (As := [.int x1, .int (48 : Int32), .int (57 : Int32)]) (rest := []) rfl rfl ⟨Nat.le_of_ble_eq_true rfl, Nat.le_of_ble_eq_true rfl⟩ ⟨Nat.le_refl _, Nat.le_refl _⟩ hl.1 (Nat.le_of_ble_eq_true rfl) dX12_isDigit_6 (fun r3 M2 H locs hT h => ?_)
  exact fx_zret X hr hk h hT.1 hT.2 dX12_isDigit_9
/-! MockParcelsModel.isMarkSign(I)Z -/
theorem dX12_isMarkSign_0 : decode cX12_isMarkSign 0 = .ok (.iload_n 1, 1) := by decide +kernel
theorem dX12_isMarkSign_1 : decode cX12_isMarkSign 1 = .ok (.bipush 59, 2) := by decide +kernel
theorem dX12_isMarkSign_3 : decode cX12_isMarkSign 3 = .ok (.if_icmp .eq 57, 3) := by decide +kernel
theorem dX12_isMarkSign_6 : decode cX12_isMarkSign 6 = .ok (.iload_n 1, 1) := by decide +kernel
theorem dX12_isMarkSign_7 : decode cX12_isMarkSign 7 = .ok (.bipush 43, 2) := by decide +kernel
theorem dX12_isMarkSign_9 : decode cX12_isMarkSign 9 = .ok (.if_icmp .eq 51, 3) := by decide +kernel
theorem dX12_isMarkSign_12 : decode cX12_isMarkSign 12 = .ok (.iload_n 1, 1) := by decide +kernel
theorem dX12_isMarkSign_13 : decode cX12_isMarkSign 13 = .ok (.bipush 45, 2) := by decide +kernel
theorem dX12_isMarkSign_15 : decode cX12_isMarkSign 15 = .ok (.if_icmp .eq 45, 3) := by decide +kernel
theorem dX12_isMarkSign_18 : decode cX12_isMarkSign 18 = .ok (.iload_n 1, 1) := by decide +kernel
theorem dX12_isMarkSign_19 : decode cX12_isMarkSign 19 = .ok (.bipush 42, 2) := by decide +kernel
theorem dX12_isMarkSign_21 : decode cX12_isMarkSign 21 = .ok (.if_icmp .eq 39, 3) := by decide +kernel
theorem dX12_isMarkSign_24 : decode cX12_isMarkSign 24 = .ok (.iload_n 1, 1) := by decide +kernel
theorem dX12_isMarkSign_25 : decode cX12_isMarkSign 25 = .ok (.bipush 47, 2) := by decide +kernel
theorem dX12_isMarkSign_27 : decode cX12_isMarkSign 27 = .ok (.if_icmp .eq 33, 3) := by decide +kernel
theorem dX12_isMarkSign_30 : decode cX12_isMarkSign 30 = .ok (.iload_n 1, 1) := by decide +kernel
theorem dX12_isMarkSign_31 : decode cX12_isMarkSign 31 = .ok (.bipush 40, 2) := by decide +kernel
theorem dX12_isMarkSign_33 : decode cX12_isMarkSign 33 = .ok (.if_icmp .eq 27, 3) := by decide +kernel
theorem dX12_isMarkSign_36 : decode cX12_isMarkSign 36 = .ok (.iload_n 1, 1) := by decide +kernel
theorem dX12_isMarkSign_37 : decode cX12_isMarkSign 37 = .ok (.bipush 41, 2) := by decide +kernel
theorem dX12_isMarkSign_39 : decode cX12_isMarkSign 39 = .ok (.if_icmp .eq 21, 3) := by decide +kernel
theorem dX12_isMarkSign_42 : decode cX12_isMarkSign 42 = .ok (.iload_n 1, 1) := by decide +kernel
theorem dX12_isMarkSign_43 : decode cX12_isMarkSign 43 = .ok (.bipush 60, 2) := by decide +kernel
theorem dX12_isMarkSign_45 : decode cX12_isMarkSign 45 = .ok (.if_icmp .eq 15, 3) := by decide +kernel
theorem dX12_isMarkSign_48 : decode cX12_isMarkSign 48 = .ok (.iload_n 1, 1) := by decide +kernel
theorem dX12_isMarkSign_49 : decode cX12_isMarkSign 49 = .ok (.bipush 61, 2) := by decide +kernel
theorem dX12_isMarkSign_51 : decode cX12_isMarkSign 51 = .ok (.if_icmp .eq 9, 3) := by decide +kernel
theorem dX12_isMarkSign_54 : decode cX12_isMarkSign 54 = .ok (.iload_n 1, 1) := by decide +kernel
theorem dX12_isMarkSign_55 : decode cX12_isMarkSign 55 = .ok (.bipush 62, 2) := by decide +kernel
theorem dX12_isMarkSign_57 : decode cX12_isMarkSign 57 = .ok (.if_icmp .ne 7, 3) := by decide +kernel
theorem dX12_isMarkSign_60 : decode cX12_isMarkSign 60 = .ok (.iconst 1, 1) := by decide +kernel
theorem dX12_isMarkSign_61 : decode cX12_isMarkSign 61 = .ok (.goto 4, 3) := by decide +kernel
theorem dX12_isMarkSign_64 : decode cX12_isMarkSign 64 = .ok (.iconst 0, 1) := by decide +kernel
theorem dX12_isMarkSign_65 : decode cX12_isMarkSign 65 = .ok (.ireturn, 1) := by decide +kernel
def T_X12_isMarkSign_60 (M : Mm) (K : Int32 → Mm → Prop) : Prop := (K (1 : Int32) M)
set_option maxHeartbeats 4000000 in
set_option maxRecDepth 100000 in
theorem w_X12_isMarkSign_60 {p : Program} {l : Launch} {e : Env} {s : State} {m : MethodId} {args : Array Value} {below : List Frame} {meth : Method} {c : Code} {G : fx_G} {K : Int32 → Mm → Prop} (X : fx_C G p s m c args cX12_isMarkSign 2 RX12) (hr : meth.sig.returnType = (some .boolean)) (hk : meth.locks = false) : ∀ (M : Mm) (H : Heap) (locs : List Loc) (ls : Array Slot), T_X12_isMarkSign_60  M K → fx_H G SH M s H locs → lv_has ls 2 [] → W p l e (fx_rm (0)) s m args below meth c H locs 0 0 (MQ below (va_Qi K (fx_R G SH) (fx_A G)) args s 0 0 (fx_A G)) (F0 m 60 ls []) := by
  obtain ⟨⟨hx, hb, hml, hown, hts⟩, hK, hQ⟩ := id X
  intro  M H locs ls hT h hl
  unfold T_X12_isMarkSign_60 at hT
  refine lv_iconst (v := 1) hx hb dX12_isMarkSign_60 (by decide) ?_
  refine lv_goto (tgt := 65) hx hb dX12_isMarkSign_61 (by decide) ?_
  exact fx_zret X hr hk h (Or.inr rfl) hT dX12_isMarkSign_65
def T_X12_isMarkSign (x1 : Int32) (M : Mm) (K : Int32 → Mm → Prop) : Prop := ((x1 = (59 : Int32) → (T_X12_isMarkSign_60 M K)) ∧ (¬ x1 = (59 : Int32) → ((x1 = (43 : Int32) → (T_X12_isMarkSign_60 M K)) ∧ (¬ x1 = (43 : Int32) → ((x1 = (45 : Int32) → (T_X12_isMarkSign_60 M K)) ∧ (¬ x1 = (45 : Int32) → ((x1 = (42 : Int32) → (T_X12_isMarkSign_60 M K)) ∧ (¬ x1 = (42 : Int32) → ((x1 = (47 : Int32) → (T_X12_isMarkSign_60 M K)) ∧ (¬ x1 = (47 : Int32) → ((x1 = (40 : Int32) → (T_X12_isMarkSign_60 M K)) ∧ (¬ x1 = (40 : Int32) → ((x1 = (41 : Int32) → (T_X12_isMarkSign_60 M K)) ∧ (¬ x1 = (41 : Int32) → ((x1 = (60 : Int32) → (T_X12_isMarkSign_60 M K)) ∧ (¬ x1 = (60 : Int32) → ((x1 = (61 : Int32) → (T_X12_isMarkSign_60 M K)) ∧ (¬ x1 = (61 : Int32) → ((x1 = (62 : Int32) → (T_X12_isMarkSign_60 M K)) ∧ (¬ x1 = (62 : Int32) → (K (0 : Int32) M)))))))))))))))))))))
set_option maxHeartbeats 4000000 in
set_option maxRecDepth 100000 in
theorem c_X12_isMarkSign (l : Launch) (G : fx_G) {x1 : Int32} {M : Mm} {K : Int32 → Mm → Prop} (hT : T_X12_isMarkSign x1 M K) : Met l yX12_isMarkSign (fx_ws yX12_isMarkSign cX12_isMarkSign 2 (some .boolean)) (fx_rm (0)) (va_Pc [.ref (G.2.2.2 + 159), .int x1] (fx_P G SH M)) (va_Qi K (fx_R G SH) (fx_A G)) 0 0 (fx_A G) := by
  refine fx_met (own := RX12) (by decide +kernel) rfl (Nat.le_of_ble_eq_true rfl) (fun p e s m below meth c X hr hk h ls hl => ?_)
  obtain ⟨⟨hx, hb, hml, hown, hts⟩, hK, hQ⟩ := id X
  have hl : lv_has ls 2 [(0, .ref (G.2.2.2 + 159)), (1, .int x1)] := hl
  unfold T_X12_isMarkSign at hT
  refine lv_iload_n hx hb dX12_isMarkSign_0 rfl (lv_at hl 1 rfl) ?_
  refine lv_bipush (v := 59) hx hb dX12_isMarkSign_1 (by decide) ?_
  refine lv_icmp_eq (tgt := 60) hx hb dX12_isMarkSign_3 (by decide) (fun hc1 => ?_) (fun hc1 => ?_)
  · have hT := hT.1 hc1
    exact w_X12_isMarkSign_60 X hr hk M _ _ ls hT h (lv_sub hl [] rfl)
  · have hT := hT.2 hc1
    refine lv_iload_n hx hb dX12_isMarkSign_6 rfl (lv_at hl 1 rfl) ?_
    refine lv_bipush (v := 43) hx hb dX12_isMarkSign_7 (by decide) ?_
    refine lv_icmp_eq (tgt := 60) hx hb dX12_isMarkSign_9 (by decide) (fun hc2 => ?_) (fun hc2 => ?_)
    · have hT := hT.1 hc2
      exact w_X12_isMarkSign_60 X hr hk M _ _ ls hT h (lv_sub hl [] rfl)
    · have hT := hT.2 hc2
      refine lv_iload_n hx hb dX12_isMarkSign_12 rfl (lv_at hl 1 rfl) ?_
      refine lv_bipush (v := 45) hx hb dX12_isMarkSign_13 (by decide) ?_
      refine lv_icmp_eq (tgt := 60) hx hb dX12_isMarkSign_15 (by decide) (fun hc3 => ?_) (fun hc3 => ?_)
      · have hT := hT.1 hc3
        exact w_X12_isMarkSign_60 X hr hk M _ _ ls hT h (lv_sub hl [] rfl)
      · have hT := hT.2 hc3
        refine lv_iload_n hx hb dX12_isMarkSign_18 rfl (lv_at hl 1 rfl) ?_
        refine lv_bipush (v := 42) hx hb dX12_isMarkSign_19 (by decide) ?_
        refine lv_icmp_eq (tgt := 60) hx hb dX12_isMarkSign_21 (by decide) (fun hc4 => ?_) (fun hc4 => ?_)
        · have hT := hT.1 hc4
          exact w_X12_isMarkSign_60 X hr hk M _ _ ls hT h (lv_sub hl [] rfl)
        · have hT := hT.2 hc4
          refine lv_iload_n hx hb dX12_isMarkSign_24 rfl (lv_at hl 1 rfl) ?_
          refine lv_bipush (v := 47) hx hb dX12_isMarkSign_25 (by decide) ?_
          refine lv_icmp_eq (tgt := 60) hx hb dX12_isMarkSign_27 (by decide) (fun hc5 => ?_) (fun hc5 => ?_)
          · have hT := hT.1 hc5
            exact w_X12_isMarkSign_60 X hr hk M _ _ ls hT h (lv_sub hl [] rfl)
          · have hT := hT.2 hc5
            refine lv_iload_n hx hb dX12_isMarkSign_30 rfl (lv_at hl 1 rfl) ?_
            refine lv_bipush (v := 40) hx hb dX12_isMarkSign_31 (by decide) ?_
            refine lv_icmp_eq (tgt := 60) hx hb dX12_isMarkSign_33 (by decide) (fun hc6 => ?_) (fun hc6 => ?_)
            · have hT := hT.1 hc6
              exact w_X12_isMarkSign_60 X hr hk M _ _ ls hT h (lv_sub hl [] rfl)
            · have hT := hT.2 hc6
              refine lv_iload_n hx hb dX12_isMarkSign_36 rfl (lv_at hl 1 rfl) ?_
              refine lv_bipush (v := 41) hx hb dX12_isMarkSign_37 (by decide) ?_
              refine lv_icmp_eq (tgt := 60) hx hb dX12_isMarkSign_39 (by decide) (fun hc7 => ?_) (fun hc7 => ?_)
              · have hT := hT.1 hc7
                exact w_X12_isMarkSign_60 X hr hk M _ _ ls hT h (lv_sub hl [] rfl)
              · have hT := hT.2 hc7
                refine lv_iload_n hx hb dX12_isMarkSign_42 rfl (lv_at hl 1 rfl) ?_
                refine lv_bipush (v := 60) hx hb dX12_isMarkSign_43 (by decide) ?_
                refine lv_icmp_eq (tgt := 60) hx hb dX12_isMarkSign_45 (by decide) (fun hc8 => ?_) (fun hc8 => ?_)
                · have hT := hT.1 hc8
                  exact w_X12_isMarkSign_60 X hr hk M _ _ ls hT h (lv_sub hl [] rfl)
                · have hT := hT.2 hc8
                  refine lv_iload_n hx hb dX12_isMarkSign_48 rfl (lv_at hl 1 rfl) ?_
                  refine lv_bipush (v := 61) hx hb dX12_isMarkSign_49 (by decide) ?_
                  refine lv_icmp_eq (tgt := 60) hx hb dX12_isMarkSign_51 (by decide) (fun hc9 => ?_) (fun hc9 => ?_)
                  · have hT := hT.1 hc9
                    exact w_X12_isMarkSign_60 X hr hk M _ _ ls hT h (lv_sub hl [] rfl)
                  · have hT := hT.2 hc9
                    refine lv_iload_n hx hb dX12_isMarkSign_54 rfl (lv_at hl 1 rfl) ?_
                    refine lv_bipush (v := 62) hx hb dX12_isMarkSign_55 (by decide) ?_
                    refine lv_icmp_ne (tgt := 64) hx hb dX12_isMarkSign_57 (by decide) (fun hc10 => ?_) (fun hc10 => ?_)
                    · have hT := hT.2 hc10
                      refine lv_iconst (v := 0) hx hb dX12_isMarkSign_64 (by decide) ?_
                      exact fx_zret X hr hk h (Or.inl rfl) hT dX12_isMarkSign_65
                    · have hT := hT.1 hc10
                      exact w_X12_isMarkSign_60 X hr hk M _ _ ls hT h (lv_sub hl [] rfl)
/-! MockParcelsModel.wordAt(II)I -/
theorem dX12_wordAt_0 : decode cX12_wordAt 0 = .ok (.iconst (-1), 1) := by decide +kernel
theorem dX12_wordAt_1 : decode cX12_wordAt 1 = .ok (.istore_n 3, 1) := by decide +kernel
theorem dX12_wordAt_2 : decode cX12_wordAt 2 = .ok (.iconst 0, 1) := by decide +kernel
theorem dX12_wordAt_3 : decode cX12_wordAt 3 = .ok (.istore 4, 2) := by decide +kernel
theorem dX12_wordAt_5 : decode cX12_wordAt 5 = .ok (.iload 4, 2) := by decide +kernel
theorem dX12_wordAt_7 : decode cX12_wordAt 7 = .ok (.sipush 147, 3) := by decide +kernel
theorem dX12_wordAt_10 : decode cX12_wordAt 10 = .ok (.if_icmp .ge 108, 3) := by decide +kernel
theorem dX12_wordAt_13 : decode cX12_wordAt 13 = .ok (.iconst 0, 1) := by decide +kernel
theorem dX12_wordAt_14 : decode cX12_wordAt 14 = .ok (.istore 5, 2) := by decide +kernel
theorem dX12_wordAt_16 : decode cX12_wordAt 16 = .ok (.iload_n 3, 1) := by decide +kernel
theorem dX12_wordAt_17 : decode cX12_wordAt 17 = .ok (.iconst 1, 1) := by decide +kernel
theorem dX12_wordAt_18 : decode cX12_wordAt 18 = .ok (.iadd, 1) := by decide +kernel
theorem dX12_wordAt_19 : decode cX12_wordAt 19 = .ok (.istore_n 3, 1) := by decide +kernel
theorem dX12_wordAt_20 : decode cX12_wordAt 20 = .ok (.iload_n 1, 1) := by decide +kernel
theorem dX12_wordAt_21 : decode cX12_wordAt 21 = .ok (.iload 5, 2) := by decide +kernel
theorem dX12_wordAt_23 : decode cX12_wordAt 23 = .ok (.iadd, 1) := by decide +kernel
theorem dX12_wordAt_24 : decode cX12_wordAt 24 = .ok (.iload_n 2, 1) := by decide +kernel
theorem dX12_wordAt_25 : decode cX12_wordAt 25 = .ok (.if_icmp .ge 36, 3) := by decide +kernel
theorem dX12_wordAt_28 : decode cX12_wordAt 28 = .ok (.aload_n 0, 1) := by decide +kernel
theorem dX12_wordAt_29 : decode cX12_wordAt 29 = .ok (.getfield 40, 3) := by decide +kernel
theorem dX12_wordAt_32 : decode cX12_wordAt 32 = .ok (.iload 4, 2) := by decide +kernel
theorem dX12_wordAt_34 : decode cX12_wordAt 34 = .ok (.iconst 1, 1) := by decide +kernel
theorem dX12_wordAt_35 : decode cX12_wordAt 35 = .ok (.iadd, 1) := by decide +kernel
theorem dX12_wordAt_36 : decode cX12_wordAt 36 = .ok (.iload 5, 2) := by decide +kernel
theorem dX12_wordAt_38 : decode cX12_wordAt 38 = .ok (.iadd, 1) := by decide +kernel
theorem dX12_wordAt_39 : decode cX12_wordAt 39 = .ok (.iaload, 1) := by decide +kernel
theorem dX12_wordAt_40 : decode cX12_wordAt 40 = .ok (.aload_n 0, 1) := by decide +kernel
theorem dX12_wordAt_41 : decode cX12_wordAt 41 = .ok (.getfield 37, 3) := by decide +kernel
theorem dX12_wordAt_44 : decode cX12_wordAt 44 = .ok (.iload_n 1, 1) := by decide +kernel
theorem dX12_wordAt_45 : decode cX12_wordAt 45 = .ok (.iload 5, 2) := by decide +kernel
theorem dX12_wordAt_47 : decode cX12_wordAt 47 = .ok (.iadd, 1) := by decide +kernel
theorem dX12_wordAt_48 : decode cX12_wordAt 48 = .ok (.iaload, 1) := by decide +kernel
theorem dX12_wordAt_49 : decode cX12_wordAt 49 = .ok (.if_icmp .ne 12, 3) := by decide +kernel
theorem dX12_wordAt_52 : decode cX12_wordAt 52 = .ok (.iload 5, 2) := by decide +kernel
theorem dX12_wordAt_54 : decode cX12_wordAt 54 = .ok (.iconst 1, 1) := by decide +kernel
theorem dX12_wordAt_55 : decode cX12_wordAt 55 = .ok (.iadd, 1) := by decide +kernel
theorem dX12_wordAt_56 : decode cX12_wordAt 56 = .ok (.istore 5, 2) := by decide +kernel
theorem dX12_wordAt_58 : decode cX12_wordAt 58 = .ok (.goto (-38), 3) := by decide +kernel
theorem dX12_wordAt_61 : decode cX12_wordAt 61 = .ok (.iload_n 1, 1) := by decide +kernel
theorem dX12_wordAt_62 : decode cX12_wordAt 62 = .ok (.iload 5, 2) := by decide +kernel
theorem dX12_wordAt_64 : decode cX12_wordAt 64 = .ok (.iadd, 1) := by decide +kernel
theorem dX12_wordAt_65 : decode cX12_wordAt 65 = .ok (.iload_n 2, 1) := by decide +kernel
theorem dX12_wordAt_66 : decode cX12_wordAt 66 = .ok (.if_icmp .ne 22, 3) := by decide +kernel
theorem dX12_wordAt_69 : decode cX12_wordAt 69 = .ok (.aload_n 0, 1) := by decide +kernel
theorem dX12_wordAt_70 : decode cX12_wordAt 70 = .ok (.getfield 40, 3) := by decide +kernel
theorem dX12_wordAt_73 : decode cX12_wordAt 73 = .ok (.iload 4, 2) := by decide +kernel
theorem dX12_wordAt_75 : decode cX12_wordAt 75 = .ok (.iconst 1, 1) := by decide +kernel
theorem dX12_wordAt_76 : decode cX12_wordAt 76 = .ok (.iadd, 1) := by decide +kernel
theorem dX12_wordAt_77 : decode cX12_wordAt 77 = .ok (.iload 5, 2) := by decide +kernel
theorem dX12_wordAt_79 : decode cX12_wordAt 79 = .ok (.iadd, 1) := by decide +kernel
theorem dX12_wordAt_80 : decode cX12_wordAt 80 = .ok (.iaload, 1) := by decide +kernel
theorem dX12_wordAt_81 : decode cX12_wordAt 81 = .ok (.bipush 32, 2) := by decide +kernel
theorem dX12_wordAt_83 : decode cX12_wordAt 83 = .ok (.if_icmp .ne 5, 3) := by decide +kernel
theorem dX12_wordAt_86 : decode cX12_wordAt 86 = .ok (.iload_n 3, 1) := by decide +kernel
theorem dX12_wordAt_87 : decode cX12_wordAt 87 = .ok (.ireturn, 1) := by decide +kernel
theorem dX12_wordAt_88 : decode cX12_wordAt 88 = .ok (.iload 4, 2) := by decide +kernel
theorem dX12_wordAt_90 : decode cX12_wordAt 90 = .ok (.iconst 1, 1) := by decide +kernel
theorem dX12_wordAt_91 : decode cX12_wordAt 91 = .ok (.iadd, 1) := by decide +kernel
theorem dX12_wordAt_92 : decode cX12_wordAt 92 = .ok (.istore 4, 2) := by decide +kernel
theorem dX12_wordAt_94 : decode cX12_wordAt 94 = .ok (.aload_n 0, 1) := by decide +kernel
theorem dX12_wordAt_95 : decode cX12_wordAt 95 = .ok (.getfield 40, 3) := by decide +kernel
theorem dX12_wordAt_98 : decode cX12_wordAt 98 = .ok (.iload 4, 2) := by decide +kernel
theorem dX12_wordAt_100 : decode cX12_wordAt 100 = .ok (.iaload, 1) := by decide +kernel
theorem dX12_wordAt_101 : decode cX12_wordAt 101 = .ok (.bipush 32, 2) := by decide +kernel
theorem dX12_wordAt_103 : decode cX12_wordAt 103 = .ok (.if_icmp .eq 12, 3) := by decide +kernel
theorem dX12_wordAt_106 : decode cX12_wordAt 106 = .ok (.iload 4, 2) := by decide +kernel
theorem dX12_wordAt_108 : decode cX12_wordAt 108 = .ok (.iconst 1, 1) := by decide +kernel
theorem dX12_wordAt_109 : decode cX12_wordAt 109 = .ok (.iadd, 1) := by decide +kernel
theorem dX12_wordAt_110 : decode cX12_wordAt 110 = .ok (.istore 4, 2) := by decide +kernel
theorem dX12_wordAt_112 : decode cX12_wordAt 112 = .ok (.goto (-18), 3) := by decide +kernel
theorem dX12_wordAt_115 : decode cX12_wordAt 115 = .ok (.goto (-110), 3) := by decide +kernel
theorem dX12_wordAt_118 : decode cX12_wordAt 118 = .ok (.iconst (-1), 1) := by decide +kernel
theorem dX12_wordAt_119 : decode cX12_wordAt 119 = .ok (.ireturn, 1) := by decide +kernel
def T_X12_wordAt_94 (B5 : Int32 → Int32 → Int32 → Int32 → Mm → Prop) : Nat → Int32 → Int32 → Int32 → Int32 → Mm → (Int32 → Mm → Prop) → Prop
  | 0, _, _, _, _, _, _ => False
  | n + 1, x1, x2, x3, x4, M, K => (vp_in x4 148 ∧ (((M 170 (x4).toNatClampNeg) = (32 : Int32) → (B5 x1 x2 x3 x4 M)) ∧ (¬ (M 170 (x4).toNatClampNeg) = (32 : Int32) → (∀ y3 : Int32, y3 = (x4 + (1 : Int32)) → (T_X12_wordAt_94 B5 n x1 x2 x3 y3 M K)))))
set_option maxHeartbeats 4000000 in
set_option maxRecDepth 100000 in
theorem w_X12_wordAt_94 {p : Program} {l : Launch} {e : Env} {s : State} {m : MethodId} {args : Array Value} {below : List Frame} {meth : Method} {c : Code} {G : fx_G} {K : Int32 → Mm → Prop} {B5 : Int32 → Int32 → Int32 → Int32 → Mm → Prop} (X : fx_C G p s m c args cX12_wordAt 6 RX12) (hr : meth.sig.returnType = (some .int)) (hk : meth.locks = false) (hB5 : ∀ (x1 : Int32) (x2 : Int32) (x3 : Int32) (x4 : Int32) (M : Mm) (H : Heap) (locs : List Loc) (ls : Array Slot), B5 x1 x2 x3 x4 M → fx_H G SH M s H locs → lv_has ls 6 [(0, .ref (G.2.2.2 + 159)), (1, .int x1), (2, .int x2), (3, .int x3), (4, .int x4)] → W p l e (fx_rm (0)) s m args below meth c H locs 0 0 (MQ below (va_Qi K (fx_R G SH) (fx_A G)) args s 0 0 (fx_A G)) (F0 m 5 ls [])) : ∀ (n : Nat) (x1 : Int32) (x2 : Int32) (x3 : Int32) (x4 : Int32) (M : Mm) (H : Heap) (locs : List Loc) (ls : Array Slot), T_X12_wordAt_94 B5 n x1 x2 x3 x4 M K → fx_H G SH M s H locs → lv_has ls 6 [(0, .ref (G.2.2.2 + 159)), (1, .int x1), (2, .int x2), (3, .int x3), (4, .int x4)] → W p l e (fx_rm (0)) s m args below meth c H locs 0 0 (MQ below (va_Qi K (fx_R G SH) (fx_A G)) args s 0 0 (fx_A G)) (F0 m 94 ls []) := by
  obtain ⟨⟨hx, hb, hml, hown, hts⟩, hK, hQ⟩ := id X
  intro n
  induction n with
  | zero =>
    intro x1 x2 x3 x4 M H locs ls hT
    exact hT.elim
  | succ n ih =>
    intro x1 x2 x3 x4 M H locs ls hT h hl
    rw [T_X12_wordAt_94] at hT
    refine lv_aload_n hx hb dX12_wordAt_94 rfl (lv_at hl 0 rfl) ?_
    refine fx_getR X h (k := 159) (j := 20) (r := 170) sh_159 rfl fl_RX12_40 dX12_wordAt_95 ?_
    refine lv_iload hx hb dX12_wordAt_98 (lv_at hl 4 rfl) ?_
    obtain ⟨hi1, hT⟩ := hT
    refine fx_iald X h (k := 170) sh_170 hi1 dX12_wordAt_100 ?_
    refine lv_bipush (v := 32) hx hb dX12_wordAt_101 (by decide) ?_
    refine lv_icmp_eq (tgt := 115) hx hb dX12_wordAt_103 (by decide) (fun hc2 => ?_) (fun hc2 => ?_)
    · have hT := hT.1 hc2
      refine lv_goto (tgt := 5) hx hb dX12_wordAt_115 (by decide) ?_
      exact hB5 x1 x2 x3 x4 M _ _ ls hT h (lv_sub hl [0, 1, 2, 3, 4] rfl)
    · have hT := hT.2 hc2
      refine lv_iload hx hb dX12_wordAt_106 (lv_at hl 4 rfl) ?_
      refine lv_iconst (v := 1) hx hb dX12_wordAt_108 (by decide) ?_
      refine lv_iadd hx hb dX12_wordAt_109 ?_
      refine lv_topi (fun y3 ey3 => ?_)
      have hT := hT y3 ey3
      refine lv_istore (lv' := [(4, .int y3), (0, .ref (G.2.2.2 + 159)), (1, .int x1), (2, .int x2), (3, .int x3)]) hx hb dX12_wordAt_110 hl (by decide) rfl (fun ls hl => ?_)
      refine lv_goto (tgt := 94) hx hb dX12_wordAt_112 (by decide) ?_
      exact ih x1 x2 x3 y3 M _ _ ls hT h (lv_sub hl [1, 2, 3, 4, 0] rfl)
def T_X12_wordAt_88 (B5 : Int32 → Int32 → Int32 → Int32 → Mm → Prop) (x1 : Int32) (x2 : Int32) (x3 : Int32) (x4 : Int32) (M : Mm) (K : Int32 → Mm → Prop) : Prop := (∀ y4 : Int32, y4 = (x4 + (1 : Int32)) → (T_X12_wordAt_94 B5 5000 x1 x2 x3 y4 M K))
set_option maxHeartbeats 4000000 in
set_option maxRecDepth 100000 in
theorem w_X12_wordAt_88 {p : Program} {l : Launch} {e : Env} {s : State} {m : MethodId} {args : Array Value} {below : List Frame} {meth : Method} {c : Code} {G : fx_G} {K : Int32 → Mm → Prop} {B5 : Int32 → Int32 → Int32 → Int32 → Mm → Prop} (X : fx_C G p s m c args cX12_wordAt 6 RX12) (hr : meth.sig.returnType = (some .int)) (hk : meth.locks = false) (hB5 : ∀ (x1 : Int32) (x2 : Int32) (x3 : Int32) (x4 : Int32) (M : Mm) (H : Heap) (locs : List Loc) (ls : Array Slot), B5 x1 x2 x3 x4 M → fx_H G SH M s H locs → lv_has ls 6 [(0, .ref (G.2.2.2 + 159)), (1, .int x1), (2, .int x2), (3, .int x3), (4, .int x4)] → W p l e (fx_rm (0)) s m args below meth c H locs 0 0 (MQ below (va_Qi K (fx_R G SH) (fx_A G)) args s 0 0 (fx_A G)) (F0 m 5 ls [])) : ∀ (x1 : Int32) (x2 : Int32) (x3 : Int32) (x4 : Int32) (M : Mm) (H : Heap) (locs : List Loc) (ls : Array Slot), T_X12_wordAt_88 B5 x1 x2 x3 x4 M K → fx_H G SH M s H locs → lv_has ls 6 [(0, .ref (G.2.2.2 + 159)), (1, .int x1), (2, .int x2), (3, .int x3), (4, .int x4)] → W p l e (fx_rm (0)) s m args below meth c H locs 0 0 (MQ below (va_Qi K (fx_R G SH) (fx_A G)) args s 0 0 (fx_A G)) (F0 m 88 ls []) := by
  obtain ⟨⟨hx, hb, hml, hown, hts⟩, hK, hQ⟩ := id X
  intro x1 x2 x3 x4 M H locs ls hT h hl
  unfold T_X12_wordAt_88 at hT
  refine lv_iload hx hb dX12_wordAt_88 (lv_at hl 4 rfl) ?_
  refine lv_iconst (v := 1) hx hb dX12_wordAt_90 (by decide) ?_
  refine lv_iadd hx hb dX12_wordAt_91 ?_
  refine lv_topi (fun y4 ey4 => ?_)
  have hT := hT y4 ey4
  refine lv_istore (lv' := [(4, .int y4), (0, .ref (G.2.2.2 + 159)), (1, .int x1), (2, .int x2), (3, .int x3)]) hx hb dX12_wordAt_92 hl (by decide) rfl (fun ls hl => ?_)
  exact w_X12_wordAt_94 X hr hk (B5 := B5) hB5 5000 x1 x2 x3 y4 M _ _ ls hT h (lv_sub hl [1, 2, 3, 4, 0] rfl)
def T_X12_wordAt_61 (B5 : Int32 → Int32 → Int32 → Int32 → Mm → Prop) (x1 : Int32) (x2 : Int32) (x3 : Int32) (x4 : Int32) (x5 : Int32) (M : Mm) (K : Int32 → Mm → Prop) : Prop := (((x1 + x5) = x2 → (vp_in ((x4 + (1 : Int32)) + x5) 148 ∧ (((M 170 (((x4 + (1 : Int32)) + x5)).toNatClampNeg) = (32 : Int32) → (K x3 M)) ∧ (¬ (M 170 (((x4 + (1 : Int32)) + x5)).toNatClampNeg) = (32 : Int32) → (T_X12_wordAt_88 B5 x1 x2 x3 x4 M K))))) ∧ (¬ (x1 + x5) = x2 → (T_X12_wordAt_88 B5 x1 x2 x3 x4 M K)))
set_option maxHeartbeats 4000000 in
set_option maxRecDepth 100000 in
theorem w_X12_wordAt_61 {p : Program} {l : Launch} {e : Env} {s : State} {m : MethodId} {args : Array Value} {below : List Frame} {meth : Method} {c : Code} {G : fx_G} {K : Int32 → Mm → Prop} {B5 : Int32 → Int32 → Int32 → Int32 → Mm → Prop} (X : fx_C G p s m c args cX12_wordAt 6 RX12) (hr : meth.sig.returnType = (some .int)) (hk : meth.locks = false) (hB5 : ∀ (x1 : Int32) (x2 : Int32) (x3 : Int32) (x4 : Int32) (M : Mm) (H : Heap) (locs : List Loc) (ls : Array Slot), B5 x1 x2 x3 x4 M → fx_H G SH M s H locs → lv_has ls 6 [(0, .ref (G.2.2.2 + 159)), (1, .int x1), (2, .int x2), (3, .int x3), (4, .int x4)] → W p l e (fx_rm (0)) s m args below meth c H locs 0 0 (MQ below (va_Qi K (fx_R G SH) (fx_A G)) args s 0 0 (fx_A G)) (F0 m 5 ls [])) : ∀ (x1 : Int32) (x2 : Int32) (x3 : Int32) (x4 : Int32) (x5 : Int32) (M : Mm) (H : Heap) (locs : List Loc) (ls : Array Slot), T_X12_wordAt_61 B5 x1 x2 x3 x4 x5 M K → fx_H G SH M s H locs → lv_has ls 6 [(0, .ref (G.2.2.2 + 159)), (1, .int x1), (2, .int x2), (3, .int x3), (4, .int x4), (5, .int x5)] → W p l e (fx_rm (0)) s m args below meth c H locs 0 0 (MQ below (va_Qi K (fx_R G SH) (fx_A G)) args s 0 0 (fx_A G)) (F0 m 61 ls []) := by
  obtain ⟨⟨hx, hb, hml, hown, hts⟩, hK, hQ⟩ := id X
  intro x1 x2 x3 x4 x5 M H locs ls hT h hl
  unfold T_X12_wordAt_61 at hT
  refine lv_iload_n hx hb dX12_wordAt_61 rfl (lv_at hl 1 rfl) ?_
  refine lv_iload hx hb dX12_wordAt_62 (lv_at hl 5 rfl) ?_
  refine lv_iadd hx hb dX12_wordAt_64 ?_
  refine lv_iload_n hx hb dX12_wordAt_65 rfl (lv_at hl 2 rfl) ?_
  refine lv_icmp_ne (tgt := 88) hx hb dX12_wordAt_66 (by decide) (fun hc5 => ?_) (fun hc5 => ?_)
  · have hT := hT.2 hc5
    exact w_X12_wordAt_88 X hr hk (B5 := B5) hB5 x1 x2 x3 x4 M _ _ ls hT h (lv_sub hl [0, 1, 2, 3, 4] rfl)
  · have hT := hT.1 hc5
    refine lv_aload_n hx hb dX12_wordAt_69 rfl (lv_at hl 0 rfl) ?_
    refine fx_getR X h (k := 159) (j := 20) (r := 170) sh_159 rfl fl_RX12_40 dX12_wordAt_70 ?_
    refine lv_iload hx hb dX12_wordAt_73 (lv_at hl 4 rfl) ?_
    refine lv_iconst (v := 1) hx hb dX12_wordAt_75 (by decide) ?_
    refine lv_iadd hx hb dX12_wordAt_76 ?_
    refine lv_iload hx hb dX12_wordAt_77 (lv_at hl 5 rfl) ?_
    refine lv_iadd hx hb dX12_wordAt_79 ?_
    obtain ⟨hi6, hT⟩ := hT
    refine fx_iald X h (k := 170) sh_170 hi6 dX12_wordAt_80 ?_
    refine lv_bipush (v := 32) hx hb dX12_wordAt_81 (by decide) ?_
    refine lv_icmp_ne (tgt := 88) hx hb dX12_wordAt_83 (by decide) (fun hc7 => ?_) (fun hc7 => ?_)
    · have hT := hT.2 hc7
      exact w_X12_wordAt_88 X hr hk (B5 := B5) hB5 x1 x2 x3 x4 M _ _ ls hT h (lv_sub hl [0, 1, 2, 3, 4] rfl)
    · have hT := hT.1 hc7
      refine lv_iload_n hx hb dX12_wordAt_86 rfl (lv_at hl 3 rfl) ?_
      exact fx_iret X hr hk h hT dX12_wordAt_87
def T_X12_wordAt_20 (B5 : Int32 → Int32 → Int32 → Int32 → Mm → Prop) : Nat → Int32 → Int32 → Int32 → Int32 → Int32 → Mm → (Int32 → Mm → Prop) → Prop
  | 0, _, _, _, _, _, _, _ => False
  | n + 1, x1, x2, x3, x4, x5, M, K => ((x2 ≤ (x1 + x5) → (T_X12_wordAt_61 B5 x1 x2 x3 x4 x5 M K)) ∧ (¬ x2 ≤ (x1 + x5) → (vp_in ((x4 + (1 : Int32)) + x5) 148 ∧ (vp_in (x1 + x5) 400 ∧ (((M 170 (((x4 + (1 : Int32)) + x5)).toNatClampNeg) = (M 169 ((x1 + x5)).toNatClampNeg) → (∀ y12 : Int32, y12 = (x5 + (1 : Int32)) → (T_X12_wordAt_20 B5 n x1 x2 x3 x4 y12 M K))) ∧ (¬ (M 170 (((x4 + (1 : Int32)) + x5)).toNatClampNeg) = (M 169 ((x1 + x5)).toNatClampNeg) → (T_X12_wordAt_61 B5 x1 x2 x3 x4 x5 M K)))))))
set_option maxHeartbeats 4000000 in
set_option maxRecDepth 100000 in
theorem w_X12_wordAt_20 {p : Program} {l : Launch} {e : Env} {s : State} {m : MethodId} {args : Array Value} {below : List Frame} {meth : Method} {c : Code} {G : fx_G} {K : Int32 → Mm → Prop} {B5 : Int32 → Int32 → Int32 → Int32 → Mm → Prop} (X : fx_C G p s m c args cX12_wordAt 6 RX12) (hr : meth.sig.returnType = (some .int)) (hk : meth.locks = false) (hB5 : ∀ (x1 : Int32) (x2 : Int32) (x3 : Int32) (x4 : Int32) (M : Mm) (H : Heap) (locs : List Loc) (ls : Array Slot), B5 x1 x2 x3 x4 M → fx_H G SH M s H locs → lv_has ls 6 [(0, .ref (G.2.2.2 + 159)), (1, .int x1), (2, .int x2), (3, .int x3), (4, .int x4)] → W p l e (fx_rm (0)) s m args below meth c H locs 0 0 (MQ below (va_Qi K (fx_R G SH) (fx_A G)) args s 0 0 (fx_A G)) (F0 m 5 ls [])) : ∀ (n : Nat) (x1 : Int32) (x2 : Int32) (x3 : Int32) (x4 : Int32) (x5 : Int32) (M : Mm) (H : Heap) (locs : List Loc) (ls : Array Slot), T_X12_wordAt_20 B5 n x1 x2 x3 x4 x5 M K → fx_H G SH M s H locs → lv_has ls 6 [(0, .ref (G.2.2.2 + 159)), (1, .int x1), (2, .int x2), (3, .int x3), (4, .int x4), (5, .int x5)] → W p l e (fx_rm (0)) s m args below meth c H locs 0 0 (MQ below (va_Qi K (fx_R G SH) (fx_A G)) args s 0 0 (fx_A G)) (F0 m 20 ls []) := by
  obtain ⟨⟨hx, hb, hml, hown, hts⟩, hK, hQ⟩ := id X
  intro n
  induction n with
  | zero =>
    intro x1 x2 x3 x4 x5 M H locs ls hT
    exact hT.elim
  | succ n ih =>
    intro x1 x2 x3 x4 x5 M H locs ls hT h hl
    rw [T_X12_wordAt_20] at hT
    refine lv_iload_n hx hb dX12_wordAt_20 rfl (lv_at hl 1 rfl) ?_
    refine lv_iload hx hb dX12_wordAt_21 (lv_at hl 5 rfl) ?_
    refine lv_iadd hx hb dX12_wordAt_23 ?_
    refine lv_iload_n hx hb dX12_wordAt_24 rfl (lv_at hl 2 rfl) ?_
    refine lv_icmp_ge (tgt := 61) hx hb dX12_wordAt_25 (by decide) (fun hc8 => ?_) (fun hc8 => ?_)
    · have hT := hT.1 hc8
      exact w_X12_wordAt_61 X hr hk (B5 := B5) hB5 x1 x2 x3 x4 x5 M _ _ ls hT h (lv_sub hl [0, 1, 2, 3, 4, 5] rfl)
    · have hT := hT.2 hc8
      refine lv_aload_n hx hb dX12_wordAt_28 rfl (lv_at hl 0 rfl) ?_
      refine fx_getR X h (k := 159) (j := 20) (r := 170) sh_159 rfl fl_RX12_40 dX12_wordAt_29 ?_
      refine lv_iload hx hb dX12_wordAt_32 (lv_at hl 4 rfl) ?_
      refine lv_iconst (v := 1) hx hb dX12_wordAt_34 (by decide) ?_
      refine lv_iadd hx hb dX12_wordAt_35 ?_
      refine lv_iload hx hb dX12_wordAt_36 (lv_at hl 5 rfl) ?_
      refine lv_iadd hx hb dX12_wordAt_38 ?_
      obtain ⟨hi9, hT⟩ := hT
      refine fx_iald X h (k := 170) sh_170 hi9 dX12_wordAt_39 ?_
      refine lv_aload_n hx hb dX12_wordAt_40 rfl (lv_at hl 0 rfl) ?_
      refine fx_getR X h (k := 159) (j := 14) (r := 169) sh_159 rfl fl_RX12_37 dX12_wordAt_41 ?_
      refine lv_iload_n hx hb dX12_wordAt_44 rfl (lv_at hl 1 rfl) ?_
      refine lv_iload hx hb dX12_wordAt_45 (lv_at hl 5 rfl) ?_
      refine lv_iadd hx hb dX12_wordAt_47 ?_
      obtain ⟨hi10, hT⟩ := hT
      refine fx_iald X h (k := 169) sh_169 hi10 dX12_wordAt_48 ?_
      refine lv_icmp_ne (tgt := 61) hx hb dX12_wordAt_49 (by decide) (fun hc11 => ?_) (fun hc11 => ?_)
      · have hT := hT.2 hc11
        exact w_X12_wordAt_61 X hr hk (B5 := B5) hB5 x1 x2 x3 x4 x5 M _ _ ls hT h (lv_sub hl [0, 1, 2, 3, 4, 5] rfl)
      · have hT := hT.1 hc11
        refine lv_iload hx hb dX12_wordAt_52 (lv_at hl 5 rfl) ?_
        refine lv_iconst (v := 1) hx hb dX12_wordAt_54 (by decide) ?_
        refine lv_iadd hx hb dX12_wordAt_55 ?_
        refine lv_topi (fun y12 ey12 => ?_)
        have hT := hT y12 ey12
        refine lv_istore (lv' := [(5, .int y12), (0, .ref (G.2.2.2 + 159)), (1, .int x1), (2, .int x2), (3, .int x3), (4, .int x4)]) hx hb dX12_wordAt_56 hl (by decide) rfl (fun ls hl => ?_)
        refine lv_goto (tgt := 20) hx hb dX12_wordAt_58 (by decide) ?_
        exact ih x1 x2 x3 x4 y12 M _ _ ls hT h (lv_sub hl [1, 2, 3, 4, 5, 0] rfl)
def T_X12_wordAt_5 : Nat → Int32 → Int32 → Int32 → Int32 → Mm → (Int32 → Mm → Prop) → Prop
  | 0, _, _, _, _, _, _ => False
  | n + 1, x1, x2, x3, x4, M, K => (((147 : Int32) ≤ x4 → (K (-1 : Int32) M)) ∧ (¬ (147 : Int32) ≤ x4 → (∀ y14 : Int32, y14 = (x3 + (1 : Int32)) → (T_X12_wordAt_20 (fun x1 x2 x3 x4 M => T_X12_wordAt_5 n x1 x2 x3 x4 M K) 5000 x1 x2 y14 x4 (0 : Int32) M K))))
set_option maxHeartbeats 4000000 in
set_option maxRecDepth 100000 in
theorem w_X12_wordAt_5 {p : Program} {l : Launch} {e : Env} {s : State} {m : MethodId} {args : Array Value} {below : List Frame} {meth : Method} {c : Code} {G : fx_G} {K : Int32 → Mm → Prop} (X : fx_C G p s m c args cX12_wordAt 6 RX12) (hr : meth.sig.returnType = (some .int)) (hk : meth.locks = false) : ∀ (n : Nat) (x1 : Int32) (x2 : Int32) (x3 : Int32) (x4 : Int32) (M : Mm) (H : Heap) (locs : List Loc) (ls : Array Slot), T_X12_wordAt_5 n x1 x2 x3 x4 M K → fx_H G SH M s H locs → lv_has ls 6 [(0, .ref (G.2.2.2 + 159)), (1, .int x1), (2, .int x2), (3, .int x3), (4, .int x4)] → W p l e (fx_rm (0)) s m args below meth c H locs 0 0 (MQ below (va_Qi K (fx_R G SH) (fx_A G)) args s 0 0 (fx_A G)) (F0 m 5 ls []) := by
  obtain ⟨⟨hx, hb, hml, hown, hts⟩, hK, hQ⟩ := id X
  intro n
  induction n with
  | zero =>
    intro x1 x2 x3 x4 M H locs ls hT
    exact hT.elim
  | succ n ih =>
    intro x1 x2 x3 x4 M H locs ls hT h hl
    rw [T_X12_wordAt_5] at hT
    refine lv_iload hx hb dX12_wordAt_5 (lv_at hl 4 rfl) ?_
    refine lv_sipush (v := 147) hx hb dX12_wordAt_7 (by decide) ?_
    refine lv_icmp_ge (tgt := 118) hx hb dX12_wordAt_10 (by decide) (fun hc13 => ?_) (fun hc13 => ?_)
    · have hT := hT.1 hc13
      refine lv_iconst (v := -1) hx hb dX12_wordAt_118 (by decide) ?_
      exact fx_iret X hr hk h hT dX12_wordAt_119
    · have hT := hT.2 hc13
      refine lv_iconst (v := 0) hx hb dX12_wordAt_13 (by decide) ?_
      refine lv_istore (lv' := [(5, .int (0 : Int32)), (0, .ref (G.2.2.2 + 159)), (1, .int x1), (2, .int x2), (3, .int x3), (4, .int x4)]) hx hb dX12_wordAt_14 hl (by decide) rfl (fun ls hl => ?_)
      refine lv_iload_n hx hb dX12_wordAt_16 rfl (lv_at hl 4 rfl) ?_
      refine lv_iconst (v := 1) hx hb dX12_wordAt_17 (by decide) ?_
      refine lv_iadd hx hb dX12_wordAt_18 ?_
      refine lv_topi (fun y14 ey14 => ?_)
      have hT := hT y14 ey14
      refine lv_istore_n (lv' := [(3, .int y14), (5, .int (0 : Int32)), (0, .ref (G.2.2.2 + 159)), (1, .int x1), (2, .int x2), (4, .int x4)]) hx hb dX12_wordAt_19 rfl hl (by decide) rfl (fun ls hl => ?_)
      exact w_X12_wordAt_20 X hr hk (B5 := (fun x1 x2 x3 x4 M => T_X12_wordAt_5 n x1 x2 x3 x4 M K)) ih 5000 x1 x2 y14 x4 (0 : Int32) M _ _ ls hT h (lv_sub hl [2, 3, 4, 0, 5, 1] rfl)
def T_X12_wordAt (x1 : Int32) (x2 : Int32) (M : Mm) (K : Int32 → Mm → Prop) : Prop := (T_X12_wordAt_5 5000 x1 x2 (-1 : Int32) (0 : Int32) M K)
set_option maxHeartbeats 4000000 in
set_option maxRecDepth 100000 in
theorem c_X12_wordAt (l : Launch) (G : fx_G) {x1 : Int32} {x2 : Int32} {M : Mm} {K : Int32 → Mm → Prop} (hT : T_X12_wordAt x1 x2 M K) : Met l yX12_wordAt (fx_ws yX12_wordAt cX12_wordAt 6 (some .int)) (fx_rm (0)) (va_Pc [.ref (G.2.2.2 + 159), .int x1, .int x2] (fx_P G SH M)) (va_Qi K (fx_R G SH) (fx_A G)) 0 0 (fx_A G) := by
  refine fx_met (own := RX12) (by decide +kernel) rfl (Nat.le_of_ble_eq_true rfl) (fun p e s m below meth c X hr hk h ls hl => ?_)
  obtain ⟨⟨hx, hb, hml, hown, hts⟩, hK, hQ⟩ := id X
  have hl : lv_has ls 6 [(0, .ref (G.2.2.2 + 159)), (1, .int x1), (2, .int x2)] := hl
  unfold T_X12_wordAt at hT
  refine lv_iconst (v := -1) hx hb dX12_wordAt_0 (by decide) ?_
  refine lv_istore_n (lv' := [(3, .int (-1 : Int32)), (0, .ref (G.2.2.2 + 159)), (1, .int x1), (2, .int x2)]) hx hb dX12_wordAt_1 rfl hl (by decide) rfl (fun ls hl => ?_)
  refine lv_iconst (v := 0) hx hb dX12_wordAt_2 (by decide) ?_
  refine lv_istore (lv' := [(4, .int (0 : Int32)), (3, .int (-1 : Int32)), (0, .ref (G.2.2.2 + 159)), (1, .int x1), (2, .int x2)]) hx hb dX12_wordAt_3 hl (by decide) rfl (fun ls hl => ?_)
  exact w_X12_wordAt_5 X hr hk 5000 x1 x2 (-1 : Int32) (0 : Int32) M _ _ ls hT h (lv_sub hl [2, 3, 4, 1, 0] rfl)
/-! MockParcelsModel.reads()V -/
theorem dX12_reads_0 : decode cX12_reads 0 = .ok (.aload_n 0, 1) := by decide +kernel
theorem dX12_reads_1 : decode cX12_reads 1 = .ok (.aload_n 0, 1) := by decide +kernel
theorem dX12_reads_2 : decode cX12_reads 2 = .ok (.getfield 178, 3) := by decide +kernel
theorem dX12_reads_5 : decode cX12_reads 5 = .ok (.invokevirtual 181, 3) := by decide +kernel
theorem dX12_reads_8 : decode cX12_reads 8 = .ok (.bipush 32, 2) := by decide +kernel
theorem dX12_reads_10 : decode cX12_reads 10 = .ok (.if_icmp .eq 16, 3) := by decide +kernel
theorem dX12_reads_13 : decode cX12_reads 13 = .ok (.aload_n 0, 1) := by decide +kernel
theorem dX12_reads_14 : decode cX12_reads 14 = .ok (.aload_n 0, 1) := by decide +kernel
theorem dX12_reads_15 : decode cX12_reads 15 = .ok (.getfield 178, 3) := by decide +kernel
theorem dX12_reads_18 : decode cX12_reads 18 = .ok (.invokevirtual 181, 3) := by decide +kernel
theorem dX12_reads_21 : decode cX12_reads 21 = .ok (.bipush 10, 2) := by decide +kernel
theorem dX12_reads_23 : decode cX12_reads 23 = .ok (.if_icmp .ne 16, 3) := by decide +kernel
theorem dX12_reads_26 : decode cX12_reads 26 = .ok (.aload_n 0, 1) := by decide +kernel
theorem dX12_reads_27 : decode cX12_reads 27 = .ok (.aload_n 0, 1) := by decide +kernel
theorem dX12_reads_28 : decode cX12_reads 28 = .ok (.getfield 178, 3) := by decide +kernel
theorem dX12_reads_31 : decode cX12_reads 31 = .ok (.iconst 1, 1) := by decide +kernel
theorem dX12_reads_32 : decode cX12_reads 32 = .ok (.iadd, 1) := by decide +kernel
theorem dX12_reads_33 : decode cX12_reads 33 = .ok (.putfield 178, 3) := by decide +kernel
theorem dX12_reads_36 : decode cX12_reads 36 = .ok (.goto (-36), 3) := by decide +kernel
theorem dX12_reads_39 : decode cX12_reads 39 = .ok (.aload_n 0, 1) := by decide +kernel
theorem dX12_reads_40 : decode cX12_reads 40 = .ok (.aload_n 0, 1) := by decide +kernel
theorem dX12_reads_41 : decode cX12_reads 41 = .ok (.getfield 178, 3) := by decide +kernel
theorem dX12_reads_44 : decode cX12_reads 44 = .ok (.putfield 185, 3) := by decide +kernel
theorem dX12_reads_47 : decode cX12_reads 47 = .ok (.aload_n 0, 1) := by decide +kernel
theorem dX12_reads_48 : decode cX12_reads 48 = .ok (.iconst 1, 1) := by decide +kernel
theorem dX12_reads_49 : decode cX12_reads 49 = .ok (.putfield 188, 3) := by decide +kernel
theorem dX12_reads_52 : decode cX12_reads 52 = .ok (.aload_n 0, 1) := by decide +kernel
theorem dX12_reads_53 : decode cX12_reads 53 = .ok (.aload_n 0, 1) := by decide +kernel
theorem dX12_reads_54 : decode cX12_reads 54 = .ok (.getfield 178, 3) := by decide +kernel
theorem dX12_reads_57 : decode cX12_reads 57 = .ok (.invokevirtual 181, 3) := by decide +kernel
theorem dX12_reads_60 : decode cX12_reads 60 = .ok (.istore_n 1, 1) := by decide +kernel
theorem dX12_reads_61 : decode cX12_reads 61 = .ok (.iload_n 1, 1) := by decide +kernel
theorem dX12_reads_62 : decode cX12_reads 62 = .ok (.iconst (-1), 1) := by decide +kernel
theorem dX12_reads_63 : decode cX12_reads 63 = .ok (.if_icmp .ne 9, 3) := by decide +kernel
theorem dX12_reads_66 : decode cX12_reads 66 = .ok (.aload_n 0, 1) := by decide +kernel
theorem dX12_reads_67 : decode cX12_reads 67 = .ok (.iconst 0, 1) := by decide +kernel
theorem dX12_reads_68 : decode cX12_reads 68 = .ok (.putfield 188, 3) := by decide +kernel
theorem dX12_reads_71 : decode cX12_reads 71 = .ok (.return_, 1) := by decide +kernel
theorem dX12_reads_72 : decode cX12_reads 72 = .ok (.aload_n 0, 1) := by decide +kernel
theorem dX12_reads_73 : decode cX12_reads 73 = .ok (.aload_n 0, 1) := by decide +kernel
theorem dX12_reads_74 : decode cX12_reads 74 = .ok (.getfield 178, 3) := by decide +kernel
theorem dX12_reads_77 : decode cX12_reads 77 = .ok (.iconst 1, 1) := by decide +kernel
theorem dX12_reads_78 : decode cX12_reads 78 = .ok (.iadd, 1) := by decide +kernel
theorem dX12_reads_79 : decode cX12_reads 79 = .ok (.putfield 178, 3) := by decide +kernel
theorem dX12_reads_82 : decode cX12_reads 82 = .ok (.aload_n 0, 1) := by decide +kernel
theorem dX12_reads_83 : decode cX12_reads 83 = .ok (.iload_n 1, 1) := by decide +kernel
theorem dX12_reads_84 : decode cX12_reads 84 = .ok (.putfield 191, 3) := by decide +kernel
theorem dX12_reads_87 : decode cX12_reads 87 = .ok (.aload_n 0, 1) := by decide +kernel
theorem dX12_reads_88 : decode cX12_reads 88 = .ok (.iload_n 1, 1) := by decide +kernel
theorem dX12_reads_89 : decode cX12_reads 89 = .ok (.invokevirtual 194, 3) := by decide +kernel
theorem dX12_reads_92 : decode cX12_reads 92 = .ok (.ifCond .eq 63, 3) := by decide +kernel
theorem dX12_reads_95 : decode cX12_reads 95 = .ok (.aload_n 0, 1) := by decide +kernel
theorem dX12_reads_96 : decode cX12_reads 96 = .ok (.aload_n 0, 1) := by decide +kernel
theorem dX12_reads_97 : decode cX12_reads 97 = .ok (.aload_n 0, 1) := by decide +kernel
theorem dX12_reads_98 : decode cX12_reads 98 = .ok (.getfield 178, 3) := by decide +kernel
theorem dX12_reads_101 : decode cX12_reads 101 = .ok (.invokevirtual 181, 3) := by decide +kernel
theorem dX12_reads_104 : decode cX12_reads 104 = .ok (.invokevirtual 194, 3) := by decide +kernel
theorem dX12_reads_107 : decode cX12_reads 107 = .ok (.ifCond .eq 16, 3) := by decide +kernel
theorem dX12_reads_110 : decode cX12_reads 110 = .ok (.aload_n 0, 1) := by decide +kernel
theorem dX12_reads_111 : decode cX12_reads 111 = .ok (.aload_n 0, 1) := by decide +kernel
theorem dX12_reads_112 : decode cX12_reads 112 = .ok (.getfield 178, 3) := by decide +kernel
theorem dX12_reads_115 : decode cX12_reads 115 = .ok (.iconst 1, 1) := by decide +kernel
theorem dX12_reads_116 : decode cX12_reads 116 = .ok (.iadd, 1) := by decide +kernel
theorem dX12_reads_117 : decode cX12_reads 117 = .ok (.putfield 178, 3) := by decide +kernel
theorem dX12_reads_120 : decode cX12_reads 120 = .ok (.goto (-25), 3) := by decide +kernel
theorem dX12_reads_123 : decode cX12_reads 123 = .ok (.aload_n 0, 1) := by decide +kernel
theorem dX12_reads_124 : decode cX12_reads 124 = .ok (.aload_n 0, 1) := by decide +kernel
theorem dX12_reads_125 : decode cX12_reads 125 = .ok (.aload_n 0, 1) := by decide +kernel
theorem dX12_reads_126 : decode cX12_reads 126 = .ok (.getfield 185, 3) := by decide +kernel
theorem dX12_reads_129 : decode cX12_reads 129 = .ok (.aload_n 0, 1) := by decide +kernel
theorem dX12_reads_130 : decode cX12_reads 130 = .ok (.getfield 178, 3) := by decide +kernel
theorem dX12_reads_133 : decode cX12_reads 133 = .ok (.invokevirtual 197, 3) := by decide +kernel
theorem dX12_reads_136 : decode cX12_reads 136 = .ok (.putfield 191, 3) := by decide +kernel
theorem dX12_reads_139 : decode cX12_reads 139 = .ok (.aload_n 0, 1) := by decide +kernel
theorem dX12_reads_140 : decode cX12_reads 140 = .ok (.getfield 191, 3) := by decide +kernel
theorem dX12_reads_143 : decode cX12_reads 143 = .ok (.iconst (-1), 1) := by decide +kernel
theorem dX12_reads_144 : decode cX12_reads 144 = .ok (.if_icmp .eq 129, 3) := by decide +kernel
theorem dX12_reads_147 : decode cX12_reads 147 = .ok (.aload_n 0, 1) := by decide +kernel
theorem dX12_reads_148 : decode cX12_reads 148 = .ok (.iconst 2, 1) := by decide +kernel
theorem dX12_reads_149 : decode cX12_reads 149 = .ok (.putfield 188, 3) := by decide +kernel
theorem dX12_reads_152 : decode cX12_reads 152 = .ok (.goto 121, 3) := by decide +kernel
theorem dX12_reads_155 : decode cX12_reads 155 = .ok (.aload_n 0, 1) := by decide +kernel
theorem dX12_reads_156 : decode cX12_reads 156 = .ok (.iload_n 1, 1) := by decide +kernel
theorem dX12_reads_157 : decode cX12_reads 157 = .ok (.invokevirtual 200, 3) := by decide +kernel
theorem dX12_reads_160 : decode cX12_reads 160 = .ok (.ifCond .eq 100, 3) := by decide +kernel
theorem dX12_reads_163 : decode cX12_reads 163 = .ok (.aload_n 0, 1) := by decide +kernel
theorem dX12_reads_164 : decode cX12_reads 164 = .ok (.iload_n 1, 1) := by decide +kernel
theorem dX12_reads_165 : decode cX12_reads 165 = .ok (.bipush 48, 2) := by decide +kernel
theorem dX12_reads_167 : decode cX12_reads 167 = .ok (.isub, 1) := by decide +kernel
theorem dX12_reads_168 : decode cX12_reads 168 = .ok (.putfield 191, 3) := by decide +kernel
theorem dX12_reads_171 : decode cX12_reads 171 = .ok (.aload_n 0, 1) := by decide +kernel
theorem dX12_reads_172 : decode cX12_reads 172 = .ok (.aload_n 0, 1) := by decide +kernel
theorem dX12_reads_173 : decode cX12_reads 173 = .ok (.aload_n 0, 1) := by decide +kernel
theorem dX12_reads_174 : decode cX12_reads 174 = .ok (.getfield 178, 3) := by decide +kernel
theorem dX12_reads_177 : decode cX12_reads 177 = .ok (.invokevirtual 181, 3) := by decide +kernel
theorem dX12_reads_180 : decode cX12_reads 180 = .ok (.invokevirtual 200, 3) := by decide +kernel
theorem dX12_reads_183 : decode cX12_reads 183 = .ok (.ifCond .eq 56, 3) := by decide +kernel
theorem dX12_reads_186 : decode cX12_reads 186 = .ok (.aload_n 0, 1) := by decide +kernel
theorem dX12_reads_187 : decode cX12_reads 187 = .ok (.aload_n 0, 1) := by decide +kernel
theorem dX12_reads_188 : decode cX12_reads 188 = .ok (.getfield 191, 3) := by decide +kernel
theorem dX12_reads_191 : decode cX12_reads 191 = .ok (.sipush 10000, 3) := by decide +kernel
theorem dX12_reads_194 : decode cX12_reads 194 = .ok (.if_icmp .ge 25, 3) := by decide +kernel
theorem dX12_reads_197 : decode cX12_reads 197 = .ok (.bipush 10, 2) := by decide +kernel
theorem dX12_reads_199 : decode cX12_reads 199 = .ok (.aload_n 0, 1) := by decide +kernel
theorem dX12_reads_200 : decode cX12_reads 200 = .ok (.getfield 191, 3) := by decide +kernel
theorem dX12_reads_203 : decode cX12_reads 203 = .ok (.imul, 1) := by decide +kernel
theorem dX12_reads_204 : decode cX12_reads 204 = .ok (.aload_n 0, 1) := by decide +kernel
theorem dX12_reads_205 : decode cX12_reads 205 = .ok (.aload_n 0, 1) := by decide +kernel
theorem dX12_reads_206 : decode cX12_reads 206 = .ok (.getfield 178, 3) := by decide +kernel
theorem dX12_reads_209 : decode cX12_reads 209 = .ok (.invokevirtual 181, 3) := by decide +kernel
theorem dX12_reads_212 : decode cX12_reads 212 = .ok (.iadd, 1) := by decide +kernel
theorem dX12_reads_213 : decode cX12_reads 213 = .ok (.bipush 48, 2) := by decide +kernel
theorem dX12_reads_215 : decode cX12_reads 215 = .ok (.isub, 1) := by decide +kernel
theorem dX12_reads_216 : decode cX12_reads 216 = .ok (.goto 7, 3) := by decide +kernel
theorem dX12_reads_219 : decode cX12_reads 219 = .ok (.aload_n 0, 1) := by decide +kernel
theorem dX12_reads_220 : decode cX12_reads 220 = .ok (.getfield 191, 3) := by decide +kernel
theorem dX12_reads_223 : decode cX12_reads 223 = .ok (.putfield 191, 3) := by decide +kernel
theorem dX12_reads_226 : decode cX12_reads 226 = .ok (.aload_n 0, 1) := by decide +kernel
theorem dX12_reads_227 : decode cX12_reads 227 = .ok (.aload_n 0, 1) := by decide +kernel
theorem dX12_reads_228 : decode cX12_reads 228 = .ok (.getfield 178, 3) := by decide +kernel
theorem dX12_reads_231 : decode cX12_reads 231 = .ok (.iconst 1, 1) := by decide +kernel
theorem dX12_reads_232 : decode cX12_reads 232 = .ok (.iadd, 1) := by decide +kernel
theorem dX12_reads_233 : decode cX12_reads 233 = .ok (.putfield 178, 3) := by decide +kernel
theorem dX12_reads_236 : decode cX12_reads 236 = .ok (.goto (-65), 3) := by decide +kernel
theorem dX12_reads_239 : decode cX12_reads 239 = .ok (.aload_n 0, 1) := by decide +kernel
theorem dX12_reads_240 : decode cX12_reads 240 = .ok (.getfield 178, 3) := by decide +kernel
theorem dX12_reads_243 : decode cX12_reads 243 = .ok (.aload_n 0, 1) := by decide +kernel
theorem dX12_reads_244 : decode cX12_reads 244 = .ok (.getfield 185, 3) := by decide +kernel
theorem dX12_reads_247 : decode cX12_reads 247 = .ok (.isub, 1) := by decide +kernel
theorem dX12_reads_248 : decode cX12_reads 248 = .ok (.iconst 5, 1) := by decide +kernel
theorem dX12_reads_249 : decode cX12_reads 249 = .ok (.if_icmp .ge 24, 3) := by decide +kernel
theorem dX12_reads_252 : decode cX12_reads 252 = .ok (.aload_n 0, 1) := by decide +kernel
theorem dX12_reads_253 : decode cX12_reads 253 = .ok (.iconst 3, 1) := by decide +kernel
theorem dX12_reads_254 : decode cX12_reads 254 = .ok (.putfield 188, 3) := by decide +kernel
theorem dX12_reads_257 : decode cX12_reads 257 = .ok (.goto 16, 3) := by decide +kernel
theorem dX12_reads_260 : decode cX12_reads 260 = .ok (.aload_n 0, 1) := by decide +kernel
theorem dX12_reads_261 : decode cX12_reads 261 = .ok (.iload_n 1, 1) := by decide +kernel
theorem dX12_reads_262 : decode cX12_reads 262 = .ok (.invokevirtual 203, 3) := by decide +kernel
theorem dX12_reads_265 : decode cX12_reads 265 = .ok (.ifCond .eq 8, 3) := by decide +kernel
theorem dX12_reads_268 : decode cX12_reads 268 = .ok (.aload_n 0, 1) := by decide +kernel
theorem dX12_reads_269 : decode cX12_reads 269 = .ok (.iconst 4, 1) := by decide +kernel
theorem dX12_reads_270 : decode cX12_reads 270 = .ok (.putfield 188, 3) := by decide +kernel
theorem dX12_reads_273 : decode cX12_reads 273 = .ok (.return_, 1) := by decide +kernel
def T_X12_reads_26 (B0 : Mm → Prop) (M : Mm) (K : Mm → Prop) : Prop := (∀ M1 : Mm, M1 = m_up M 159 16 ((M 159 16) + (1 : Int32)) → (B0 M1))
set_option maxHeartbeats 4000000 in
set_option maxRecDepth 100000 in
theorem w_X12_reads_26 {p : Program} {l : Launch} {e : Env} {s : State} {m : MethodId} {args : Array Value} {below : List Frame} {meth : Method} {c : Code} {G : fx_G} {K : Mm → Prop} {B0 : Mm → Prop} (X : fx_C G p s m c args cX12_reads 2 RX12) (hr : meth.sig.returnType = none) (hk : meth.locks = false) (hB0 : ∀ (M : Mm) (H : Heap) (locs : List Loc) (ls : Array Slot), B0  M → fx_H G SH M s H locs → lv_has ls 2 [(0, .ref (G.2.2.2 + 159))] → W p l e (fx_rm (2)) s m args below meth c H locs 0 0 (MQ below (va_Qv K (fx_R G SH) (fx_A G)) args s 0 0 (fx_A G)) (F0 m 0 ls [])) : ∀ (M : Mm) (H : Heap) (locs : List Loc) (ls : Array Slot), T_X12_reads_26 B0  M K → fx_H G SH M s H locs → lv_has ls 2 [(0, .ref (G.2.2.2 + 159))] → W p l e (fx_rm (2)) s m args below meth c H locs 0 0 (MQ below (va_Qv K (fx_R G SH) (fx_A G)) args s 0 0 (fx_A G)) (F0 m 26 ls []) := by
  obtain ⟨⟨hx, hb, hml, hown, hts⟩, hK, hQ⟩ := id X
  intro  M H locs ls hT h hl
  unfold T_X12_reads_26 at hT
  refine lv_aload_n hx hb dX12_reads_26 rfl (lv_at hl 0 rfl) ?_
  refine lv_aload_n hx hb dX12_reads_27 rfl (lv_at hl 0 rfl) ?_
  refine fx_getI X h (k := 159) (j := 16) sh_159 rfl fl_RX12_178 dX12_reads_28 ?_
  refine lv_iconst (v := 1) hx hb dX12_reads_31 (by decide) ?_
  refine lv_iadd hx hb dX12_reads_32 ?_
  refine fx_putI X h (k := 159) (j := 16) sh_159 rfl fl_RX12_178 dX12_reads_33 (fun H locs h => ?_)
  obtain ⟨M1, eM1⟩ : ∃ z : Mm, z = m_up M 159 16 ((M 159 16) + (1 : Int32)) := ⟨_, rfl⟩
  have hT := hT M1 eM1
  rw [← eM1] at h
  refine lv_goto (tgt := 0) hx hb dX12_reads_36 (by decide) ?_
  exact hB0 M1 _ _ ls hT h (lv_sub hl [0] rfl)
def T_X12_reads_223 (B171 : Mm → Prop) (s1 : Int32) (M : Mm) (K : Mm → Prop) : Prop := (∀ M2 : Mm, M2 = m_up M 159 19 s1 → (∀ M3 : Mm, M3 = m_up M2 159 16 ((M2 159 16) + (1 : Int32)) → (B171 M3)))
set_option maxHeartbeats 4000000 in
set_option maxRecDepth 100000 in
theorem w_X12_reads_223 {p : Program} {l : Launch} {e : Env} {s : State} {m : MethodId} {args : Array Value} {below : List Frame} {meth : Method} {c : Code} {G : fx_G} {K : Mm → Prop} {B171 : Mm → Prop} (X : fx_C G p s m c args cX12_reads 2 RX12) (hr : meth.sig.returnType = none) (hk : meth.locks = false) (hB171 : ∀ (M : Mm) (H : Heap) (locs : List Loc) (ls : Array Slot), B171  M → fx_H G SH M s H locs → lv_has ls 2 [(0, .ref (G.2.2.2 + 159))] → W p l e (fx_rm (2)) s m args below meth c H locs 0 0 (MQ below (va_Qv K (fx_R G SH) (fx_A G)) args s 0 0 (fx_A G)) (F0 m 171 ls [])) : ∀ (s1 : Int32) (M : Mm) (H : Heap) (locs : List Loc) (ls : Array Slot), T_X12_reads_223 B171 s1 M K → fx_H G SH M s H locs → lv_has ls 2 [(0, .ref (G.2.2.2 + 159))] → W p l e (fx_rm (2)) s m args below meth c H locs 0 0 (MQ below (va_Qv K (fx_R G SH) (fx_A G)) args s 0 0 (fx_A G)) (F0 m 223 ls [.int s1, .ref (G.2.2.2 + 159)]) := by
  obtain ⟨⟨hx, hb, hml, hown, hts⟩, hK, hQ⟩ := id X
  intro s1 M H locs ls hT h hl
  unfold T_X12_reads_223 at hT
  refine fx_putI X h (k := 159) (j := 19) sh_159 rfl fl_RX12_191 dX12_reads_223 (fun H locs h => ?_)
  obtain ⟨M2, eM2⟩ : ∃ z : Mm, z = m_up M 159 19 s1 := ⟨_, rfl⟩
  have hT := hT M2 eM2
  rw [← eM2] at h
  refine lv_aload_n hx hb dX12_reads_226 rfl (lv_at hl 0 rfl) ?_
  refine lv_aload_n hx hb dX12_reads_227 rfl (lv_at hl 0 rfl) ?_
  refine fx_getI X h (k := 159) (j := 16) sh_159 rfl fl_RX12_178 dX12_reads_228 ?_
  refine lv_iconst (v := 1) hx hb dX12_reads_231 (by decide) ?_
  refine lv_iadd hx hb dX12_reads_232 ?_
  refine fx_putI X h (k := 159) (j := 16) sh_159 rfl fl_RX12_178 dX12_reads_233 (fun H locs h => ?_)
  obtain ⟨M3, eM3⟩ : ∃ z : Mm, z = m_up M2 159 16 ((M2 159 16) + (1 : Int32)) := ⟨_, rfl⟩
  have hT := hT M3 eM3
  rw [← eM3] at h
  refine lv_goto (tgt := 171) hx hb dX12_reads_236 (by decide) ?_
  exact hB171 M3 _ _ ls hT h (lv_sub hl [0] rfl)
def T_X12_reads_171 : Nat → Mm → (Mm → Prop) → Prop
  | 0, _, _ => False
  | n + 1, M, K => (T_X12_raw (M 159 16) M (fun r6 M5 => (T_X12_isDigit r6 M5 (fun r9 M8 => ((r9 = 0 → (((5 : Int32) ≤ ((M8 159 16) - (M8 159 17)) → (K M8)) ∧ (¬ (5 : Int32) ≤ ((M8 159 16) - (M8 159 17)) → (∀ M12 : Mm, M12 = m_up M8 159 18 (3 : Int32) → (K M12))))) ∧ (¬ r9 = 0 → (((10000 : Int32) ≤ (M8 159 19) → (T_X12_reads_223 (fun  M => T_X12_reads_171 n  M K) (M8 159 19) M8 K)) ∧ (¬ (10000 : Int32) ≤ (M8 159 19) → (T_X12_raw (M8 159 16) M8 (fun r16 M15 => (T_X12_reads_223 (fun  M => T_X12_reads_171 n  M K) ((((10 : Int32) * (M8 159 19)) + r16) - (48 : Int32)) M15 K)))))))))))
set_option maxHeartbeats 4000000 in
set_option maxRecDepth 100000 in
theorem w_X12_reads_171 {p : Program} {l : Launch} {e : Env} {s : State} {m : MethodId} {args : Array Value} {below : List Frame} {meth : Method} {c : Code} {G : fx_G} {K : Mm → Prop} (X : fx_C G p s m c args cX12_reads 2 RX12) (hr : meth.sig.returnType = none) (hk : meth.locks = false) : ∀ (n : Nat) (M : Mm) (H : Heap) (locs : List Loc) (ls : Array Slot), T_X12_reads_171 n  M K → fx_H G SH M s H locs → lv_has ls 2 [(0, .ref (G.2.2.2 + 159))] → W p l e (fx_rm (2)) s m args below meth c H locs 0 0 (MQ below (va_Qv K (fx_R G SH) (fx_A G)) args s 0 0 (fx_A G)) (F0 m 171 ls []) := by
  obtain ⟨⟨hx, hb, hml, hown, hts⟩, hK, hQ⟩ := id X
  intro n
  induction n with
  | zero =>
    intro  M H locs ls hT
    exact hT.elim
  | succ n ih =>
    intro  M H locs ls hT h hl
    rw [T_X12_reads_171] at hT
    refine lv_aload_n hx hb dX12_reads_171 rfl (lv_at hl 0 rfl) ?_
    refine lv_aload_n hx hb dX12_reads_172 rfl (lv_at hl 0 rfl) ?_
    refine lv_aload_n hx hb dX12_reads_173 rfl (lv_at hl 0 rfl) ?_
    refine fx_getI X h (k := 159) (j := 16) sh_159 rfl fl_RX12_178 dX12_reads_174 ?_
    refine fx_vi X h ym_X12_raw yi_X12_raw ys_X12_raw (fx_s7 (List.mem_of_getElem? (i := 125) rfl) rfl) sh_159 rfl (c_X12_raw l G hT) (As := [.int (M 159 16)]) (rest := [.ref (G.2.2.2 + 159)]) rfl rfl ⟨Nat.le_of_ble_eq_true rfl, Nat.le_of_ble_eq_true rfl⟩ ⟨Nat.le_refl _, Nat.le_refl _⟩ hl.1 (Nat.le_of_ble_eq_true rfl) dX12_reads_177 (fun r6 M5 H locs hT h => ?_)
    refine fx_vi X h ym_X12_isDigit yi_X12_isDigit ys_X12_isDigit (fx_s7 (List.mem_of_getElem? (i := 137) rfl) rfl) sh_159 rfl (c_X12_isDigit l G hT) (As := [.int r6]) (rest := []) rfl rfl ⟨Nat.le_of_ble_eq_true rfl, Nat.le_of_ble_eq_true rfl⟩ ⟨Nat.le_refl _, Nat.le_refl _⟩ hl.1 (Nat.le_of_ble_eq_true rfl) dX12_reads_180 (fun r9 M8 H locs hT h => ?_)
    refine lv_if_eq (tgt := 239) hx hb dX12_reads_183 (by decide) (fun hc10 => ?_) (fun hc10 => ?_)
    · have hT := hT.1 hc10
      refine lv_aload_n hx hb dX12_reads_239 rfl (lv_at hl 0 rfl) ?_
      refine fx_getI X h (k := 159) (j := 16) sh_159 rfl fl_RX12_178 dX12_reads_240 ?_
      refine lv_aload_n hx hb dX12_reads_243 rfl (lv_at hl 0 rfl) ?_
      refine fx_getI X h (k := 159) (j := 17) sh_159 rfl fl_RX12_185 dX12_reads_244 ?_
      refine lv_isub hx hb dX12_reads_247 ?_
      refine lv_iconst (v := 5) hx hb dX12_reads_248 (by decide) ?_
      refine lv_icmp_ge (tgt := 273) hx hb dX12_reads_249 (by decide) (fun hc11 => ?_) (fun hc11 => ?_)
      · have hT := hT.1 hc11
        exact fx_vret X hr hk h hT dX12_reads_273
      · have hT := hT.2 hc11
        refine lv_aload_n hx hb dX12_reads_252 rfl (lv_at hl 0 rfl) ?_
        refine lv_iconst (v := 3) hx hb dX12_reads_253 (by decide) ?_
        refine fx_putI X h (k := 159) (j := 18) sh_159 rfl fl_RX12_188 dX12_reads_254 (fun H locs h => ?_)
        obtain ⟨M12, eM12⟩ : ∃ z : Mm, z = m_up M8 159 18 (3 : Int32) := ⟨_, rfl⟩
        have hT := hT M12 eM12
        rw [← eM12] at h
        refine lv_goto (tgt := 273) hx hb dX12_reads_257 (by decide) ?_
        exact fx_vret X hr hk h hT dX12_reads_273
    · have hT := hT.2 hc10
      refine lv_aload_n hx hb dX12_reads_186 rfl (lv_at hl 0 rfl) ?_
      refine lv_aload_n hx hb dX12_reads_187 rfl (lv_at hl 0 rfl) ?_
      refine fx_getI X h (k := 159) (j := 19) sh_159 rfl fl_RX12_191 dX12_reads_188 ?_
      refine lv_sipush (v := 10000) hx hb dX12_reads_191 (by decide) ?_
      refine lv_icmp_ge (tgt := 219) hx hb dX12_reads_194 (by decide) (fun hc13 => ?_) (fun hc13 => ?_)
      · have hT := hT.1 hc13
        refine lv_aload_n hx hb dX12_reads_219 rfl (lv_at hl 0 rfl) ?_
        refine fx_getI X h (k := 159) (j := 19) sh_159 rfl fl_RX12_191 dX12_reads_220 ?_
        exact w_X12_reads_223 X hr hk (B171 := (fun  M => T_X12_reads_171 n  M K)) ih (M8 159 19) M8 _ _ ls hT h (lv_sub hl [0] rfl)
      · have hT := hT.2 hc13
        refine lv_bipush (v := 10) hx hb dX12_reads_197 (by decide) ?_
        refine lv_aload_n hx hb dX12_reads_199 rfl (lv_at hl 0 rfl) ?_
        refine fx_getI X h (k := 159) (j := 19) sh_159 rfl fl_RX12_191 dX12_reads_200 ?_
        refine lv_imul hx hb dX12_reads_203 ?_
        refine lv_aload_n hx hb dX12_reads_204 rfl (lv_at hl 0 rfl) ?_
        refine lv_aload_n hx hb dX12_reads_205 rfl (lv_at hl 0 rfl) ?_
        refine fx_getI X h (k := 159) (j := 16) sh_159 rfl fl_RX12_178 dX12_reads_206 ?_
        refine fx_vi X h ym_X12_raw yi_X12_raw ys_X12_raw (fx_s7 (List.mem_of_getElem? (i := 125) rfl) rfl) sh_159 rfl (c_X12_raw l G hT) (As := [.int (M8 159 16)]) (rest := [.int ((10 : Int32) * (M8 159 19)), .ref (G.2.2.2 + 159)]) rfl rfl ⟨Nat.le_of_ble_eq_true rfl, Nat.le_of_ble_eq_true rfl⟩ ⟨Nat.le_refl _, Nat.le_refl _⟩ hl.1 (Nat.le_of_ble_eq_true rfl) dX12_reads_209 (fun r16 M15 H locs hT h => ?_)
        refine lv_iadd hx hb dX12_reads_212 ?_
        refine lv_bipush (v := 48) hx hb dX12_reads_213 (by decide) ?_
        refine lv_isub hx hb dX12_reads_215 ?_
        refine lv_goto (tgt := 223) hx hb dX12_reads_216 (by decide) ?_
        exact w_X12_reads_223 X hr hk (B171 := (fun  M => T_X12_reads_171 n  M K)) ih ((((10 : Int32) * (M8 159 19)) + r16) - (48 : Int32)) M15 _ _ ls hT h (lv_sub hl [0] rfl)
def T_X12_reads_95 : Nat → Mm → (Mm → Prop) → Prop
  | 0, _, _ => False
  | n + 1, M, K => (T_X12_raw (M 159 16) M (fun r19 M18 => (T_X12_isLetter r19 M18 (fun r22 M21 => ((r22 = 0 → (T_X12_wordAt (M21 159 17) (M21 159 16) M21 (fun r26 M25 => (∀ M27 : Mm, M27 = m_up M25 159 19 r26 → (((M27 159 19) = (-1 : Int32) → (K M27)) ∧ (¬ (M27 159 19) = (-1 : Int32) → (∀ M29 : Mm, M29 = m_up M27 159 18 (2 : Int32) → (K M29)))))))) ∧ (¬ r22 = 0 → (∀ M30 : Mm, M30 = m_up M21 159 16 ((M21 159 16) + (1 : Int32)) → (T_X12_reads_95 n M30 K))))))))
set_option maxHeartbeats 4000000 in
set_option maxRecDepth 100000 in
theorem w_X12_reads_95 {p : Program} {l : Launch} {e : Env} {s : State} {m : MethodId} {args : Array Value} {below : List Frame} {meth : Method} {c : Code} {G : fx_G} {K : Mm → Prop} (X : fx_C G p s m c args cX12_reads 2 RX12) (hr : meth.sig.returnType = none) (hk : meth.locks = false) : ∀ (n : Nat) (M : Mm) (H : Heap) (locs : List Loc) (ls : Array Slot), T_X12_reads_95 n  M K → fx_H G SH M s H locs → lv_has ls 2 [(0, .ref (G.2.2.2 + 159))] → W p l e (fx_rm (2)) s m args below meth c H locs 0 0 (MQ below (va_Qv K (fx_R G SH) (fx_A G)) args s 0 0 (fx_A G)) (F0 m 95 ls []) := by
  obtain ⟨⟨hx, hb, hml, hown, hts⟩, hK, hQ⟩ := id X
  intro n
  induction n with
  | zero =>
    intro  M H locs ls hT
    exact hT.elim
  | succ n ih =>
    intro  M H locs ls hT h hl
    rw [T_X12_reads_95] at hT
    refine lv_aload_n hx hb dX12_reads_95 rfl (lv_at hl 0 rfl) ?_
    refine lv_aload_n hx hb dX12_reads_96 rfl (lv_at hl 0 rfl) ?_
    refine lv_aload_n hx hb dX12_reads_97 rfl (lv_at hl 0 rfl) ?_
    refine fx_getI X h (k := 159) (j := 16) sh_159 rfl fl_RX12_178 dX12_reads_98 ?_
    refine fx_vi X h ym_X12_raw yi_X12_raw ys_X12_raw (fx_s7 (List.mem_of_getElem? (i := 125) rfl) rfl) sh_159 rfl (c_X12_raw l G hT) (As := [.int (M 159 16)]) (rest := [.ref (G.2.2.2 + 159)]) rfl rfl ⟨Nat.le_of_ble_eq_true rfl, Nat.le_of_ble_eq_true rfl⟩ ⟨Nat.le_refl _, Nat.le_refl _⟩ hl.1 (Nat.le_of_ble_eq_true rfl) dX12_reads_101 (fun r19 M18 H locs hT h => ?_)
    refine fx_vi X h ym_X12_isLetter yi_X12_isLetter ys_X12_isLetter (fx_s7 (List.mem_of_getElem? (i := 129) rfl) rfl) sh_159 rfl (c_X12_isLetter l G hT) (As := [.int r19]) (rest := []) rfl rfl ⟨Nat.le_of_ble_eq_true rfl, Nat.le_of_ble_eq_true rfl⟩ ⟨Nat.le_refl _, Nat.le_refl _⟩ hl.1 (Nat.le_of_ble_eq_true rfl) dX12_reads_104 (fun r22 M21 H locs hT h => ?_)
    refine lv_if_eq (tgt := 123) hx hb dX12_reads_107 (by decide) (fun hc23 => ?_) (fun hc23 => ?_)
    · have hT := hT.1 hc23
      refine lv_aload_n hx hb dX12_reads_123 rfl (lv_at hl 0 rfl) ?_
      refine lv_aload_n hx hb dX12_reads_124 rfl (lv_at hl 0 rfl) ?_
      refine lv_aload_n hx hb dX12_reads_125 rfl (lv_at hl 0 rfl) ?_
      refine fx_getI X h (k := 159) (j := 17) sh_159 rfl fl_RX12_185 dX12_reads_126 ?_
      refine lv_aload_n hx hb dX12_reads_129 rfl (lv_at hl 0 rfl) ?_
      refine fx_getI X h (k := 159) (j := 16) sh_159 rfl fl_RX12_178 dX12_reads_130 ?_
      refine fx_vi X h ym_X12_wordAt yi_X12_wordAt ys_X12_wordAt (fx_s7 (List.mem_of_getElem? (i := 133) rfl) rfl) sh_159 rfl (c_X12_wordAt l G hT) (As := [.int (M21 159 17), .int (M21 159 16)]) (rest := [.ref (G.2.2.2 + 159)]) rfl rfl ⟨Nat.le_of_ble_eq_true rfl, Nat.le_of_ble_eq_true rfl⟩ ⟨Nat.le_refl _, Nat.le_refl _⟩ hl.1 (Nat.le_of_ble_eq_true rfl) dX12_reads_133 (fun r26 M25 H locs hT h => ?_)
      refine fx_putI X h (k := 159) (j := 19) sh_159 rfl fl_RX12_191 dX12_reads_136 (fun H locs h => ?_)
      obtain ⟨M27, eM27⟩ : ∃ z : Mm, z = m_up M25 159 19 r26 := ⟨_, rfl⟩
      have hT := hT M27 eM27
      rw [← eM27] at h
      refine lv_aload_n hx hb dX12_reads_139 rfl (lv_at hl 0 rfl) ?_
      refine fx_getI X h (k := 159) (j := 19) sh_159 rfl fl_RX12_191 dX12_reads_140 ?_
      refine lv_iconst (v := -1) hx hb dX12_reads_143 (by decide) ?_
      refine lv_icmp_eq (tgt := 273) hx hb dX12_reads_144 (by decide) (fun hc28 => ?_) (fun hc28 => ?_)
      · have hT := hT.1 hc28
        exact fx_vret X hr hk h hT dX12_reads_273
      · have hT := hT.2 hc28
        refine lv_aload_n hx hb dX12_reads_147 rfl (lv_at hl 0 rfl) ?_
        refine lv_iconst (v := 2) hx hb dX12_reads_148 (by decide) ?_
        refine fx_putI X h (k := 159) (j := 18) sh_159 rfl fl_RX12_188 dX12_reads_149 (fun H locs h => ?_)
        obtain ⟨M29, eM29⟩ : ∃ z : Mm, z = m_up M27 159 18 (2 : Int32) := ⟨_, rfl⟩
        have hT := hT M29 eM29
        rw [← eM29] at h
        refine lv_goto (tgt := 273) hx hb dX12_reads_152 (by decide) ?_
        exact fx_vret X hr hk h hT dX12_reads_273
    · have hT := hT.2 hc23
      refine lv_aload_n hx hb dX12_reads_110 rfl (lv_at hl 0 rfl) ?_
      refine lv_aload_n hx hb dX12_reads_111 rfl (lv_at hl 0 rfl) ?_
      refine fx_getI X h (k := 159) (j := 16) sh_159 rfl fl_RX12_178 dX12_reads_112 ?_
      refine lv_iconst (v := 1) hx hb dX12_reads_115 (by decide) ?_
      refine lv_iadd hx hb dX12_reads_116 ?_
      refine fx_putI X h (k := 159) (j := 16) sh_159 rfl fl_RX12_178 dX12_reads_117 (fun H locs h => ?_)
      obtain ⟨M30, eM30⟩ : ∃ z : Mm, z = m_up M21 159 16 ((M21 159 16) + (1 : Int32)) := ⟨_, rfl⟩
      have hT := hT M30 eM30
      rw [← eM30] at h
      refine lv_goto (tgt := 95) hx hb dX12_reads_120 (by decide) ?_
      exact ih M30 _ _ ls hT h (lv_sub hl [0] rfl)
def T_X12_reads_0 : Nat → Mm → (Mm → Prop) → Prop
  | 0, _, _ => False
  | n + 1, M, K => (T_X12_raw (M 159 16) M (fun r33 M32 => ((r33 = (32 : Int32) → (T_X12_reads_26 (fun  M => T_X12_reads_0 n  M K) M32 K)) ∧ (¬ r33 = (32 : Int32) → (T_X12_raw (M32 159 16) M32 (fun r37 M36 => ((r37 = (10 : Int32) → (T_X12_reads_26 (fun  M => T_X12_reads_0 n  M K) M36 K)) ∧ (¬ r37 = (10 : Int32) → (∀ M39 : Mm, M39 = m_up M36 159 17 (M36 159 16) → (∀ M40 : Mm, M40 = m_up M39 159 18 (1 : Int32) → (T_X12_raw (M40 159 16) M40 (fun r43 M42 => ((r43 = (-1 : Int32) → (∀ M61 : Mm, M61 = m_up M42 159 18 (0 : Int32) → (K M61))) ∧ (¬ r43 = (-1 : Int32) → (∀ M45 : Mm, M45 = m_up M42 159 16 ((M42 159 16) + (1 : Int32)) → (∀ M46 : Mm, M46 = m_up M45 159 19 r43 → (T_X12_isLetter r43 M46 (fun r49 M48 => ((r49 = 0 → (T_X12_isDigit r43 M48 (fun r53 M52 => ((r53 = 0 → (T_X12_isMarkSign r43 M52 (fun r57 M56 => ((r57 = 0 → (K M56)) ∧ (¬ r57 = 0 → (∀ M59 : Mm, M59 = m_up M56 159 18 (4 : Int32) → (K M59))))))) ∧ (¬ r53 = 0 → (∀ M60 : Mm, M60 = m_up M52 159 19 (r43 - (48 : Int32)) → (T_X12_reads_171 5000 M60 K))))))) ∧ (¬ r49 = 0 → (T_X12_reads_95 5000 M48 K)))))))))))))))))))))
set_option maxHeartbeats 4000000 in
set_option maxRecDepth 100000 in
theorem w_X12_reads_0 {p : Program} {l : Launch} {e : Env} {s : State} {m : MethodId} {args : Array Value} {below : List Frame} {meth : Method} {c : Code} {G : fx_G} {K : Mm → Prop} (X : fx_C G p s m c args cX12_reads 2 RX12) (hr : meth.sig.returnType = none) (hk : meth.locks = false) : ∀ (n : Nat) (M : Mm) (H : Heap) (locs : List Loc) (ls : Array Slot), T_X12_reads_0 n  M K → fx_H G SH M s H locs → lv_has ls 2 [(0, .ref (G.2.2.2 + 159))] → W p l e (fx_rm (2)) s m args below meth c H locs 0 0 (MQ below (va_Qv K (fx_R G SH) (fx_A G)) args s 0 0 (fx_A G)) (F0 m 0 ls []) := by
  obtain ⟨⟨hx, hb, hml, hown, hts⟩, hK, hQ⟩ := id X
  intro n
  induction n with
  | zero =>
    intro  M H locs ls hT
    exact hT.elim
  | succ n ih =>
    intro  M H locs ls hT h hl
    rw [T_X12_reads_0] at hT
    refine lv_aload_n hx hb dX12_reads_0 rfl (lv_at hl 0 rfl) ?_
    refine lv_aload_n hx hb dX12_reads_1 rfl (lv_at hl 0 rfl) ?_
    refine fx_getI X h (k := 159) (j := 16) sh_159 rfl fl_RX12_178 dX12_reads_2 ?_
    refine fx_vi X h ym_X12_raw yi_X12_raw ys_X12_raw (fx_s7 (List.mem_of_getElem? (i := 125) rfl) rfl) sh_159 rfl (c_X12_raw l G hT) (As := [.int (M 159 16)]) (rest := []) rfl rfl ⟨Nat.le_of_ble_eq_true rfl, Nat.le_of_ble_eq_true rfl⟩ ⟨Nat.le_refl _, Nat.le_refl _⟩ hl.1 (Nat.le_of_ble_eq_true rfl) dX12_reads_5 (fun r33 M32 H locs hT h => ?_)
    refine lv_bipush (v := 32) hx hb dX12_reads_8 (by decide) ?_
    refine lv_icmp_eq (tgt := 26) hx hb dX12_reads_10 (by decide) (fun hc34 => ?_) (fun hc34 => ?_)
    · have hT := hT.1 hc34
      exact w_X12_reads_26 X hr hk (B0 := (fun  M => T_X12_reads_0 n  M K)) ih M32 _ _ ls hT h (lv_sub hl [0] rfl)
    · have hT := hT.2 hc34
      refine lv_aload_n hx hb dX12_reads_13 rfl (lv_at hl 0 rfl) ?_
      refine lv_aload_n hx hb dX12_reads_14 rfl (lv_at hl 0 rfl) ?_
      refine fx_getI X h (k := 159) (j := 16) sh_159 rfl fl_RX12_178 dX12_reads_15 ?_
      refine fx_vi X h ym_X12_raw yi_X12_raw ys_X12_raw (fx_s7 (List.mem_of_getElem? (i := 125) rfl) rfl) sh_159 rfl (c_X12_raw l G hT) (As := [.int (M32 159 16)]) (rest := []) rfl rfl ⟨Nat.le_of_ble_eq_true rfl, Nat.le_of_ble_eq_true rfl⟩ ⟨Nat.le_refl _, Nat.le_refl _⟩ hl.1 (Nat.le_of_ble_eq_true rfl) dX12_reads_18 (fun r37 M36 H locs hT h => ?_)
      refine lv_bipush (v := 10) hx hb dX12_reads_21 (by decide) ?_
      refine lv_icmp_ne (tgt := 39) hx hb dX12_reads_23 (by decide) (fun hc38 => ?_) (fun hc38 => ?_)
      · have hT := hT.2 hc38
        refine lv_aload_n hx hb dX12_reads_39 rfl (lv_at hl 0 rfl) ?_
        refine lv_aload_n hx hb dX12_reads_40 rfl (lv_at hl 0 rfl) ?_
        refine fx_getI X h (k := 159) (j := 16) sh_159 rfl fl_RX12_178 dX12_reads_41 ?_
        refine fx_putI X h (k := 159) (j := 17) sh_159 rfl fl_RX12_185 dX12_reads_44 (fun H locs h => ?_)
        obtain ⟨M39, eM39⟩ : ∃ z : Mm, z = m_up M36 159 17 (M36 159 16) := ⟨_, rfl⟩
        have hT := hT M39 eM39
        rw [← eM39] at h
        refine lv_aload_n hx hb dX12_reads_47 rfl (lv_at hl 0 rfl) ?_
        refine lv_iconst (v := 1) hx hb dX12_reads_48 (by decide) ?_
        refine fx_putI X h (k := 159) (j := 18) sh_159 rfl fl_RX12_188 dX12_reads_49 (fun H locs h => ?_)
        obtain ⟨M40, eM40⟩ : ∃ z : Mm, z = m_up M39 159 18 (1 : Int32) := ⟨_, rfl⟩
        have hT := hT M40 eM40
        rw [← eM40] at h
        refine lv_aload_n hx hb dX12_reads_52 rfl (lv_at hl 0 rfl) ?_
        refine lv_aload_n hx hb dX12_reads_53 rfl (lv_at hl 0 rfl) ?_
        refine fx_getI X h (k := 159) (j := 16) sh_159 rfl fl_RX12_178 dX12_reads_54 ?_
        refine fx_vi X h ym_X12_raw yi_X12_raw ys_X12_raw (fx_s7 (List.mem_of_getElem? (i := 125) rfl) rfl) sh_159 rfl (c_X12_raw l G hT) (As := [.int (M40 159 16)]) (rest := []) rfl rfl ⟨Nat.le_of_ble_eq_true rfl, Nat.le_of_ble_eq_true rfl⟩ ⟨Nat.le_refl _, Nat.le_refl _⟩ hl.1 (Nat.le_of_ble_eq_true rfl) dX12_reads_57 (fun r43 M42 H locs hT h => ?_)
        refine lv_istore_n (lv' := [(1, .int r43), (0, .ref (G.2.2.2 + 159))]) hx hb dX12_reads_60 rfl hl (by decide) rfl (fun ls hl => ?_)
        refine lv_iload_n hx hb dX12_reads_61 rfl (lv_at hl 0 rfl) ?_
        refine lv_iconst (v := -1) hx hb dX12_reads_62 (by decide) ?_
        refine lv_icmp_ne (tgt := 72) hx hb dX12_reads_63 (by decide) (fun hc44 => ?_) (fun hc44 => ?_)
        · have hT := hT.2 hc44
          refine lv_aload_n hx hb dX12_reads_72 rfl (lv_at hl 1 rfl) ?_
          refine lv_aload_n hx hb dX12_reads_73 rfl (lv_at hl 1 rfl) ?_
          refine fx_getI X h (k := 159) (j := 16) sh_159 rfl fl_RX12_178 dX12_reads_74 ?_
          refine lv_iconst (v := 1) hx hb dX12_reads_77 (by decide) ?_
          refine lv_iadd hx hb dX12_reads_78 ?_
          refine fx_putI X h (k := 159) (j := 16) sh_159 rfl fl_RX12_178 dX12_reads_79 (fun H locs h => ?_)
          obtain ⟨M45, eM45⟩ : ∃ z : Mm, z = m_up M42 159 16 ((M42 159 16) + (1 : Int32)) := ⟨_, rfl⟩
          have hT := hT M45 eM45
          rw [← eM45] at h
          refine lv_aload_n hx hb dX12_reads_82 rfl (lv_at hl 1 rfl) ?_
          refine lv_iload_n hx hb dX12_reads_83 rfl (lv_at hl 0 rfl) ?_
          refine fx_putI X h (k := 159) (j := 19) sh_159 rfl fl_RX12_191 dX12_reads_84 (fun H locs h => ?_)
          obtain ⟨M46, eM46⟩ : ∃ z : Mm, z = m_up M45 159 19 r43 := ⟨_, rfl⟩
          have hT := hT M46 eM46
          rw [← eM46] at h
          refine lv_aload_n hx hb dX12_reads_87 rfl (lv_at hl 1 rfl) ?_
          refine lv_iload_n hx hb dX12_reads_88 rfl (lv_at hl 0 rfl) ?_
          refine fx_vi X h ym_X12_isLetter yi_X12_isLetter ys_X12_isLetter (fx_s7 (List.mem_of_getElem? (i := 129) rfl) rfl) sh_159 rfl (c_X12_isLetter l G hT) (As := [.int r43]) (rest := []) rfl rfl ⟨Nat.le_of_ble_eq_true rfl, Nat.le_of_ble_eq_true rfl⟩ ⟨Nat.le_refl _, Nat.le_refl _⟩ hl.1 (Nat.le_of_ble_eq_true rfl) dX12_reads_89 (fun r49 M48 H locs hT h => ?_)
          refine lv_if_eq (tgt := 155) hx hb dX12_reads_92 (by decide) (fun hc50 => ?_) (fun hc50 => ?_)
          · have hT := hT.1 hc50
            refine lv_aload_n hx hb dX12_reads_155 rfl (lv_at hl 1 rfl) ?_
            refine lv_iload_n hx hb dX12_reads_156 rfl (lv_at hl 0 rfl) ?_
            refine fx_vi X h ym_X12_isDigit yi_X12_isDigit ys_X12_isDigit (fx_s7 (List.mem_of_getElem? (i := 137) rfl) rfl) sh_159 rfl (c_X12_isDigit l G hT) (As := [.int r43]) (rest := []) rfl rfl ⟨Nat.le_of_ble_eq_true rfl, Nat.le_of_ble_eq_true rfl⟩ ⟨Nat.le_refl _, Nat.le_refl _⟩ hl.1 (Nat.le_of_ble_eq_true rfl) dX12_reads_157 (fun r53 M52 H locs hT h => ?_)
            refine lv_if_eq (tgt := 260) hx hb dX12_reads_160 (by decide) (fun hc54 => ?_) (fun hc54 => ?_)
            · have hT := hT.1 hc54
              refine lv_aload_n hx hb dX12_reads_260 rfl (lv_at hl 1 rfl) ?_
              refine lv_iload_n hx hb dX12_reads_261 rfl (lv_at hl 0 rfl) ?_
              refine fx_vi X h ym_X12_isMarkSign yi_X12_isMarkSign ys_X12_isMarkSign (fx_s7 (List.mem_of_getElem? (i := 141) rfl) rfl) sh_159 rfl (c_X12_isMarkSign l G hT) (As := [.int r43]) (rest := []) rfl rfl ⟨Nat.le_of_ble_eq_true rfl, Nat.le_of_ble_eq_true rfl⟩ ⟨Nat.le_refl _, Nat.le_refl _⟩ hl.1 (Nat.le_of_ble_eq_true rfl) dX12_reads_262 (fun r57 M56 H locs hT h => ?_)
              refine lv_if_eq (tgt := 273) hx hb dX12_reads_265 (by decide) (fun hc58 => ?_) (fun hc58 => ?_)
              · have hT := hT.1 hc58
                exact fx_vret X hr hk h hT dX12_reads_273
              · have hT := hT.2 hc58
                refine lv_aload_n hx hb dX12_reads_268 rfl (lv_at hl 1 rfl) ?_
                refine lv_iconst (v := 4) hx hb dX12_reads_269 (by decide) ?_
                refine fx_putI X h (k := 159) (j := 18) sh_159 rfl fl_RX12_188 dX12_reads_270 (fun H locs h => ?_)
                obtain ⟨M59, eM59⟩ : ∃ z : Mm, z = m_up M56 159 18 (4 : Int32) := ⟨_, rfl⟩
                have hT := hT M59 eM59
                rw [← eM59] at h
                exact fx_vret X hr hk h hT dX12_reads_273
            · have hT := hT.2 hc54
              refine lv_aload_n hx hb dX12_reads_163 rfl (lv_at hl 1 rfl) ?_
              refine lv_iload_n hx hb dX12_reads_164 rfl (lv_at hl 0 rfl) ?_
              refine lv_bipush (v := 48) hx hb dX12_reads_165 (by decide) ?_
              refine lv_isub hx hb dX12_reads_167 ?_
              refine fx_putI X h (k := 159) (j := 19) sh_159 rfl fl_RX12_191 dX12_reads_168 (fun H locs h => ?_)
              obtain ⟨M60, eM60⟩ : ∃ z : Mm, z = m_up M52 159 19 (r43 - (48 : Int32)) := ⟨_, rfl⟩
              have hT := hT M60 eM60
              rw [← eM60] at h
              exact w_X12_reads_171 X hr hk 5000 M60 _ _ ls hT h (lv_sub hl [1] rfl)
          · have hT := hT.2 hc50
            exact w_X12_reads_95 X hr hk 5000 M48 _ _ ls hT h (lv_sub hl [1] rfl)
        · have hT := hT.1 hc44
          refine lv_aload_n hx hb dX12_reads_66 rfl (lv_at hl 1 rfl) ?_
          refine lv_iconst (v := 0) hx hb dX12_reads_67 (by decide) ?_
          refine fx_putI X h (k := 159) (j := 18) sh_159 rfl fl_RX12_188 dX12_reads_68 (fun H locs h => ?_)
          obtain ⟨M61, eM61⟩ : ∃ z : Mm, z = m_up M42 159 18 (0 : Int32) := ⟨_, rfl⟩
          have hT := hT M61 eM61
          rw [← eM61] at h
          exact fx_vret X hr hk h hT dX12_reads_71
      · have hT := hT.1 hc38
        exact w_X12_reads_26 X hr hk (B0 := (fun  M => T_X12_reads_0 n  M K)) ih M36 _ _ ls hT h (lv_sub hl [0] rfl)
def T_X12_reads (M : Mm) (K : Mm → Prop) : Prop := (T_X12_reads_0 5000 M K)
set_option maxHeartbeats 4000000 in
set_option maxRecDepth 100000 in
theorem c_X12_reads (l : Launch) (G : fx_G) {M : Mm} {K : Mm → Prop} (hT : T_X12_reads M K) : Met l yX12_reads (fx_ws yX12_reads cX12_reads 2 none) (fx_rm (2)) (va_Pc [.ref (G.2.2.2 + 159)] (fx_P G SH M)) (va_Qv K (fx_R G SH) (fx_A G)) 0 0 (fx_A G) := by
  refine fx_met (own := RX12) (by decide +kernel) rfl (Nat.le_of_ble_eq_true rfl) (fun p e s m below meth c X hr hk h ls hl => ?_)
  obtain ⟨⟨hx, hb, hml, hown, hts⟩, hK, hQ⟩ := id X
  have hl : lv_has ls 2 [(0, .ref (G.2.2.2 + 159))] := hl
  unfold T_X12_reads at hT
  exact w_X12_reads_0 X hr hk 5000 M _ _ ls hT h (lv_sub hl [0] rfl)
/-! MockParcelsModel.errs(I)I -/
theorem dX12_errs_0 : decode cX12_errs 0 = .ok (.aload_n 0, 1) := by decide +kernel
theorem dX12_errs_1 : decode cX12_errs 1 = .ok (.iload_n 1, 1) := by decide +kernel
theorem dX12_errs_2 : decode cX12_errs 2 = .ok (.putfield 206, 3) := by decide +kernel
theorem dX12_errs_5 : decode cX12_errs 5 = .ok (.aload_n 0, 1) := by decide +kernel
theorem dX12_errs_6 : decode cX12_errs 6 = .ok (.aload_n 0, 1) := by decide +kernel
theorem dX12_errs_7 : decode cX12_errs 7 = .ok (.getfield 185, 3) := by decide +kernel
theorem dX12_errs_10 : decode cX12_errs 10 = .ok (.putfield 209, 3) := by decide +kernel
theorem dX12_errs_13 : decode cX12_errs 13 = .ok (.iconst (-1), 1) := by decide +kernel
theorem dX12_errs_14 : decode cX12_errs 14 = .ok (.ireturn, 1) := by decide +kernel
def T_X12_errs (x1 : Int32) (M : Mm) (K : Int32 → Mm → Prop) : Prop := (∀ M1 : Mm, M1 = m_up M 159 33 x1 → (∀ M2 : Mm, M2 = m_up M1 159 34 (M1 159 17) → (K (-1 : Int32) M2)))
set_option maxHeartbeats 4000000 in
set_option maxRecDepth 100000 in
theorem c_X12_errs (l : Launch) (G : fx_G) {x1 : Int32} {M : Mm} {K : Int32 → Mm → Prop} (hT : T_X12_errs x1 M K) : Met l yX12_errs (fx_ws yX12_errs cX12_errs 2 (some .int)) (fx_rm (0)) (va_Pc [.ref (G.2.2.2 + 159), .int x1] (fx_P G SH M)) (va_Qi K (fx_R G SH) (fx_A G)) 0 0 (fx_A G) := by
  refine fx_met (own := RX12) (by decide +kernel) rfl (Nat.le_of_ble_eq_true rfl) (fun p e s m below meth c X hr hk h ls hl => ?_)
  obtain ⟨⟨hx, hb, hml, hown, hts⟩, hK, hQ⟩ := id X
  have hl : lv_has ls 2 [(0, .ref (G.2.2.2 + 159)), (1, .int x1)] := hl
  unfold T_X12_errs at hT
  refine lv_aload_n hx hb dX12_errs_0 rfl (lv_at hl 0 rfl) ?_
  refine lv_iload_n hx hb dX12_errs_1 rfl (lv_at hl 1 rfl) ?_
  refine fx_putI X h (k := 159) (j := 33) sh_159 rfl fl_RX12_206 dX12_errs_2 (fun H locs h => ?_)
  obtain ⟨M1, eM1⟩ : ∃ z : Mm, z = m_up M 159 33 x1 := ⟨_, rfl⟩
  have hT := hT M1 eM1
  rw [← eM1] at h
  refine lv_aload_n hx hb dX12_errs_5 rfl (lv_at hl 0 rfl) ?_
  refine lv_aload_n hx hb dX12_errs_6 rfl (lv_at hl 0 rfl) ?_
  refine fx_getI X h (k := 159) (j := 17) sh_159 rfl fl_RX12_185 dX12_errs_7 ?_
  refine fx_putI X h (k := 159) (j := 34) sh_159 rfl fl_RX12_209 dX12_errs_10 (fun H locs h => ?_)
  obtain ⟨M2, eM2⟩ : ∃ z : Mm, z = m_up M1 159 34 (M1 159 17) := ⟨_, rfl⟩
  have hT := hT M2 eM2
  rw [← eM2] at h
  refine lv_iconst (v := -1) hx hb dX12_errs_13 (by decide) ?_
  exact fx_iret X hr hk h hT dX12_errs_14
/-! MockParcelsModel.isWord(I)Z -/
theorem dX12_isWord_0 : decode cX12_isWord 0 = .ok (.aload_n 0, 1) := by decide +kernel
theorem dX12_isWord_1 : decode cX12_isWord 1 = .ok (.getfield 188, 3) := by decide +kernel
theorem dX12_isWord_4 : decode cX12_isWord 4 = .ok (.iconst 2, 1) := by decide +kernel
theorem dX12_isWord_5 : decode cX12_isWord 5 = .ok (.if_icmp .ne 15, 3) := by decide +kernel
theorem dX12_isWord_8 : decode cX12_isWord 8 = .ok (.aload_n 0, 1) := by decide +kernel
theorem dX12_isWord_9 : decode cX12_isWord 9 = .ok (.getfield 191, 3) := by decide +kernel
theorem dX12_isWord_12 : decode cX12_isWord 12 = .ok (.iload_n 1, 1) := by decide +kernel
theorem dX12_isWord_13 : decode cX12_isWord 13 = .ok (.if_icmp .ne 7, 3) := by decide +kernel
theorem dX12_isWord_16 : decode cX12_isWord 16 = .ok (.iconst 1, 1) := by decide +kernel
theorem dX12_isWord_17 : decode cX12_isWord 17 = .ok (.goto 4, 3) := by decide +kernel
theorem dX12_isWord_20 : decode cX12_isWord 20 = .ok (.iconst 0, 1) := by decide +kernel
theorem dX12_isWord_21 : decode cX12_isWord 21 = .ok (.ireturn, 1) := by decide +kernel
def T_X12_isWord (x1 : Int32) (M : Mm) (K : Int32 → Mm → Prop) : Prop := (((M 159 18) = (2 : Int32) → (((M 159 19) = x1 → (K (1 : Int32) M)) ∧ (¬ (M 159 19) = x1 → (K (0 : Int32) M)))) ∧ (¬ (M 159 18) = (2 : Int32) → (K (0 : Int32) M)))
set_option maxHeartbeats 4000000 in
set_option maxRecDepth 100000 in
theorem c_X12_isWord (l : Launch) (G : fx_G) {x1 : Int32} {M : Mm} {K : Int32 → Mm → Prop} (hT : T_X12_isWord x1 M K) : Met l yX12_isWord (fx_ws yX12_isWord cX12_isWord 2 (some .boolean)) (fx_rm (0)) (va_Pc [.ref (G.2.2.2 + 159), .int x1] (fx_P G SH M)) (va_Qi K (fx_R G SH) (fx_A G)) 0 0 (fx_A G) := by
  refine fx_met (own := RX12) (by decide +kernel) rfl (Nat.le_of_ble_eq_true rfl) (fun p e s m below meth c X hr hk h ls hl => ?_)
  obtain ⟨⟨hx, hb, hml, hown, hts⟩, hK, hQ⟩ := id X
  have hl : lv_has ls 2 [(0, .ref (G.2.2.2 + 159)), (1, .int x1)] := hl
  unfold T_X12_isWord at hT
  refine lv_aload_n hx hb dX12_isWord_0 rfl (lv_at hl 0 rfl) ?_
  refine fx_getI X h (k := 159) (j := 18) sh_159 rfl fl_RX12_188 dX12_isWord_1 ?_
  refine lv_iconst (v := 2) hx hb dX12_isWord_4 (by decide) ?_
  refine lv_icmp_ne (tgt := 20) hx hb dX12_isWord_5 (by decide) (fun hc1 => ?_) (fun hc1 => ?_)
  · have hT := hT.2 hc1
    refine lv_iconst (v := 0) hx hb dX12_isWord_20 (by decide) ?_
    exact fx_zret X hr hk h (Or.inl rfl) hT dX12_isWord_21
  · have hT := hT.1 hc1
    refine lv_aload_n hx hb dX12_isWord_8 rfl (lv_at hl 0 rfl) ?_
    refine fx_getI X h (k := 159) (j := 19) sh_159 rfl fl_RX12_191 dX12_isWord_9 ?_
    refine lv_iload_n hx hb dX12_isWord_12 rfl (lv_at hl 1 rfl) ?_
    refine lv_icmp_ne (tgt := 20) hx hb dX12_isWord_13 (by decide) (fun hc2 => ?_) (fun hc2 => ?_)
    · have hT := hT.2 hc2
      refine lv_iconst (v := 0) hx hb dX12_isWord_20 (by decide) ?_
      exact fx_zret X hr hk h (Or.inl rfl) hT dX12_isWord_21
    · have hT := hT.1 hc2
      refine lv_iconst (v := 1) hx hb dX12_isWord_16 (by decide) ?_
      refine lv_goto (tgt := 21) hx hb dX12_isWord_17 (by decide) ?_
      exact fx_zret X hr hk h (Or.inr rfl) hT dX12_isWord_21
/-! MockParcelsModel.isSign(I)Z -/
theorem dX12_isSign_0 : decode cX12_isSign 0 = .ok (.aload_n 0, 1) := by decide +kernel
theorem dX12_isSign_1 : decode cX12_isSign 1 = .ok (.getfield 188, 3) := by decide +kernel
theorem dX12_isSign_4 : decode cX12_isSign 4 = .ok (.iconst 4, 1) := by decide +kernel
theorem dX12_isSign_5 : decode cX12_isSign 5 = .ok (.if_icmp .ne 15, 3) := by decide +kernel
theorem dX12_isSign_8 : decode cX12_isSign 8 = .ok (.aload_n 0, 1) := by decide +kernel
theorem dX12_isSign_9 : decode cX12_isSign 9 = .ok (.getfield 191, 3) := by decide +kernel
theorem dX12_isSign_12 : decode cX12_isSign 12 = .ok (.iload_n 1, 1) := by decide +kernel
theorem dX12_isSign_13 : decode cX12_isSign 13 = .ok (.if_icmp .ne 7, 3) := by decide +kernel
theorem dX12_isSign_16 : decode cX12_isSign 16 = .ok (.iconst 1, 1) := by decide +kernel
theorem dX12_isSign_17 : decode cX12_isSign 17 = .ok (.goto 4, 3) := by decide +kernel
theorem dX12_isSign_20 : decode cX12_isSign 20 = .ok (.iconst 0, 1) := by decide +kernel
theorem dX12_isSign_21 : decode cX12_isSign 21 = .ok (.ireturn, 1) := by decide +kernel
def T_X12_isSign (x1 : Int32) (M : Mm) (K : Int32 → Mm → Prop) : Prop := (((M 159 18) = (4 : Int32) → (((M 159 19) = x1 → (K (1 : Int32) M)) ∧ (¬ (M 159 19) = x1 → (K (0 : Int32) M)))) ∧ (¬ (M 159 18) = (4 : Int32) → (K (0 : Int32) M)))
set_option maxHeartbeats 4000000 in
set_option maxRecDepth 100000 in
theorem c_X12_isSign (l : Launch) (G : fx_G) {x1 : Int32} {M : Mm} {K : Int32 → Mm → Prop} (hT : T_X12_isSign x1 M K) : Met l yX12_isSign (fx_ws yX12_isSign cX12_isSign 2 (some .boolean)) (fx_rm (0)) (va_Pc [.ref (G.2.2.2 + 159), .int x1] (fx_P G SH M)) (va_Qi K (fx_R G SH) (fx_A G)) 0 0 (fx_A G) := by
  refine fx_met (own := RX12) (by decide +kernel) rfl (Nat.le_of_ble_eq_true rfl) (fun p e s m below meth c X hr hk h ls hl => ?_)
  obtain ⟨⟨hx, hb, hml, hown, hts⟩, hK, hQ⟩ := id X
  have hl : lv_has ls 2 [(0, .ref (G.2.2.2 + 159)), (1, .int x1)] := hl
  unfold T_X12_isSign at hT
  refine lv_aload_n hx hb dX12_isSign_0 rfl (lv_at hl 0 rfl) ?_
  refine fx_getI X h (k := 159) (j := 18) sh_159 rfl fl_RX12_188 dX12_isSign_1 ?_
  refine lv_iconst (v := 4) hx hb dX12_isSign_4 (by decide) ?_
  refine lv_icmp_ne (tgt := 20) hx hb dX12_isSign_5 (by decide) (fun hc1 => ?_) (fun hc1 => ?_)
  · have hT := hT.2 hc1
    refine lv_iconst (v := 0) hx hb dX12_isSign_20 (by decide) ?_
    exact fx_zret X hr hk h (Or.inl rfl) hT dX12_isSign_21
  · have hT := hT.1 hc1
    refine lv_aload_n hx hb dX12_isSign_8 rfl (lv_at hl 0 rfl) ?_
    refine fx_getI X h (k := 159) (j := 19) sh_159 rfl fl_RX12_191 dX12_isSign_9 ?_
    refine lv_iload_n hx hb dX12_isSign_12 rfl (lv_at hl 1 rfl) ?_
    refine lv_icmp_ne (tgt := 20) hx hb dX12_isSign_13 (by decide) (fun hc2 => ?_) (fun hc2 => ?_)
    · have hT := hT.2 hc2
      refine lv_iconst (v := 0) hx hb dX12_isSign_20 (by decide) ?_
      exact fx_zret X hr hk h (Or.inl rfl) hT dX12_isSign_21
    · have hT := hT.1 hc2
      refine lv_iconst (v := 1) hx hb dX12_isSign_16 (by decide) ?_
      refine lv_goto (tgt := 21) hx hb dX12_isSign_17 (by decide) ?_
      exact fx_zret X hr hk h (Or.inr rfl) hT dX12_isSign_21
/-! MockParcelsModel.emits(II)V -/
theorem dX12_emits_0 : decode cX12_emits 0 = .ok (.aload_n 0, 1) := by decide +kernel
theorem dX12_emits_1 : decode cX12_emits 1 = .ok (.getfield 58, 3) := by decide +kernel
theorem dX12_emits_4 : decode cX12_emits 4 = .ok (.sipush 800, 3) := by decide +kernel
theorem dX12_emits_7 : decode cX12_emits 7 = .ok (.aload_n 0, 1) := by decide +kernel
theorem dX12_emits_8 : decode cX12_emits 8 = .ok (.getfield 212, 3) := by decide +kernel
theorem dX12_emits_11 : decode cX12_emits 11 = .ok (.iadd, 1) := by decide +kernel
theorem dX12_emits_12 : decode cX12_emits 12 = .ok (.iload_n 1, 1) := by decide +kernel
theorem dX12_emits_13 : decode cX12_emits 13 = .ok (.iastore, 1) := by decide +kernel
theorem dX12_emits_14 : decode cX12_emits 14 = .ok (.aload_n 0, 1) := by decide +kernel
theorem dX12_emits_15 : decode cX12_emits 15 = .ok (.getfield 61, 3) := by decide +kernel
theorem dX12_emits_18 : decode cX12_emits 18 = .ok (.sipush 800, 3) := by decide +kernel
theorem dX12_emits_21 : decode cX12_emits 21 = .ok (.aload_n 0, 1) := by decide +kernel
theorem dX12_emits_22 : decode cX12_emits 22 = .ok (.getfield 212, 3) := by decide +kernel
theorem dX12_emits_25 : decode cX12_emits 25 = .ok (.iadd, 1) := by decide +kernel
theorem dX12_emits_26 : decode cX12_emits 26 = .ok (.iload_n 2, 1) := by decide +kernel
theorem dX12_emits_27 : decode cX12_emits 27 = .ok (.iastore, 1) := by decide +kernel
theorem dX12_emits_28 : decode cX12_emits 28 = .ok (.aload_n 0, 1) := by decide +kernel
theorem dX12_emits_29 : decode cX12_emits 29 = .ok (.aload_n 0, 1) := by decide +kernel
theorem dX12_emits_30 : decode cX12_emits 30 = .ok (.getfield 212, 3) := by decide +kernel
theorem dX12_emits_33 : decode cX12_emits 33 = .ok (.iconst 1, 1) := by decide +kernel
theorem dX12_emits_34 : decode cX12_emits 34 = .ok (.iadd, 1) := by decide +kernel
theorem dX12_emits_35 : decode cX12_emits 35 = .ok (.putfield 212, 3) := by decide +kernel
theorem dX12_emits_38 : decode cX12_emits 38 = .ok (.return_, 1) := by decide +kernel
def T_X12_emits (x1 : Int32) (x2 : Int32) (M : Mm) (K : Mm → Prop) : Prop := (vp_in ((800 : Int32) + (M 159 29)) 1200 ∧ (∀ M1 : Mm, M1 = m_up M 176 (((800 : Int32) + (M 159 29))).toNatClampNeg x1 → (vp_in ((800 : Int32) + (M1 159 29)) 1200 ∧ (∀ M3 : Mm, M3 = m_up M1 177 (((800 : Int32) + (M1 159 29))).toNatClampNeg x2 → (∀ M5 : Mm, M5 = m_up M3 159 29 ((M3 159 29) + (1 : Int32)) → (K M5))))))
set_option maxHeartbeats 4000000 in
set_option maxRecDepth 100000 in
theorem c_X12_emits (l : Launch) (G : fx_G) {x1 : Int32} {x2 : Int32} {M : Mm} {K : Mm → Prop} (hT : T_X12_emits x1 x2 M K) : Met l yX12_emits (fx_ws yX12_emits cX12_emits 3 none) (fx_rm (0)) (va_Pc [.ref (G.2.2.2 + 159), .int x1, .int x2] (fx_P G SH M)) (va_Qv K (fx_R G SH) (fx_A G)) 0 0 (fx_A G) := by
  refine fx_met (own := RX12) (by decide +kernel) rfl (Nat.le_of_ble_eq_true rfl) (fun p e s m below meth c X hr hk h ls hl => ?_)
  obtain ⟨⟨hx, hb, hml, hown, hts⟩, hK, hQ⟩ := id X
  have hl : lv_has ls 3 [(0, .ref (G.2.2.2 + 159)), (1, .int x1), (2, .int x2)] := hl
  unfold T_X12_emits at hT
  refine lv_aload_n hx hb dX12_emits_0 rfl (lv_at hl 0 rfl) ?_
  refine fx_getR X h (k := 159) (j := 26) (r := 176) sh_159 rfl fl_RX12_58 dX12_emits_1 ?_
  refine lv_sipush (v := 800) hx hb dX12_emits_4 (by decide) ?_
  refine lv_aload_n hx hb dX12_emits_7 rfl (lv_at hl 0 rfl) ?_
  refine fx_getI X h (k := 159) (j := 29) sh_159 rfl fl_RX12_212 dX12_emits_8 ?_
  refine lv_iadd hx hb dX12_emits_11 ?_
  refine lv_iload_n hx hb dX12_emits_12 rfl (lv_at hl 1 rfl) ?_
  obtain ⟨hi2, hT⟩ := hT
  refine fx_iast X h (k := 176) sh_176 hi2 dX12_emits_13 (fun H locs h => ?_)
  obtain ⟨M1, eM1⟩ : ∃ z : Mm, z = m_up M 176 (((800 : Int32) + (M 159 29))).toNatClampNeg x1 := ⟨_, rfl⟩
  have hT := hT M1 eM1
  rw [← eM1] at h
  refine lv_aload_n hx hb dX12_emits_14 rfl (lv_at hl 0 rfl) ?_
  refine fx_getR X h (k := 159) (j := 27) (r := 177) sh_159 rfl fl_RX12_61 dX12_emits_15 ?_
  refine lv_sipush (v := 800) hx hb dX12_emits_18 (by decide) ?_
  refine lv_aload_n hx hb dX12_emits_21 rfl (lv_at hl 0 rfl) ?_
  refine fx_getI X h (k := 159) (j := 29) sh_159 rfl fl_RX12_212 dX12_emits_22 ?_
  refine lv_iadd hx hb dX12_emits_25 ?_
  refine lv_iload_n hx hb dX12_emits_26 rfl (lv_at hl 2 rfl) ?_
  obtain ⟨hi4, hT⟩ := hT
  refine fx_iast X h (k := 177) sh_177 hi4 dX12_emits_27 (fun H locs h => ?_)
  obtain ⟨M3, eM3⟩ : ∃ z : Mm, z = m_up M1 177 (((800 : Int32) + (M1 159 29))).toNatClampNeg x2 := ⟨_, rfl⟩
  have hT := hT M3 eM3
  rw [← eM3] at h
  refine lv_aload_n hx hb dX12_emits_28 rfl (lv_at hl 0 rfl) ?_
  refine lv_aload_n hx hb dX12_emits_29 rfl (lv_at hl 0 rfl) ?_
  refine fx_getI X h (k := 159) (j := 29) sh_159 rfl fl_RX12_212 dX12_emits_30 ?_
  refine lv_iconst (v := 1) hx hb dX12_emits_33 (by decide) ?_
  refine lv_iadd hx hb dX12_emits_34 ?_
  refine fx_putI X h (k := 159) (j := 29) sh_159 rfl fl_RX12_212 dX12_emits_35 (fun H locs h => ?_)
  obtain ⟨M5, eM5⟩ : ∃ z : Mm, z = m_up M3 159 29 ((M3 159 29) + (1 : Int32)) := ⟨_, rfl⟩
  have hT := hT M5 eM5
  rw [← eM5] at h
  exact fx_vret X hr hk h hT dX12_emits_38
/-! MockParcelsModel.canAsk(I)Z -/
theorem dX12_canAsk_0 : decode cX12_canAsk 0 = .ok (.aload_n 0, 1) := by decide +kernel
theorem dX12_canAsk_1 : decode cX12_canAsk 1 = .ok (.iload_n 1, 1) := by decide +kernel
theorem dX12_canAsk_2 : decode cX12_canAsk 2 = .ok (.bipush 7, 2) := by decide +kernel
theorem dX12_canAsk_4 : decode cX12_canAsk 4 = .ok (.bipush 18, 2) := by decide +kernel
theorem dX12_canAsk_6 : decode cX12_canAsk 6 = .ok (.invokevirtual 157, 3) := by decide +kernel
theorem dX12_canAsk_9 : decode cX12_canAsk 9 = .ok (.ireturn, 1) := by decide +kernel
def T_X12_canAsk (x1 : Int32) (M : Mm) (K : Int32 → Mm → Prop) : Prop := (T_X12_isIn x1 (7 : Int32) (18 : Int32) M (fun r3 M2 => ((r3 = 0 ∨ r3 = 1) ∧ K r3 M2)))
set_option maxHeartbeats 4000000 in
set_option maxRecDepth 100000 in
theorem c_X12_canAsk (l : Launch) (G : fx_G) {x1 : Int32} {M : Mm} {K : Int32 → Mm → Prop} (hT : T_X12_canAsk x1 M K) : Met l yX12_canAsk (fx_ws yX12_canAsk cX12_canAsk 2 (some .boolean)) (fx_rm (1)) (va_Pc [.ref (G.2.2.2 + 159), .int x1] (fx_P G SH M)) (va_Qi K (fx_R G SH) (fx_A G)) 0 0 (fx_A G) := by
  refine fx_met (own := RX12) (by decide +kernel) rfl (Nat.le_of_ble_eq_true rfl) (fun p e s m below meth c X hr hk h ls hl => ?_)
  obtain ⟨⟨hx, hb, hml, hown, hts⟩, hK, hQ⟩ := id X
  have hl : lv_has ls 2 [(0, .ref (G.2.2.2 + 159)), (1, .int x1)] := hl
  unfold T_X12_canAsk at hT
  refine lv_aload_n hx hb dX12_canAsk_0 rfl (lv_at hl 0 rfl) ?_
  refine lv_iload_n hx hb dX12_canAsk_1 rfl (lv_at hl 1 rfl) ?_
  refine lv_bipush (v := 7) hx hb dX12_canAsk_2 (by decide) ?_
  refine lv_bipush (v := 18) hx hb dX12_canAsk_4 (by decide) ?_
  refine fx_vi X h ym_X12_isIn yi_X12_isIn ys_X12_isIn (fx_s7 (List.mem_of_getElem? (i := 77) rfl) rfl) sh_159 rfl (c_X12_isIn l G hT) (As := [.int x1, .int (7 : Int32), .int (18 : Int32)]) (rest := []) rfl rfl ⟨Nat.le_of_ble_eq_true rfl, Nat.le_of_ble_eq_true rfl⟩ ⟨Nat.le_refl _, Nat.le_refl _⟩ hl.1 (Nat.le_of_ble_eq_true rfl) dX12_canAsk_6 (fun r3 M2 H locs hT h => ?_)
  exact fx_zret X hr hk h hT.1 hT.2 dX12_canAsk_9
/-! MockParcelsModel.readUnit()I -/
theorem dX12_readUnit_0 : decode cX12_readUnit 0 = .ok (.aload_n 0, 1) := by decide +kernel
theorem dX12_readUnit_1 : decode cX12_readUnit 1 = .ok (.getfield 188, 3) := by decide +kernel
theorem dX12_readUnit_4 : decode cX12_readUnit 4 = .ok (.iconst 2, 1) := by decide +kernel
theorem dX12_readUnit_5 : decode cX12_readUnit 5 = .ok (.if_icmp .ne 18, 3) := by decide +kernel
theorem dX12_readUnit_8 : decode cX12_readUnit 8 = .ok (.aload_n 0, 1) := by decide +kernel
theorem dX12_readUnit_9 : decode cX12_readUnit 9 = .ok (.aload_n 0, 1) := by decide +kernel
theorem dX12_readUnit_10 : decode cX12_readUnit 10 = .ok (.getfield 191, 3) := by decide +kernel
theorem dX12_readUnit_13 : decode cX12_readUnit 13 = .ok (.invokevirtual 215, 3) := by decide +kernel
theorem dX12_readUnit_16 : decode cX12_readUnit 16 = .ok (.ifCond .eq 7, 3) := by decide +kernel
theorem dX12_readUnit_19 : decode cX12_readUnit 19 = .ok (.iconst 1, 1) := by decide +kernel
theorem dX12_readUnit_20 : decode cX12_readUnit 20 = .ok (.goto 4, 3) := by decide +kernel
theorem dX12_readUnit_23 : decode cX12_readUnit 23 = .ok (.iconst 0, 1) := by decide +kernel
theorem dX12_readUnit_24 : decode cX12_readUnit 24 = .ok (.istore_n 1, 1) := by decide +kernel
theorem dX12_readUnit_25 : decode cX12_readUnit 25 = .ok (.iload_n 1, 1) := by decide +kernel
theorem dX12_readUnit_26 : decode cX12_readUnit 26 = .ok (.ifCond .ne 17, 3) := by decide +kernel
theorem dX12_readUnit_29 : decode cX12_readUnit 29 = .ok (.aload_n 0, 1) := by decide +kernel
theorem dX12_readUnit_30 : decode cX12_readUnit 30 = .ok (.getfield 188, 3) := by decide +kernel
theorem dX12_readUnit_33 : decode cX12_readUnit 33 = .ok (.iconst 3, 1) := by decide +kernel
theorem dX12_readUnit_34 : decode cX12_readUnit 34 = .ok (.if_icmp .eq 9, 3) := by decide +kernel
theorem dX12_readUnit_37 : decode cX12_readUnit 37 = .ok (.aload_n 0, 1) := by decide +kernel
theorem dX12_readUnit_38 : decode cX12_readUnit 38 = .ok (.iconst 1, 1) := by decide +kernel
theorem dX12_readUnit_39 : decode cX12_readUnit 39 = .ok (.invokevirtual 218, 3) := by decide +kernel
theorem dX12_readUnit_42 : decode cX12_readUnit 42 = .ok (.ireturn, 1) := by decide +kernel
theorem dX12_readUnit_43 : decode cX12_readUnit 43 = .ok (.aload_n 0, 1) := by decide +kernel
theorem dX12_readUnit_44 : decode cX12_readUnit 44 = .ok (.iload_n 1, 1) := by decide +kernel
theorem dX12_readUnit_45 : decode cX12_readUnit 45 = .ok (.ifCond .eq 7, 3) := by decide +kernel
theorem dX12_readUnit_48 : decode cX12_readUnit 48 = .ok (.iconst 1, 1) := by decide +kernel
theorem dX12_readUnit_49 : decode cX12_readUnit 49 = .ok (.goto 4, 3) := by decide +kernel
theorem dX12_readUnit_52 : decode cX12_readUnit 52 = .ok (.iconst 0, 1) := by decide +kernel
theorem dX12_readUnit_53 : decode cX12_readUnit 53 = .ok (.iload_n 1, 1) := by decide +kernel
theorem dX12_readUnit_54 : decode cX12_readUnit 54 = .ok (.ifCond .eq 13, 3) := by decide +kernel
theorem dX12_readUnit_57 : decode cX12_readUnit 57 = .ok (.aload_n 0, 1) := by decide +kernel
theorem dX12_readUnit_58 : decode cX12_readUnit 58 = .ok (.getfield 191, 3) := by decide +kernel
theorem dX12_readUnit_61 : decode cX12_readUnit 61 = .ok (.bipush 7, 2) := by decide +kernel
theorem dX12_readUnit_63 : decode cX12_readUnit 63 = .ok (.isub, 1) := by decide +kernel
theorem dX12_readUnit_64 : decode cX12_readUnit 64 = .ok (.goto 7, 3) := by decide +kernel
theorem dX12_readUnit_67 : decode cX12_readUnit 67 = .ok (.aload_n 0, 1) := by decide +kernel
theorem dX12_readUnit_68 : decode cX12_readUnit 68 = .ok (.getfield 191, 3) := by decide +kernel
theorem dX12_readUnit_71 : decode cX12_readUnit 71 = .ok (.invokevirtual 221, 3) := by decide +kernel
theorem dX12_readUnit_74 : decode cX12_readUnit 74 = .ok (.aload_n 0, 1) := by decide +kernel
theorem dX12_readUnit_75 : decode cX12_readUnit 75 = .ok (.invokevirtual 225, 3) := by decide +kernel
theorem dX12_readUnit_78 : decode cX12_readUnit 78 = .ok (.iconst 0, 1) := by decide +kernel
theorem dX12_readUnit_79 : decode cX12_readUnit 79 = .ok (.ireturn, 1) := by decide +kernel
def T_X12_readUnit_71 (s1 : Int32) (s2 : Int32) (M : Mm) (K : Int32 → Mm → Prop) : Prop := (T_X12_emits s1 s2 M (fun M2 => (T_X12_reads M2 (fun M4 => (K (0 : Int32) M4)))))
set_option maxHeartbeats 4000000 in
set_option maxRecDepth 100000 in
theorem w_X12_readUnit_71 {p : Program} {l : Launch} {e : Env} {s : State} {m : MethodId} {args : Array Value} {below : List Frame} {meth : Method} {c : Code} {G : fx_G} {K : Int32 → Mm → Prop} (X : fx_C G p s m c args cX12_readUnit 2 RX12) (hr : meth.sig.returnType = (some .int)) (hk : meth.locks = false) : ∀ (s1 : Int32) (s2 : Int32) (M : Mm) (H : Heap) (locs : List Loc) (ls : Array Slot), T_X12_readUnit_71 s1 s2 M K → fx_H G SH M s H locs → lv_has ls 2 [(0, .ref (G.2.2.2 + 159))] → W p l e (fx_rm (3)) s m args below meth c H locs 0 0 (MQ below (va_Qi K (fx_R G SH) (fx_A G)) args s 0 0 (fx_A G)) (F0 m 71 ls [.int s2, .int s1, .ref (G.2.2.2 + 159)]) := by
  obtain ⟨⟨hx, hb, hml, hown, hts⟩, hK, hQ⟩ := id X
  intro s1 s2 M H locs ls hT h hl
  unfold T_X12_readUnit_71 at hT
  refine fx_vv X h ym_X12_emits yi_X12_emits ys_X12_emits (fx_s7 (List.mem_of_getElem? (i := 225) rfl) rfl) sh_159 rfl (c_X12_emits l G hT) (As := [.int s1, .int s2]) (rest := []) rfl rfl ⟨Nat.le_of_ble_eq_true rfl, Nat.le_of_ble_eq_true rfl⟩ ⟨Nat.le_refl _, Nat.le_refl _⟩ hl.1 (Nat.le_of_ble_eq_true rfl) dX12_readUnit_71 (fun M2 H locs hT h => ?_)
  refine lv_aload_n hx hb dX12_readUnit_74 rfl (lv_at hl 0 rfl) ?_
  refine fx_vv X h ym_X12_reads yi_X12_reads ys_X12_reads (fx_s7 (List.mem_of_getElem? (i := 121) rfl) rfl) sh_159 rfl (c_X12_reads l G hT) (As := []) (rest := []) rfl rfl ⟨Nat.le_of_ble_eq_true rfl, Nat.le_of_ble_eq_true rfl⟩ ⟨Nat.le_refl _, Nat.le_refl _⟩ hl.1 (Nat.le_of_ble_eq_true rfl) dX12_readUnit_75 (fun M4 H locs hT h => ?_)
  refine lv_iconst (v := 0) hx hb dX12_readUnit_78 (by decide) ?_
  exact fx_iret X hr hk h hT dX12_readUnit_79
def T_X12_readUnit_53 (x1 : Int32) (s1 : Int32) (M : Mm) (K : Int32 → Mm → Prop) : Prop := ((x1 = 0 → (T_X12_readUnit_71 s1 (M 159 19) M K)) ∧ (¬ x1 = 0 → (T_X12_readUnit_71 s1 ((M 159 19) - (7 : Int32)) M K)))
set_option maxHeartbeats 4000000 in
set_option maxRecDepth 100000 in
theorem w_X12_readUnit_53 {p : Program} {l : Launch} {e : Env} {s : State} {m : MethodId} {args : Array Value} {below : List Frame} {meth : Method} {c : Code} {G : fx_G} {K : Int32 → Mm → Prop} (X : fx_C G p s m c args cX12_readUnit 2 RX12) (hr : meth.sig.returnType = (some .int)) (hk : meth.locks = false) : ∀ (x1 : Int32) (s1 : Int32) (M : Mm) (H : Heap) (locs : List Loc) (ls : Array Slot), T_X12_readUnit_53 x1 s1 M K → fx_H G SH M s H locs → lv_has ls 2 [(0, .ref (G.2.2.2 + 159)), (1, .int x1)] → W p l e (fx_rm (3)) s m args below meth c H locs 0 0 (MQ below (va_Qi K (fx_R G SH) (fx_A G)) args s 0 0 (fx_A G)) (F0 m 53 ls [.int s1, .ref (G.2.2.2 + 159)]) := by
  obtain ⟨⟨hx, hb, hml, hown, hts⟩, hK, hQ⟩ := id X
  intro x1 s1 M H locs ls hT h hl
  unfold T_X12_readUnit_53 at hT
  refine lv_iload_n hx hb dX12_readUnit_53 rfl (lv_at hl 1 rfl) ?_
  refine lv_if_eq (tgt := 67) hx hb dX12_readUnit_54 (by decide) (fun hc5 => ?_) (fun hc5 => ?_)
  · have hT := hT.1 hc5
    refine lv_aload_n hx hb dX12_readUnit_67 rfl (lv_at hl 0 rfl) ?_
    refine fx_getI X h (k := 159) (j := 19) sh_159 rfl fl_RX12_191 dX12_readUnit_68 ?_
    exact w_X12_readUnit_71 X hr hk s1 (M 159 19) M _ _ ls hT h (lv_sub hl [0] rfl)
  · have hT := hT.2 hc5
    refine lv_aload_n hx hb dX12_readUnit_57 rfl (lv_at hl 0 rfl) ?_
    refine fx_getI X h (k := 159) (j := 19) sh_159 rfl fl_RX12_191 dX12_readUnit_58 ?_
    refine lv_bipush (v := 7) hx hb dX12_readUnit_61 (by decide) ?_
    refine lv_isub hx hb dX12_readUnit_63 ?_
    refine lv_goto (tgt := 71) hx hb dX12_readUnit_64 (by decide) ?_
    exact w_X12_readUnit_71 X hr hk s1 ((M 159 19) - (7 : Int32)) M _ _ ls hT h (lv_sub hl [0] rfl)
def T_X12_readUnit_43 (x1 : Int32) (M : Mm) (K : Int32 → Mm → Prop) : Prop := ((x1 = 0 → (T_X12_readUnit_53 x1 (0 : Int32) M K)) ∧ (¬ x1 = 0 → (T_X12_readUnit_53 x1 (1 : Int32) M K)))
set_option maxHeartbeats 4000000 in
set_option maxRecDepth 100000 in
theorem w_X12_readUnit_43 {p : Program} {l : Launch} {e : Env} {s : State} {m : MethodId} {args : Array Value} {below : List Frame} {meth : Method} {c : Code} {G : fx_G} {K : Int32 → Mm → Prop} (X : fx_C G p s m c args cX12_readUnit 2 RX12) (hr : meth.sig.returnType = (some .int)) (hk : meth.locks = false) : ∀ (x1 : Int32) (M : Mm) (H : Heap) (locs : List Loc) (ls : Array Slot), T_X12_readUnit_43 x1 M K → fx_H G SH M s H locs → lv_has ls 2 [(0, .ref (G.2.2.2 + 159)), (1, .int x1)] → W p l e (fx_rm (3)) s m args below meth c H locs 0 0 (MQ below (va_Qi K (fx_R G SH) (fx_A G)) args s 0 0 (fx_A G)) (F0 m 43 ls []) := by
  obtain ⟨⟨hx, hb, hml, hown, hts⟩, hK, hQ⟩ := id X
  intro x1 M H locs ls hT h hl
  unfold T_X12_readUnit_43 at hT
  refine lv_aload_n hx hb dX12_readUnit_43 rfl (lv_at hl 0 rfl) ?_
  refine lv_iload_n hx hb dX12_readUnit_44 rfl (lv_at hl 1 rfl) ?_
  refine lv_if_eq (tgt := 52) hx hb dX12_readUnit_45 (by decide) (fun hc6 => ?_) (fun hc6 => ?_)
  · have hT := hT.1 hc6
    refine lv_iconst (v := 0) hx hb dX12_readUnit_52 (by decide) ?_
    exact w_X12_readUnit_53 X hr hk x1 (0 : Int32) M _ _ ls hT h (lv_sub hl [0, 1] rfl)
  · have hT := hT.2 hc6
    refine lv_iconst (v := 1) hx hb dX12_readUnit_48 (by decide) ?_
    refine lv_goto (tgt := 53) hx hb dX12_readUnit_49 (by decide) ?_
    exact w_X12_readUnit_53 X hr hk x1 (1 : Int32) M _ _ ls hT h (lv_sub hl [0, 1] rfl)
def T_X12_readUnit_24 (s0 : Int32) (M : Mm) (K : Int32 → Mm → Prop) : Prop := ((s0 = 0 → (((M 159 18) = (3 : Int32) → (T_X12_readUnit_43 s0 M K)) ∧ (¬ (M 159 18) = (3 : Int32) → (T_X12_errs (1 : Int32) M (fun r11 M10 => (K r11 M10)))))) ∧ (¬ s0 = 0 → (T_X12_readUnit_43 s0 M K)))
set_option maxHeartbeats 4000000 in
set_option maxRecDepth 100000 in
theorem w_X12_readUnit_24 {p : Program} {l : Launch} {e : Env} {s : State} {m : MethodId} {args : Array Value} {below : List Frame} {meth : Method} {c : Code} {G : fx_G} {K : Int32 → Mm → Prop} (X : fx_C G p s m c args cX12_readUnit 2 RX12) (hr : meth.sig.returnType = (some .int)) (hk : meth.locks = false) : ∀ (s0 : Int32) (M : Mm) (H : Heap) (locs : List Loc) (ls : Array Slot), T_X12_readUnit_24 s0 M K → fx_H G SH M s H locs → lv_has ls 2 [(0, .ref (G.2.2.2 + 159))] → W p l e (fx_rm (3)) s m args below meth c H locs 0 0 (MQ below (va_Qi K (fx_R G SH) (fx_A G)) args s 0 0 (fx_A G)) (F0 m 24 ls [.int s0]) := by
  obtain ⟨⟨hx, hb, hml, hown, hts⟩, hK, hQ⟩ := id X
  intro s0 M H locs ls hT h hl
  unfold T_X12_readUnit_24 at hT
  refine lv_istore_n (lv' := [(1, .int s0), (0, .ref (G.2.2.2 + 159))]) hx hb dX12_readUnit_24 rfl hl (by decide) rfl (fun ls hl => ?_)
  refine lv_iload_n hx hb dX12_readUnit_25 rfl (lv_at hl 0 rfl) ?_
  refine lv_if_ne (tgt := 43) hx hb dX12_readUnit_26 (by decide) (fun hc7 => ?_) (fun hc7 => ?_)
  · have hT := hT.2 hc7
    exact w_X12_readUnit_43 X hr hk s0 M _ _ ls hT h (lv_sub hl [1, 0] rfl)
  · have hT := hT.1 hc7
    refine lv_aload_n hx hb dX12_readUnit_29 rfl (lv_at hl 1 rfl) ?_
    refine fx_getI X h (k := 159) (j := 18) sh_159 rfl fl_RX12_188 dX12_readUnit_30 ?_
    refine lv_iconst (v := 3) hx hb dX12_readUnit_33 (by decide) ?_
    refine lv_icmp_eq (tgt := 43) hx hb dX12_readUnit_34 (by decide) (fun hc8 => ?_) (fun hc8 => ?_)
    · have hT := hT.1 hc8
      exact w_X12_readUnit_43 X hr hk s0 M _ _ ls hT h (lv_sub hl [1, 0] rfl)
    · have hT := hT.2 hc8
      refine lv_aload_n hx hb dX12_readUnit_37 rfl (lv_at hl 1 rfl) ?_
      refine lv_iconst (v := 1) hx hb dX12_readUnit_38 (by decide) ?_
      refine fx_vi X h ym_X12_errs yi_X12_errs ys_X12_errs (fx_s7 (List.mem_of_getElem? (i := 153) rfl) rfl) sh_159 rfl (c_X12_errs l G hT) (As := [.int (1 : Int32)]) (rest := []) rfl rfl ⟨Nat.le_of_ble_eq_true rfl, Nat.le_of_ble_eq_true rfl⟩ ⟨Nat.le_refl _, Nat.le_refl _⟩ hl.1 (Nat.le_of_ble_eq_true rfl) dX12_readUnit_39 (fun r11 M10 H locs hT h => ?_)
      exact fx_iret X hr hk h hT dX12_readUnit_42
def T_X12_readUnit_23 (M : Mm) (K : Int32 → Mm → Prop) : Prop := (T_X12_readUnit_24 (0 : Int32) M K)
set_option maxHeartbeats 4000000 in
set_option maxRecDepth 100000 in
theorem w_X12_readUnit_23 {p : Program} {l : Launch} {e : Env} {s : State} {m : MethodId} {args : Array Value} {below : List Frame} {meth : Method} {c : Code} {G : fx_G} {K : Int32 → Mm → Prop} (X : fx_C G p s m c args cX12_readUnit 2 RX12) (hr : meth.sig.returnType = (some .int)) (hk : meth.locks = false) : ∀ (M : Mm) (H : Heap) (locs : List Loc) (ls : Array Slot), T_X12_readUnit_23  M K → fx_H G SH M s H locs → lv_has ls 2 [(0, .ref (G.2.2.2 + 159))] → W p l e (fx_rm (3)) s m args below meth c H locs 0 0 (MQ below (va_Qi K (fx_R G SH) (fx_A G)) args s 0 0 (fx_A G)) (F0 m 23 ls []) := by
  obtain ⟨⟨hx, hb, hml, hown, hts⟩, hK, hQ⟩ := id X
  intro  M H locs ls hT h hl
  unfold T_X12_readUnit_23 at hT
  refine lv_iconst (v := 0) hx hb dX12_readUnit_23 (by decide) ?_
  exact w_X12_readUnit_24 X hr hk (0 : Int32) M _ _ ls hT h (lv_sub hl [0] rfl)
def T_X12_readUnit (M : Mm) (K : Int32 → Mm → Prop) : Prop := (((M 159 18) = (2 : Int32) → (T_X12_canAsk (M 159 19) M (fun r15 M14 => ((r15 = 0 → (T_X12_readUnit_23 M14 K)) ∧ (¬ r15 = 0 → (T_X12_readUnit_24 (1 : Int32) M14 K)))))) ∧ (¬ (M 159 18) = (2 : Int32) → (T_X12_readUnit_23 M K)))
set_option maxHeartbeats 4000000 in
set_option maxRecDepth 100000 in
theorem c_X12_readUnit (l : Launch) (G : fx_G) {M : Mm} {K : Int32 → Mm → Prop} (hT : T_X12_readUnit M K) : Met l yX12_readUnit (fx_ws yX12_readUnit cX12_readUnit 2 (some .int)) (fx_rm (3)) (va_Pc [.ref (G.2.2.2 + 159)] (fx_P G SH M)) (va_Qi K (fx_R G SH) (fx_A G)) 0 0 (fx_A G) := by
  refine fx_met (own := RX12) (by decide +kernel) rfl (Nat.le_of_ble_eq_true rfl) (fun p e s m below meth c X hr hk h ls hl => ?_)
  obtain ⟨⟨hx, hb, hml, hown, hts⟩, hK, hQ⟩ := id X
  have hl : lv_has ls 2 [(0, .ref (G.2.2.2 + 159))] := hl
  unfold T_X12_readUnit at hT
  refine lv_aload_n hx hb dX12_readUnit_0 rfl (lv_at hl 0 rfl) ?_
  refine fx_getI X h (k := 159) (j := 18) sh_159 rfl fl_RX12_188 dX12_readUnit_1 ?_
  refine lv_iconst (v := 2) hx hb dX12_readUnit_4 (by decide) ?_
  refine lv_icmp_ne (tgt := 23) hx hb dX12_readUnit_5 (by decide) (fun hc12 => ?_) (fun hc12 => ?_)
  · have hT := hT.2 hc12
    exact w_X12_readUnit_23 X hr hk M _ _ ls hT h (lv_sub hl [0] rfl)
  · have hT := hT.1 hc12
    refine lv_aload_n hx hb dX12_readUnit_8 rfl (lv_at hl 0 rfl) ?_
    refine lv_aload_n hx hb dX12_readUnit_9 rfl (lv_at hl 0 rfl) ?_
    refine fx_getI X h (k := 159) (j := 19) sh_159 rfl fl_RX12_191 dX12_readUnit_10 ?_
    refine fx_vi X h ym_X12_canAsk yi_X12_canAsk ys_X12_canAsk (fx_s7 (List.mem_of_getElem? (i := 221) rfl) rfl) sh_159 rfl (c_X12_canAsk l G hT) (As := [.int (M 159 19)]) (rest := []) rfl rfl ⟨Nat.le_of_ble_eq_true rfl, Nat.le_of_ble_eq_true rfl⟩ ⟨Nat.le_refl _, Nat.le_refl _⟩ hl.1 (Nat.le_of_ble_eq_true rfl) dX12_readUnit_13 (fun r15 M14 H locs hT h => ?_)
    refine lv_if_eq (tgt := 23) hx hb dX12_readUnit_16 (by decide) (fun hc16 => ?_) (fun hc16 => ?_)
    · have hT := hT.1 hc16
      exact w_X12_readUnit_23 X hr hk M14 _ _ ls hT h (lv_sub hl [0] rfl)
    · have hT := hT.2 hc16
      refine lv_iconst (v := 1) hx hb dX12_readUnit_19 (by decide) ?_
      refine lv_goto (tgt := 24) hx hb dX12_readUnit_20 (by decide) ?_
      exact w_X12_readUnit_24 X hr hk (1 : Int32) M14 _ _ ls hT h (lv_sub hl [0] rfl)
/-! MockParcelsModel.readProduct()I -/
theorem dX12_readProduct_0 : decode cX12_readProduct 0 = .ok (.aload_n 0, 1) := by decide +kernel
theorem dX12_readProduct_1 : decode cX12_readProduct 1 = .ok (.invokevirtual 228, 3) := by decide +kernel
theorem dX12_readProduct_4 : decode cX12_readProduct 4 = .ok (.iconst (-1), 1) := by decide +kernel
theorem dX12_readProduct_5 : decode cX12_readProduct 5 = .ok (.if_icmp .ne 5, 3) := by decide +kernel
theorem dX12_readProduct_8 : decode cX12_readProduct 8 = .ok (.iconst (-1), 1) := by decide +kernel
theorem dX12_readProduct_9 : decode cX12_readProduct 9 = .ok (.ireturn, 1) := by decide +kernel
theorem dX12_readProduct_10 : decode cX12_readProduct 10 = .ok (.aload_n 0, 1) := by decide +kernel
theorem dX12_readProduct_11 : decode cX12_readProduct 11 = .ok (.bipush 42, 2) := by decide +kernel
theorem dX12_readProduct_13 : decode cX12_readProduct 13 = .ok (.invokevirtual 232, 3) := by decide +kernel
theorem dX12_readProduct_16 : decode cX12_readProduct 16 = .ok (.ifCond .ne 12, 3) := by decide +kernel
theorem dX12_readProduct_19 : decode cX12_readProduct 19 = .ok (.aload_n 0, 1) := by decide +kernel
theorem dX12_readProduct_20 : decode cX12_readProduct 20 = .ok (.bipush 47, 2) := by decide +kernel
theorem dX12_readProduct_22 : decode cX12_readProduct 22 = .ok (.invokevirtual 232, 3) := by decide +kernel
theorem dX12_readProduct_25 : decode cX12_readProduct 25 = .ok (.ifCond .eq 76, 3) := by decide +kernel
theorem dX12_readProduct_28 : decode cX12_readProduct 28 = .ok (.aload_n 0, 1) := by decide +kernel
theorem dX12_readProduct_29 : decode cX12_readProduct 29 = .ok (.bipush 42, 2) := by decide +kernel
theorem dX12_readProduct_31 : decode cX12_readProduct 31 = .ok (.invokevirtual 232, 3) := by decide +kernel
theorem dX12_readProduct_34 : decode cX12_readProduct 34 = .ok (.istore_n 1, 1) := by decide +kernel
theorem dX12_readProduct_35 : decode cX12_readProduct 35 = .ok (.aload_n 0, 1) := by decide +kernel
theorem dX12_readProduct_36 : decode cX12_readProduct 36 = .ok (.invokevirtual 225, 3) := by decide +kernel
theorem dX12_readProduct_39 : decode cX12_readProduct 39 = .ok (.iload_n 1, 1) := by decide +kernel
theorem dX12_readProduct_40 : decode cX12_readProduct 40 = .ok (.ifCond .ne 17, 3) := by decide +kernel
theorem dX12_readProduct_43 : decode cX12_readProduct 43 = .ok (.aload_n 0, 1) := by decide +kernel
theorem dX12_readProduct_44 : decode cX12_readProduct 44 = .ok (.getfield 188, 3) := by decide +kernel
theorem dX12_readProduct_47 : decode cX12_readProduct 47 = .ok (.iconst 3, 1) := by decide +kernel
theorem dX12_readProduct_48 : decode cX12_readProduct 48 = .ok (.if_icmp .eq 9, 3) := by decide +kernel
theorem dX12_readProduct_51 : decode cX12_readProduct 51 = .ok (.aload_n 0, 1) := by decide +kernel
theorem dX12_readProduct_52 : decode cX12_readProduct 52 = .ok (.iconst 1, 1) := by decide +kernel
theorem dX12_readProduct_53 : decode cX12_readProduct 53 = .ok (.invokevirtual 218, 3) := by decide +kernel
theorem dX12_readProduct_56 : decode cX12_readProduct 56 = .ok (.ireturn, 1) := by decide +kernel
theorem dX12_readProduct_57 : decode cX12_readProduct 57 = .ok (.iload_n 1, 1) := by decide +kernel
theorem dX12_readProduct_58 : decode cX12_readProduct 58 = .ok (.ifCond .ne 16, 3) := by decide +kernel
theorem dX12_readProduct_61 : decode cX12_readProduct 61 = .ok (.aload_n 0, 1) := by decide +kernel
theorem dX12_readProduct_62 : decode cX12_readProduct 62 = .ok (.getfield 191, 3) := by decide +kernel
theorem dX12_readProduct_65 : decode cX12_readProduct 65 = .ok (.ifCond .ne 9, 3) := by decide +kernel
theorem dX12_readProduct_68 : decode cX12_readProduct 68 = .ok (.aload_n 0, 1) := by decide +kernel
theorem dX12_readProduct_69 : decode cX12_readProduct 69 = .ok (.iconst 2, 1) := by decide +kernel
theorem dX12_readProduct_70 : decode cX12_readProduct 70 = .ok (.invokevirtual 218, 3) := by decide +kernel
theorem dX12_readProduct_73 : decode cX12_readProduct 73 = .ok (.ireturn, 1) := by decide +kernel
theorem dX12_readProduct_74 : decode cX12_readProduct 74 = .ok (.aload_n 0, 1) := by decide +kernel
theorem dX12_readProduct_75 : decode cX12_readProduct 75 = .ok (.invokevirtual 228, 3) := by decide +kernel
theorem dX12_readProduct_78 : decode cX12_readProduct 78 = .ok (.iconst (-1), 1) := by decide +kernel
theorem dX12_readProduct_79 : decode cX12_readProduct 79 = .ok (.if_icmp .ne 5, 3) := by decide +kernel
theorem dX12_readProduct_82 : decode cX12_readProduct 82 = .ok (.iconst (-1), 1) := by decide +kernel
theorem dX12_readProduct_83 : decode cX12_readProduct 83 = .ok (.ireturn, 1) := by decide +kernel
theorem dX12_readProduct_84 : decode cX12_readProduct 84 = .ok (.aload_n 0, 1) := by decide +kernel
theorem dX12_readProduct_85 : decode cX12_readProduct 85 = .ok (.iload_n 1, 1) := by decide +kernel
theorem dX12_readProduct_86 : decode cX12_readProduct 86 = .ok (.ifCond .eq 7, 3) := by decide +kernel
theorem dX12_readProduct_89 : decode cX12_readProduct 89 = .ok (.iconst 4, 1) := by decide +kernel
theorem dX12_readProduct_90 : decode cX12_readProduct 90 = .ok (.goto 4, 3) := by decide +kernel
theorem dX12_readProduct_93 : decode cX12_readProduct 93 = .ok (.iconst 5, 1) := by decide +kernel
theorem dX12_readProduct_94 : decode cX12_readProduct 94 = .ok (.iconst 0, 1) := by decide +kernel
theorem dX12_readProduct_95 : decode cX12_readProduct 95 = .ok (.invokevirtual 221, 3) := by decide +kernel
theorem dX12_readProduct_98 : decode cX12_readProduct 98 = .ok (.goto (-88), 3) := by decide +kernel
theorem dX12_readProduct_101 : decode cX12_readProduct 101 = .ok (.iconst 0, 1) := by decide +kernel
theorem dX12_readProduct_102 : decode cX12_readProduct 102 = .ok (.ireturn, 1) := by decide +kernel
def T_X12_readProduct_94 (B10 : Mm → Prop) (s1 : Int32) (M : Mm) (K : Int32 → Mm → Prop) : Prop := (T_X12_emits s1 (0 : Int32) M (fun M2 => (B10 M2)))
set_option maxHeartbeats 4000000 in
set_option maxRecDepth 100000 in
theorem w_X12_readProduct_94 {p : Program} {l : Launch} {e : Env} {s : State} {m : MethodId} {args : Array Value} {below : List Frame} {meth : Method} {c : Code} {G : fx_G} {K : Int32 → Mm → Prop} {B10 : Mm → Prop} (X : fx_C G p s m c args cX12_readProduct 2 RX12) (hr : meth.sig.returnType = (some .int)) (hk : meth.locks = false) (hB10 : ∀ (M : Mm) (H : Heap) (locs : List Loc) (ls : Array Slot), B10  M → fx_H G SH M s H locs → lv_has ls 2 [(0, .ref (G.2.2.2 + 159))] → W p l e (fx_rm (4)) s m args below meth c H locs 0 0 (MQ below (va_Qi K (fx_R G SH) (fx_A G)) args s 0 0 (fx_A G)) (F0 m 10 ls [])) : ∀ (s1 : Int32) (M : Mm) (H : Heap) (locs : List Loc) (ls : Array Slot), T_X12_readProduct_94 B10 s1 M K → fx_H G SH M s H locs → lv_has ls 2 [(0, .ref (G.2.2.2 + 159))] → W p l e (fx_rm (4)) s m args below meth c H locs 0 0 (MQ below (va_Qi K (fx_R G SH) (fx_A G)) args s 0 0 (fx_A G)) (F0 m 94 ls [.int s1, .ref (G.2.2.2 + 159)]) := by
  obtain ⟨⟨hx, hb, hml, hown, hts⟩, hK, hQ⟩ := id X
  intro s1 M H locs ls hT h hl
  unfold T_X12_readProduct_94 at hT
  refine lv_iconst (v := 0) hx hb dX12_readProduct_94 (by decide) ?_
  refine fx_vv X h ym_X12_emits yi_X12_emits ys_X12_emits (fx_s7 (List.mem_of_getElem? (i := 225) rfl) rfl) sh_159 rfl (c_X12_emits l G hT) (As := [.int s1, .int (0 : Int32)]) (rest := []) rfl rfl ⟨Nat.le_of_ble_eq_true rfl, Nat.le_of_ble_eq_true rfl⟩ ⟨Nat.le_refl _, Nat.le_refl _⟩ hl.1 (Nat.le_of_ble_eq_true rfl) dX12_readProduct_95 (fun M2 H locs hT h => ?_)
  refine lv_goto (tgt := 10) hx hb dX12_readProduct_98 (by decide) ?_
  exact hB10 M2 _ _ ls hT h (lv_sub hl [0] rfl)
def T_X12_readProduct_74 (B10 : Mm → Prop) (x1 : Int32) (M : Mm) (K : Int32 → Mm → Prop) : Prop := (T_X12_readUnit M (fun r5 M4 => ((r5 = (-1 : Int32) → (K (-1 : Int32) M4)) ∧ (¬ r5 = (-1 : Int32) → ((x1 = 0 → (T_X12_readProduct_94 B10 (5 : Int32) M4 K)) ∧ (¬ x1 = 0 → (T_X12_readProduct_94 B10 (4 : Int32) M4 K)))))))
set_option maxHeartbeats 4000000 in
set_option maxRecDepth 100000 in
theorem w_X12_readProduct_74 {p : Program} {l : Launch} {e : Env} {s : State} {m : MethodId} {args : Array Value} {below : List Frame} {meth : Method} {c : Code} {G : fx_G} {K : Int32 → Mm → Prop} {B10 : Mm → Prop} (X : fx_C G p s m c args cX12_readProduct 2 RX12) (hr : meth.sig.returnType = (some .int)) (hk : meth.locks = false) (hB10 : ∀ (M : Mm) (H : Heap) (locs : List Loc) (ls : Array Slot), B10  M → fx_H G SH M s H locs → lv_has ls 2 [(0, .ref (G.2.2.2 + 159))] → W p l e (fx_rm (4)) s m args below meth c H locs 0 0 (MQ below (va_Qi K (fx_R G SH) (fx_A G)) args s 0 0 (fx_A G)) (F0 m 10 ls [])) : ∀ (x1 : Int32) (M : Mm) (H : Heap) (locs : List Loc) (ls : Array Slot), T_X12_readProduct_74 B10 x1 M K → fx_H G SH M s H locs → lv_has ls 2 [(0, .ref (G.2.2.2 + 159)), (1, .int x1)] → W p l e (fx_rm (4)) s m args below meth c H locs 0 0 (MQ below (va_Qi K (fx_R G SH) (fx_A G)) args s 0 0 (fx_A G)) (F0 m 74 ls []) := by
  obtain ⟨⟨hx, hb, hml, hown, hts⟩, hK, hQ⟩ := id X
  intro x1 M H locs ls hT h hl
  unfold T_X12_readProduct_74 at hT
  refine lv_aload_n hx hb dX12_readProduct_74 rfl (lv_at hl 0 rfl) ?_
  refine fx_vi X h ym_X12_readUnit yi_X12_readUnit ys_X12_readUnit (fx_s7 (List.mem_of_getElem? (i := 217) rfl) rfl) sh_159 rfl (c_X12_readUnit l G hT) (As := []) (rest := []) rfl rfl ⟨Nat.le_of_ble_eq_true rfl, Nat.le_of_ble_eq_true rfl⟩ ⟨Nat.le_refl _, Nat.le_refl _⟩ hl.1 (Nat.le_of_ble_eq_true rfl) dX12_readProduct_75 (fun r5 M4 H locs hT h => ?_)
  refine lv_iconst (v := -1) hx hb dX12_readProduct_78 (by decide) ?_
  refine lv_icmp_ne (tgt := 84) hx hb dX12_readProduct_79 (by decide) (fun hc6 => ?_) (fun hc6 => ?_)
  · have hT := hT.2 hc6
    refine lv_aload_n hx hb dX12_readProduct_84 rfl (lv_at hl 0 rfl) ?_
    refine lv_iload_n hx hb dX12_readProduct_85 rfl (lv_at hl 1 rfl) ?_
    refine lv_if_eq (tgt := 93) hx hb dX12_readProduct_86 (by decide) (fun hc7 => ?_) (fun hc7 => ?_)
    · have hT := hT.1 hc7
      refine lv_iconst (v := 5) hx hb dX12_readProduct_93 (by decide) ?_
      exact w_X12_readProduct_94 X hr hk (B10 := B10) hB10 (5 : Int32) M4 _ _ ls hT h (lv_sub hl [0] rfl)
    · have hT := hT.2 hc7
      refine lv_iconst (v := 4) hx hb dX12_readProduct_89 (by decide) ?_
      refine lv_goto (tgt := 94) hx hb dX12_readProduct_90 (by decide) ?_
      exact w_X12_readProduct_94 X hr hk (B10 := B10) hB10 (4 : Int32) M4 _ _ ls hT h (lv_sub hl [0] rfl)
  · have hT := hT.1 hc6
    refine lv_iconst (v := -1) hx hb dX12_readProduct_82 (by decide) ?_
    exact fx_iret X hr hk h hT dX12_readProduct_83
def T_X12_readProduct_57 (B10 : Mm → Prop) (x1 : Int32) (M : Mm) (K : Int32 → Mm → Prop) : Prop := ((x1 = 0 → (((M 159 19) = 0 → (T_X12_errs (2 : Int32) M (fun r12 M11 => (K r12 M11)))) ∧ (¬ (M 159 19) = 0 → (T_X12_readProduct_74 B10 x1 M K)))) ∧ (¬ x1 = 0 → (T_X12_readProduct_74 B10 x1 M K)))
set_option maxHeartbeats 4000000 in
set_option maxRecDepth 100000 in
theorem w_X12_readProduct_57 {p : Program} {l : Launch} {e : Env} {s : State} {m : MethodId} {args : Array Value} {below : List Frame} {meth : Method} {c : Code} {G : fx_G} {K : Int32 → Mm → Prop} {B10 : Mm → Prop} (X : fx_C G p s m c args cX12_readProduct 2 RX12) (hr : meth.sig.returnType = (some .int)) (hk : meth.locks = false) (hB10 : ∀ (M : Mm) (H : Heap) (locs : List Loc) (ls : Array Slot), B10  M → fx_H G SH M s H locs → lv_has ls 2 [(0, .ref (G.2.2.2 + 159))] → W p l e (fx_rm (4)) s m args below meth c H locs 0 0 (MQ below (va_Qi K (fx_R G SH) (fx_A G)) args s 0 0 (fx_A G)) (F0 m 10 ls [])) : ∀ (x1 : Int32) (M : Mm) (H : Heap) (locs : List Loc) (ls : Array Slot), T_X12_readProduct_57 B10 x1 M K → fx_H G SH M s H locs → lv_has ls 2 [(0, .ref (G.2.2.2 + 159)), (1, .int x1)] → W p l e (fx_rm (4)) s m args below meth c H locs 0 0 (MQ below (va_Qi K (fx_R G SH) (fx_A G)) args s 0 0 (fx_A G)) (F0 m 57 ls []) := by
  obtain ⟨⟨hx, hb, hml, hown, hts⟩, hK, hQ⟩ := id X
  intro x1 M H locs ls hT h hl
  unfold T_X12_readProduct_57 at hT
  refine lv_iload_n hx hb dX12_readProduct_57 rfl (lv_at hl 1 rfl) ?_
  refine lv_if_ne (tgt := 74) hx hb dX12_readProduct_58 (by decide) (fun hc8 => ?_) (fun hc8 => ?_)
  · have hT := hT.2 hc8
    exact w_X12_readProduct_74 X hr hk (B10 := B10) hB10 x1 M _ _ ls hT h (lv_sub hl [0, 1] rfl)
  · have hT := hT.1 hc8
    refine lv_aload_n hx hb dX12_readProduct_61 rfl (lv_at hl 0 rfl) ?_
    refine fx_getI X h (k := 159) (j := 19) sh_159 rfl fl_RX12_191 dX12_readProduct_62 ?_
    refine lv_if_ne (tgt := 74) hx hb dX12_readProduct_65 (by decide) (fun hc9 => ?_) (fun hc9 => ?_)
    · have hT := hT.2 hc9
      exact w_X12_readProduct_74 X hr hk (B10 := B10) hB10 x1 M _ _ ls hT h (lv_sub hl [0, 1] rfl)
    · have hT := hT.1 hc9
      refine lv_aload_n hx hb dX12_readProduct_68 rfl (lv_at hl 0 rfl) ?_
      refine lv_iconst (v := 2) hx hb dX12_readProduct_69 (by decide) ?_
      refine fx_vi X h ym_X12_errs yi_X12_errs ys_X12_errs (fx_s7 (List.mem_of_getElem? (i := 153) rfl) rfl) sh_159 rfl (c_X12_errs l G hT) (As := [.int (2 : Int32)]) (rest := []) rfl rfl ⟨Nat.le_of_ble_eq_true rfl, Nat.le_of_ble_eq_true rfl⟩ ⟨Nat.le_refl _, Nat.le_refl _⟩ hl.1 (Nat.le_of_ble_eq_true rfl) dX12_readProduct_70 (fun r12 M11 H locs hT h => ?_)
      exact fx_iret X hr hk h hT dX12_readProduct_73
def T_X12_readProduct_28 (B10 : Mm → Prop) (M : Mm) (K : Int32 → Mm → Prop) : Prop := (T_X12_isSign (42 : Int32) M (fun r15 M14 => (T_X12_reads M14 (fun M17 => ((r15 = 0 → (((M17 159 18) = (3 : Int32) → (T_X12_readProduct_57 B10 r15 M17 K)) ∧ (¬ (M17 159 18) = (3 : Int32) → (T_X12_errs (1 : Int32) M17 (fun r22 M21 => (K r22 M21)))))) ∧ (¬ r15 = 0 → (T_X12_readProduct_57 B10 r15 M17 K)))))))
set_option maxHeartbeats 4000000 in
set_option maxRecDepth 100000 in
theorem w_X12_readProduct_28 {p : Program} {l : Launch} {e : Env} {s : State} {m : MethodId} {args : Array Value} {below : List Frame} {meth : Method} {c : Code} {G : fx_G} {K : Int32 → Mm → Prop} {B10 : Mm → Prop} (X : fx_C G p s m c args cX12_readProduct 2 RX12) (hr : meth.sig.returnType = (some .int)) (hk : meth.locks = false) (hB10 : ∀ (M : Mm) (H : Heap) (locs : List Loc) (ls : Array Slot), B10  M → fx_H G SH M s H locs → lv_has ls 2 [(0, .ref (G.2.2.2 + 159))] → W p l e (fx_rm (4)) s m args below meth c H locs 0 0 (MQ below (va_Qi K (fx_R G SH) (fx_A G)) args s 0 0 (fx_A G)) (F0 m 10 ls [])) : ∀ (M : Mm) (H : Heap) (locs : List Loc) (ls : Array Slot), T_X12_readProduct_28 B10  M K → fx_H G SH M s H locs → lv_has ls 2 [(0, .ref (G.2.2.2 + 159))] → W p l e (fx_rm (4)) s m args below meth c H locs 0 0 (MQ below (va_Qi K (fx_R G SH) (fx_A G)) args s 0 0 (fx_A G)) (F0 m 28 ls []) := by
  obtain ⟨⟨hx, hb, hml, hown, hts⟩, hK, hQ⟩ := id X
  intro  M H locs ls hT h hl
  unfold T_X12_readProduct_28 at hT
  refine lv_aload_n hx hb dX12_readProduct_28 rfl (lv_at hl 0 rfl) ?_
  refine lv_bipush (v := 42) hx hb dX12_readProduct_29 (by decide) ?_
  refine fx_vi X h ym_X12_isSign yi_X12_isSign ys_X12_isSign (fx_s7 (List.mem_of_getElem? (i := 173) rfl) rfl) sh_159 rfl (c_X12_isSign l G hT) (As := [.int (42 : Int32)]) (rest := []) rfl rfl ⟨Nat.le_of_ble_eq_true rfl, Nat.le_of_ble_eq_true rfl⟩ ⟨Nat.le_refl _, Nat.le_refl _⟩ hl.1 (Nat.le_of_ble_eq_true rfl) dX12_readProduct_31 (fun r15 M14 H locs hT h => ?_)
  refine lv_istore_n (lv' := [(1, .int r15), (0, .ref (G.2.2.2 + 159))]) hx hb dX12_readProduct_34 rfl hl (by decide) rfl (fun ls hl => ?_)
  refine lv_aload_n hx hb dX12_readProduct_35 rfl (lv_at hl 1 rfl) ?_
  refine fx_vv X h ym_X12_reads yi_X12_reads ys_X12_reads (fx_s7 (List.mem_of_getElem? (i := 121) rfl) rfl) sh_159 rfl (c_X12_reads l G hT) (As := []) (rest := []) rfl rfl ⟨Nat.le_of_ble_eq_true rfl, Nat.le_of_ble_eq_true rfl⟩ ⟨Nat.le_refl _, Nat.le_refl _⟩ hl.1 (Nat.le_of_ble_eq_true rfl) dX12_readProduct_36 (fun M17 H locs hT h => ?_)
  refine lv_iload_n hx hb dX12_readProduct_39 rfl (lv_at hl 0 rfl) ?_
  refine lv_if_ne (tgt := 57) hx hb dX12_readProduct_40 (by decide) (fun hc18 => ?_) (fun hc18 => ?_)
  · have hT := hT.2 hc18
    exact w_X12_readProduct_57 X hr hk (B10 := B10) hB10 r15 M17 _ _ ls hT h (lv_sub hl [1, 0] rfl)
  · have hT := hT.1 hc18
    refine lv_aload_n hx hb dX12_readProduct_43 rfl (lv_at hl 1 rfl) ?_
    refine fx_getI X h (k := 159) (j := 18) sh_159 rfl fl_RX12_188 dX12_readProduct_44 ?_
    refine lv_iconst (v := 3) hx hb dX12_readProduct_47 (by decide) ?_
    refine lv_icmp_eq (tgt := 57) hx hb dX12_readProduct_48 (by decide) (fun hc19 => ?_) (fun hc19 => ?_)
    · have hT := hT.1 hc19
      exact w_X12_readProduct_57 X hr hk (B10 := B10) hB10 r15 M17 _ _ ls hT h (lv_sub hl [1, 0] rfl)
    · have hT := hT.2 hc19
      refine lv_aload_n hx hb dX12_readProduct_51 rfl (lv_at hl 1 rfl) ?_
      refine lv_iconst (v := 1) hx hb dX12_readProduct_52 (by decide) ?_
      refine fx_vi X h ym_X12_errs yi_X12_errs ys_X12_errs (fx_s7 (List.mem_of_getElem? (i := 153) rfl) rfl) sh_159 rfl (c_X12_errs l G hT) (As := [.int (1 : Int32)]) (rest := []) rfl rfl ⟨Nat.le_of_ble_eq_true rfl, Nat.le_of_ble_eq_true rfl⟩ ⟨Nat.le_refl _, Nat.le_refl _⟩ hl.1 (Nat.le_of_ble_eq_true rfl) dX12_readProduct_53 (fun r22 M21 H locs hT h => ?_)
      exact fx_iret X hr hk h hT dX12_readProduct_56
def T_X12_readProduct_10 : Nat → Mm → (Int32 → Mm → Prop) → Prop
  | 0, _, _ => False
  | n + 1, M, K => (T_X12_isSign (42 : Int32) M (fun r25 M24 => ((r25 = 0 → (T_X12_isSign (47 : Int32) M24 (fun r29 M28 => ((r29 = 0 → (K (0 : Int32) M28)) ∧ (¬ r29 = 0 → (T_X12_readProduct_28 (fun  M => T_X12_readProduct_10 n  M K) M28 K)))))) ∧ (¬ r25 = 0 → (T_X12_readProduct_28 (fun  M => T_X12_readProduct_10 n  M K) M24 K)))))
set_option maxHeartbeats 4000000 in
set_option maxRecDepth 100000 in
theorem w_X12_readProduct_10 {p : Program} {l : Launch} {e : Env} {s : State} {m : MethodId} {args : Array Value} {below : List Frame} {meth : Method} {c : Code} {G : fx_G} {K : Int32 → Mm → Prop} (X : fx_C G p s m c args cX12_readProduct 2 RX12) (hr : meth.sig.returnType = (some .int)) (hk : meth.locks = false) : ∀ (n : Nat) (M : Mm) (H : Heap) (locs : List Loc) (ls : Array Slot), T_X12_readProduct_10 n  M K → fx_H G SH M s H locs → lv_has ls 2 [(0, .ref (G.2.2.2 + 159))] → W p l e (fx_rm (4)) s m args below meth c H locs 0 0 (MQ below (va_Qi K (fx_R G SH) (fx_A G)) args s 0 0 (fx_A G)) (F0 m 10 ls []) := by
  obtain ⟨⟨hx, hb, hml, hown, hts⟩, hK, hQ⟩ := id X
  intro n
  induction n with
  | zero =>
    intro  M H locs ls hT
    exact hT.elim
  | succ n ih =>
    intro  M H locs ls hT h hl
    rw [T_X12_readProduct_10] at hT
    refine lv_aload_n hx hb dX12_readProduct_10 rfl (lv_at hl 0 rfl) ?_
    refine lv_bipush (v := 42) hx hb dX12_readProduct_11 (by decide) ?_
    refine fx_vi X h ym_X12_isSign yi_X12_isSign ys_X12_isSign (fx_s7 (List.mem_of_getElem? (i := 173) rfl) rfl) sh_159 rfl (c_X12_isSign l G hT) (As := [.int (42 : Int32)]) (rest := []) rfl rfl ⟨Nat.le_of_ble_eq_true rfl, Nat.le_of_ble_eq_true rfl⟩ ⟨Nat.le_refl _, Nat.le_refl _⟩ hl.1 (Nat.le_of_ble_eq_true rfl) dX12_readProduct_13 (fun r25 M24 H locs hT h => ?_)
    refine lv_if_ne (tgt := 28) hx hb dX12_readProduct_16 (by decide) (fun hc26 => ?_) (fun hc26 => ?_)
    · have hT := hT.2 hc26
      exact w_X12_readProduct_28 X hr hk (B10 := (fun  M => T_X12_readProduct_10 n  M K)) ih M24 _ _ ls hT h (lv_sub hl [0] rfl)
    · have hT := hT.1 hc26
      refine lv_aload_n hx hb dX12_readProduct_19 rfl (lv_at hl 0 rfl) ?_
      refine lv_bipush (v := 47) hx hb dX12_readProduct_20 (by decide) ?_
      refine fx_vi X h ym_X12_isSign yi_X12_isSign ys_X12_isSign (fx_s7 (List.mem_of_getElem? (i := 173) rfl) rfl) sh_159 rfl (c_X12_isSign l G hT) (As := [.int (47 : Int32)]) (rest := []) rfl rfl ⟨Nat.le_of_ble_eq_true rfl, Nat.le_of_ble_eq_true rfl⟩ ⟨Nat.le_refl _, Nat.le_refl _⟩ hl.1 (Nat.le_of_ble_eq_true rfl) dX12_readProduct_22 (fun r29 M28 H locs hT h => ?_)
      refine lv_if_eq (tgt := 101) hx hb dX12_readProduct_25 (by decide) (fun hc30 => ?_) (fun hc30 => ?_)
      · have hT := hT.1 hc30
        refine lv_iconst (v := 0) hx hb dX12_readProduct_101 (by decide) ?_
        exact fx_iret X hr hk h hT dX12_readProduct_102
      · have hT := hT.2 hc30
        exact w_X12_readProduct_28 X hr hk (B10 := (fun  M => T_X12_readProduct_10 n  M K)) ih M28 _ _ ls hT h (lv_sub hl [0] rfl)
def T_X12_readProduct (M : Mm) (K : Int32 → Mm → Prop) : Prop := (T_X12_readUnit M (fun r33 M32 => ((r33 = (-1 : Int32) → (K (-1 : Int32) M32)) ∧ (¬ r33 = (-1 : Int32) → (T_X12_readProduct_10 5000 M32 K)))))
set_option maxHeartbeats 4000000 in
set_option maxRecDepth 100000 in
theorem c_X12_readProduct (l : Launch) (G : fx_G) {M : Mm} {K : Int32 → Mm → Prop} (hT : T_X12_readProduct M K) : Met l yX12_readProduct (fx_ws yX12_readProduct cX12_readProduct 2 (some .int)) (fx_rm (4)) (va_Pc [.ref (G.2.2.2 + 159)] (fx_P G SH M)) (va_Qi K (fx_R G SH) (fx_A G)) 0 0 (fx_A G) := by
  refine fx_met (own := RX12) (by decide +kernel) rfl (Nat.le_of_ble_eq_true rfl) (fun p e s m below meth c X hr hk h ls hl => ?_)
  obtain ⟨⟨hx, hb, hml, hown, hts⟩, hK, hQ⟩ := id X
  have hl : lv_has ls 2 [(0, .ref (G.2.2.2 + 159))] := hl
  unfold T_X12_readProduct at hT
  refine lv_aload_n hx hb dX12_readProduct_0 rfl (lv_at hl 0 rfl) ?_
  refine fx_vi X h ym_X12_readUnit yi_X12_readUnit ys_X12_readUnit (fx_s7 (List.mem_of_getElem? (i := 217) rfl) rfl) sh_159 rfl (c_X12_readUnit l G hT) (As := []) (rest := []) rfl rfl ⟨Nat.le_of_ble_eq_true rfl, Nat.le_of_ble_eq_true rfl⟩ ⟨Nat.le_refl _, Nat.le_refl _⟩ hl.1 (Nat.le_of_ble_eq_true rfl) dX12_readProduct_1 (fun r33 M32 H locs hT h => ?_)
  refine lv_iconst (v := -1) hx hb dX12_readProduct_4 (by decide) ?_
  refine lv_icmp_ne (tgt := 10) hx hb dX12_readProduct_5 (by decide) (fun hc34 => ?_) (fun hc34 => ?_)
  · have hT := hT.2 hc34
    exact w_X12_readProduct_10 X hr hk 5000 M32 _ _ ls hT h (lv_sub hl [0] rfl)
  · have hT := hT.1 hc34
    refine lv_iconst (v := -1) hx hb dX12_readProduct_8 (by decide) ?_
    exact fx_iret X hr hk h hT dX12_readProduct_9
/-! MockParcelsModel.readSum()I -/
theorem dX12_readSum_0 : decode cX12_readSum 0 = .ok (.aload_n 0, 1) := by decide +kernel
theorem dX12_readSum_1 : decode cX12_readSum 1 = .ok (.invokevirtual 235, 3) := by decide +kernel
theorem dX12_readSum_4 : decode cX12_readSum 4 = .ok (.iconst (-1), 1) := by decide +kernel
theorem dX12_readSum_5 : decode cX12_readSum 5 = .ok (.if_icmp .ne 5, 3) := by decide +kernel
theorem dX12_readSum_8 : decode cX12_readSum 8 = .ok (.iconst (-1), 1) := by decide +kernel
theorem dX12_readSum_9 : decode cX12_readSum 9 = .ok (.ireturn, 1) := by decide +kernel
theorem dX12_readSum_10 : decode cX12_readSum 10 = .ok (.aload_n 0, 1) := by decide +kernel
theorem dX12_readSum_11 : decode cX12_readSum 11 = .ok (.bipush 43, 2) := by decide +kernel
theorem dX12_readSum_13 : decode cX12_readSum 13 = .ok (.invokevirtual 232, 3) := by decide +kernel
theorem dX12_readSum_16 : decode cX12_readSum 16 = .ok (.ifCond .ne 12, 3) := by decide +kernel
theorem dX12_readSum_19 : decode cX12_readSum 19 = .ok (.aload_n 0, 1) := by decide +kernel
theorem dX12_readSum_20 : decode cX12_readSum 20 = .ok (.bipush 45, 2) := by decide +kernel
theorem dX12_readSum_22 : decode cX12_readSum 22 = .ok (.invokevirtual 232, 3) := by decide +kernel
theorem dX12_readSum_25 : decode cX12_readSum 25 = .ok (.ifCond .eq 41, 3) := by decide +kernel
theorem dX12_readSum_28 : decode cX12_readSum 28 = .ok (.aload_n 0, 1) := by decide +kernel
theorem dX12_readSum_29 : decode cX12_readSum 29 = .ok (.getfield 191, 3) := by decide +kernel
theorem dX12_readSum_32 : decode cX12_readSum 32 = .ok (.bipush 43, 2) := by decide +kernel
theorem dX12_readSum_34 : decode cX12_readSum 34 = .ok (.if_icmp .ne 7, 3) := by decide +kernel
theorem dX12_readSum_37 : decode cX12_readSum 37 = .ok (.iconst 2, 1) := by decide +kernel
theorem dX12_readSum_38 : decode cX12_readSum 38 = .ok (.goto 4, 3) := by decide +kernel
theorem dX12_readSum_41 : decode cX12_readSum 41 = .ok (.iconst 3, 1) := by decide +kernel
theorem dX12_readSum_42 : decode cX12_readSum 42 = .ok (.istore_n 1, 1) := by decide +kernel
theorem dX12_readSum_43 : decode cX12_readSum 43 = .ok (.aload_n 0, 1) := by decide +kernel
theorem dX12_readSum_44 : decode cX12_readSum 44 = .ok (.invokevirtual 225, 3) := by decide +kernel
theorem dX12_readSum_47 : decode cX12_readSum 47 = .ok (.aload_n 0, 1) := by decide +kernel
theorem dX12_readSum_48 : decode cX12_readSum 48 = .ok (.invokevirtual 235, 3) := by decide +kernel
theorem dX12_readSum_51 : decode cX12_readSum 51 = .ok (.iconst (-1), 1) := by decide +kernel
theorem dX12_readSum_52 : decode cX12_readSum 52 = .ok (.if_icmp .ne 5, 3) := by decide +kernel
theorem dX12_readSum_55 : decode cX12_readSum 55 = .ok (.iconst (-1), 1) := by decide +kernel
theorem dX12_readSum_56 : decode cX12_readSum 56 = .ok (.ireturn, 1) := by decide +kernel
theorem dX12_readSum_57 : decode cX12_readSum 57 = .ok (.aload_n 0, 1) := by decide +kernel
theorem dX12_readSum_58 : decode cX12_readSum 58 = .ok (.iload_n 1, 1) := by decide +kernel
theorem dX12_readSum_59 : decode cX12_readSum 59 = .ok (.iconst 0, 1) := by decide +kernel
theorem dX12_readSum_60 : decode cX12_readSum 60 = .ok (.invokevirtual 221, 3) := by decide +kernel
theorem dX12_readSum_63 : decode cX12_readSum 63 = .ok (.goto (-53), 3) := by decide +kernel
theorem dX12_readSum_66 : decode cX12_readSum 66 = .ok (.iconst 0, 1) := by decide +kernel
theorem dX12_readSum_67 : decode cX12_readSum 67 = .ok (.ireturn, 1) := by decide +kernel
def T_X12_readSum_42 (B10 : Mm → Prop) (s0 : Int32) (M : Mm) (K : Int32 → Mm → Prop) : Prop := (T_X12_reads M (fun M2 => (T_X12_readProduct M2 (fun r5 M4 => ((r5 = (-1 : Int32) → (K (-1 : Int32) M4)) ∧ (¬ r5 = (-1 : Int32) → (T_X12_emits s0 (0 : Int32) M4 (fun M8 => (B10 M8)))))))))
set_option maxHeartbeats 4000000 in
set_option maxRecDepth 100000 in
theorem w_X12_readSum_42 {p : Program} {l : Launch} {e : Env} {s : State} {m : MethodId} {args : Array Value} {below : List Frame} {meth : Method} {c : Code} {G : fx_G} {K : Int32 → Mm → Prop} {B10 : Mm → Prop} (X : fx_C G p s m c args cX12_readSum 2 RX12) (hr : meth.sig.returnType = (some .int)) (hk : meth.locks = false) (hB10 : ∀ (M : Mm) (H : Heap) (locs : List Loc) (ls : Array Slot), B10  M → fx_H G SH M s H locs → lv_has ls 2 [(0, .ref (G.2.2.2 + 159))] → W p l e (fx_rm (5)) s m args below meth c H locs 0 0 (MQ below (va_Qi K (fx_R G SH) (fx_A G)) args s 0 0 (fx_A G)) (F0 m 10 ls [])) : ∀ (s0 : Int32) (M : Mm) (H : Heap) (locs : List Loc) (ls : Array Slot), T_X12_readSum_42 B10 s0 M K → fx_H G SH M s H locs → lv_has ls 2 [(0, .ref (G.2.2.2 + 159))] → W p l e (fx_rm (5)) s m args below meth c H locs 0 0 (MQ below (va_Qi K (fx_R G SH) (fx_A G)) args s 0 0 (fx_A G)) (F0 m 42 ls [.int s0]) := by
  obtain ⟨⟨hx, hb, hml, hown, hts⟩, hK, hQ⟩ := id X
  intro s0 M H locs ls hT h hl
  unfold T_X12_readSum_42 at hT
  refine lv_istore_n (lv' := [(1, .int s0), (0, .ref (G.2.2.2 + 159))]) hx hb dX12_readSum_42 rfl hl (by decide) rfl (fun ls hl => ?_)
  refine lv_aload_n hx hb dX12_readSum_43 rfl (lv_at hl 1 rfl) ?_
  refine fx_vv X h ym_X12_reads yi_X12_reads ys_X12_reads (fx_s7 (List.mem_of_getElem? (i := 121) rfl) rfl) sh_159 rfl (c_X12_reads l G hT) (As := []) (rest := []) rfl rfl ⟨Nat.le_of_ble_eq_true rfl, Nat.le_of_ble_eq_true rfl⟩ ⟨Nat.le_refl _, Nat.le_refl _⟩ hl.1 (Nat.le_of_ble_eq_true rfl) dX12_readSum_44 (fun M2 H locs hT h => ?_)
  refine lv_aload_n hx hb dX12_readSum_47 rfl (lv_at hl 1 rfl) ?_
  refine fx_vi X h ym_X12_readProduct yi_X12_readProduct ys_X12_readProduct (fx_s7 (List.mem_of_getElem? (i := 213) rfl) rfl) sh_159 rfl (c_X12_readProduct l G hT) (As := []) (rest := []) rfl rfl ⟨Nat.le_of_ble_eq_true rfl, Nat.le_of_ble_eq_true rfl⟩ ⟨Nat.le_refl _, Nat.le_refl _⟩ hl.1 (Nat.le_of_ble_eq_true rfl) dX12_readSum_48 (fun r5 M4 H locs hT h => ?_)
  refine lv_iconst (v := -1) hx hb dX12_readSum_51 (by decide) ?_
  refine lv_icmp_ne (tgt := 57) hx hb dX12_readSum_52 (by decide) (fun hc6 => ?_) (fun hc6 => ?_)
  · have hT := hT.2 hc6
    refine lv_aload_n hx hb dX12_readSum_57 rfl (lv_at hl 1 rfl) ?_
    refine lv_iload_n hx hb dX12_readSum_58 rfl (lv_at hl 0 rfl) ?_
    refine lv_iconst (v := 0) hx hb dX12_readSum_59 (by decide) ?_
    refine fx_vv X h ym_X12_emits yi_X12_emits ys_X12_emits (fx_s7 (List.mem_of_getElem? (i := 225) rfl) rfl) sh_159 rfl (c_X12_emits l G hT) (As := [.int s0, .int (0 : Int32)]) (rest := []) rfl rfl ⟨Nat.le_of_ble_eq_true rfl, Nat.le_of_ble_eq_true rfl⟩ ⟨Nat.le_refl _, Nat.le_refl _⟩ hl.1 (Nat.le_of_ble_eq_true rfl) dX12_readSum_60 (fun M8 H locs hT h => ?_)
    refine lv_goto (tgt := 10) hx hb dX12_readSum_63 (by decide) ?_
    exact hB10 M8 _ _ ls hT h (lv_sub hl [1] rfl)
  · have hT := hT.1 hc6
    refine lv_iconst (v := -1) hx hb dX12_readSum_55 (by decide) ?_
    exact fx_iret X hr hk h hT dX12_readSum_56
def T_X12_readSum_28 (B10 : Mm → Prop) (M : Mm) (K : Int32 → Mm → Prop) : Prop := (((M 159 19) = (43 : Int32) → (T_X12_readSum_42 B10 (2 : Int32) M K)) ∧ (¬ (M 159 19) = (43 : Int32) → (T_X12_readSum_42 B10 (3 : Int32) M K)))
set_option maxHeartbeats 4000000 in
set_option maxRecDepth 100000 in
theorem w_X12_readSum_28 {p : Program} {l : Launch} {e : Env} {s : State} {m : MethodId} {args : Array Value} {below : List Frame} {meth : Method} {c : Code} {G : fx_G} {K : Int32 → Mm → Prop} {B10 : Mm → Prop} (X : fx_C G p s m c args cX12_readSum 2 RX12) (hr : meth.sig.returnType = (some .int)) (hk : meth.locks = false) (hB10 : ∀ (M : Mm) (H : Heap) (locs : List Loc) (ls : Array Slot), B10  M → fx_H G SH M s H locs → lv_has ls 2 [(0, .ref (G.2.2.2 + 159))] → W p l e (fx_rm (5)) s m args below meth c H locs 0 0 (MQ below (va_Qi K (fx_R G SH) (fx_A G)) args s 0 0 (fx_A G)) (F0 m 10 ls [])) : ∀ (M : Mm) (H : Heap) (locs : List Loc) (ls : Array Slot), T_X12_readSum_28 B10  M K → fx_H G SH M s H locs → lv_has ls 2 [(0, .ref (G.2.2.2 + 159))] → W p l e (fx_rm (5)) s m args below meth c H locs 0 0 (MQ below (va_Qi K (fx_R G SH) (fx_A G)) args s 0 0 (fx_A G)) (F0 m 28 ls []) := by
  obtain ⟨⟨hx, hb, hml, hown, hts⟩, hK, hQ⟩ := id X
  intro  M H locs ls hT h hl
  unfold T_X12_readSum_28 at hT
  refine lv_aload_n hx hb dX12_readSum_28 rfl (lv_at hl 0 rfl) ?_
  refine fx_getI X h (k := 159) (j := 19) sh_159 rfl fl_RX12_191 dX12_readSum_29 ?_
  refine lv_bipush (v := 43) hx hb dX12_readSum_32 (by decide) ?_
  refine lv_icmp_ne (tgt := 41) hx hb dX12_readSum_34 (by decide) (fun hc9 => ?_) (fun hc9 => ?_)
  · have hT := hT.2 hc9
    refine lv_iconst (v := 3) hx hb dX12_readSum_41 (by decide) ?_
    exact w_X12_readSum_42 X hr hk (B10 := B10) hB10 (3 : Int32) M _ _ ls hT h (lv_sub hl [0] rfl)
  · have hT := hT.1 hc9
    refine lv_iconst (v := 2) hx hb dX12_readSum_37 (by decide) ?_
    refine lv_goto (tgt := 42) hx hb dX12_readSum_38 (by decide) ?_
    exact w_X12_readSum_42 X hr hk (B10 := B10) hB10 (2 : Int32) M _ _ ls hT h (lv_sub hl [0] rfl)
def T_X12_readSum_10 : Nat → Mm → (Int32 → Mm → Prop) → Prop
  | 0, _, _ => False
  | n + 1, M, K => (T_X12_isSign (43 : Int32) M (fun r12 M11 => ((r12 = 0 → (T_X12_isSign (45 : Int32) M11 (fun r16 M15 => ((r16 = 0 → (K (0 : Int32) M15)) ∧ (¬ r16 = 0 → (T_X12_readSum_28 (fun  M => T_X12_readSum_10 n  M K) M15 K)))))) ∧ (¬ r12 = 0 → (T_X12_readSum_28 (fun  M => T_X12_readSum_10 n  M K) M11 K)))))
set_option maxHeartbeats 4000000 in
set_option maxRecDepth 100000 in
theorem w_X12_readSum_10 {p : Program} {l : Launch} {e : Env} {s : State} {m : MethodId} {args : Array Value} {below : List Frame} {meth : Method} {c : Code} {G : fx_G} {K : Int32 → Mm → Prop} (X : fx_C G p s m c args cX12_readSum 2 RX12) (hr : meth.sig.returnType = (some .int)) (hk : meth.locks = false) : ∀ (n : Nat) (M : Mm) (H : Heap) (locs : List Loc) (ls : Array Slot), T_X12_readSum_10 n  M K → fx_H G SH M s H locs → lv_has ls 2 [(0, .ref (G.2.2.2 + 159))] → W p l e (fx_rm (5)) s m args below meth c H locs 0 0 (MQ below (va_Qi K (fx_R G SH) (fx_A G)) args s 0 0 (fx_A G)) (F0 m 10 ls []) := by
  obtain ⟨⟨hx, hb, hml, hown, hts⟩, hK, hQ⟩ := id X
  intro n
  induction n with
  | zero =>
    intro  M H locs ls hT
    exact hT.elim
  | succ n ih =>
    intro  M H locs ls hT h hl
    rw [T_X12_readSum_10] at hT
    refine lv_aload_n hx hb dX12_readSum_10 rfl (lv_at hl 0 rfl) ?_
    refine lv_bipush (v := 43) hx hb dX12_readSum_11 (by decide) ?_
    refine fx_vi X h ym_X12_isSign yi_X12_isSign ys_X12_isSign (fx_s7 (List.mem_of_getElem? (i := 173) rfl) rfl) sh_159 rfl (c_X12_isSign l G hT) (As := [.int (43 : Int32)]) (rest := []) rfl rfl ⟨Nat.le_of_ble_eq_true rfl, Nat.le_of_ble_eq_true rfl⟩ ⟨Nat.le_refl _, Nat.le_refl _⟩ hl.1 (Nat.le_of_ble_eq_true rfl) dX12_readSum_13 (fun r12 M11 H locs hT h => ?_)
    refine lv_if_ne (tgt := 28) hx hb dX12_readSum_16 (by decide) (fun hc13 => ?_) (fun hc13 => ?_)
    · have hT := hT.2 hc13
      exact w_X12_readSum_28 X hr hk (B10 := (fun  M => T_X12_readSum_10 n  M K)) ih M11 _ _ ls hT h (lv_sub hl [0] rfl)
    · have hT := hT.1 hc13
      refine lv_aload_n hx hb dX12_readSum_19 rfl (lv_at hl 0 rfl) ?_
      refine lv_bipush (v := 45) hx hb dX12_readSum_20 (by decide) ?_
      refine fx_vi X h ym_X12_isSign yi_X12_isSign ys_X12_isSign (fx_s7 (List.mem_of_getElem? (i := 173) rfl) rfl) sh_159 rfl (c_X12_isSign l G hT) (As := [.int (45 : Int32)]) (rest := []) rfl rfl ⟨Nat.le_of_ble_eq_true rfl, Nat.le_of_ble_eq_true rfl⟩ ⟨Nat.le_refl _, Nat.le_refl _⟩ hl.1 (Nat.le_of_ble_eq_true rfl) dX12_readSum_22 (fun r16 M15 H locs hT h => ?_)
      refine lv_if_eq (tgt := 66) hx hb dX12_readSum_25 (by decide) (fun hc17 => ?_) (fun hc17 => ?_)
      · have hT := hT.1 hc17
        refine lv_iconst (v := 0) hx hb dX12_readSum_66 (by decide) ?_
        exact fx_iret X hr hk h hT dX12_readSum_67
      · have hT := hT.2 hc17
        exact w_X12_readSum_28 X hr hk (B10 := (fun  M => T_X12_readSum_10 n  M K)) ih M15 _ _ ls hT h (lv_sub hl [0] rfl)
def T_X12_readSum (M : Mm) (K : Int32 → Mm → Prop) : Prop := (T_X12_readProduct M (fun r20 M19 => ((r20 = (-1 : Int32) → (K (-1 : Int32) M19)) ∧ (¬ r20 = (-1 : Int32) → (T_X12_readSum_10 5000 M19 K)))))
set_option maxHeartbeats 4000000 in
set_option maxRecDepth 100000 in
theorem c_X12_readSum (l : Launch) (G : fx_G) {M : Mm} {K : Int32 → Mm → Prop} (hT : T_X12_readSum M K) : Met l yX12_readSum (fx_ws yX12_readSum cX12_readSum 2 (some .int)) (fx_rm (5)) (va_Pc [.ref (G.2.2.2 + 159)] (fx_P G SH M)) (va_Qi K (fx_R G SH) (fx_A G)) 0 0 (fx_A G) := by
  refine fx_met (own := RX12) (by decide +kernel) rfl (Nat.le_of_ble_eq_true rfl) (fun p e s m below meth c X hr hk h ls hl => ?_)
  obtain ⟨⟨hx, hb, hml, hown, hts⟩, hK, hQ⟩ := id X
  have hl : lv_has ls 2 [(0, .ref (G.2.2.2 + 159))] := hl
  unfold T_X12_readSum at hT
  refine lv_aload_n hx hb dX12_readSum_0 rfl (lv_at hl 0 rfl) ?_
  refine fx_vi X h ym_X12_readProduct yi_X12_readProduct ys_X12_readProduct (fx_s7 (List.mem_of_getElem? (i := 213) rfl) rfl) sh_159 rfl (c_X12_readProduct l G hT) (As := []) (rest := []) rfl rfl ⟨Nat.le_of_ble_eq_true rfl, Nat.le_of_ble_eq_true rfl⟩ ⟨Nat.le_refl _, Nat.le_refl _⟩ hl.1 (Nat.le_of_ble_eq_true rfl) dX12_readSum_1 (fun r20 M19 H locs hT h => ?_)
  refine lv_iconst (v := -1) hx hb dX12_readSum_4 (by decide) ?_
  refine lv_icmp_ne (tgt := 10) hx hb dX12_readSum_5 (by decide) (fun hc21 => ?_) (fun hc21 => ?_)
  · have hT := hT.2 hc21
    exact w_X12_readSum_10 X hr hk 5000 M19 _ _ ls hT h (lv_sub hl [0] rfl)
  · have hT := hT.1 hc21
    refine lv_iconst (v := -1) hx hb dX12_readSum_8 (by decide) ?_
    exact fx_iret X hr hk h hT dX12_readSum_9
/-! MockParcelsModel.readCompared()I -/
theorem dX12_readCompared_0 : decode cX12_readCompared 0 = .ok (.aload_n 0, 1) := by decide +kernel
theorem dX12_readCompared_1 : decode cX12_readCompared 1 = .ok (.invokevirtual 238, 3) := by decide +kernel
theorem dX12_readCompared_4 : decode cX12_readCompared 4 = .ok (.iconst (-1), 1) := by decide +kernel
theorem dX12_readCompared_5 : decode cX12_readCompared 5 = .ok (.if_icmp .ne 5, 3) := by decide +kernel
theorem dX12_readCompared_8 : decode cX12_readCompared 8 = .ok (.iconst (-1), 1) := by decide +kernel
theorem dX12_readCompared_9 : decode cX12_readCompared 9 = .ok (.ireturn, 1) := by decide +kernel
theorem dX12_readCompared_10 : decode cX12_readCompared 10 = .ok (.aload_n 0, 1) := by decide +kernel
theorem dX12_readCompared_11 : decode cX12_readCompared 11 = .ok (.bipush 60, 2) := by decide +kernel
theorem dX12_readCompared_13 : decode cX12_readCompared 13 = .ok (.invokevirtual 232, 3) := by decide +kernel
theorem dX12_readCompared_16 : decode cX12_readCompared 16 = .ok (.ifCond .ne 27, 3) := by decide +kernel
theorem dX12_readCompared_19 : decode cX12_readCompared 19 = .ok (.aload_n 0, 1) := by decide +kernel
theorem dX12_readCompared_20 : decode cX12_readCompared 20 = .ok (.bipush 61, 2) := by decide +kernel
theorem dX12_readCompared_22 : decode cX12_readCompared 22 = .ok (.invokevirtual 232, 3) := by decide +kernel
theorem dX12_readCompared_25 : decode cX12_readCompared 25 = .ok (.ifCond .ne 18, 3) := by decide +kernel
theorem dX12_readCompared_28 : decode cX12_readCompared 28 = .ok (.aload_n 0, 1) := by decide +kernel
theorem dX12_readCompared_29 : decode cX12_readCompared 29 = .ok (.bipush 62, 2) := by decide +kernel
theorem dX12_readCompared_31 : decode cX12_readCompared 31 = .ok (.invokevirtual 232, 3) := by decide +kernel
theorem dX12_readCompared_34 : decode cX12_readCompared 34 = .ok (.ifCond .ne 9, 3) := by decide +kernel
theorem dX12_readCompared_37 : decode cX12_readCompared 37 = .ok (.aload_n 0, 1) := by decide +kernel
theorem dX12_readCompared_38 : decode cX12_readCompared 38 = .ok (.iconst 1, 1) := by decide +kernel
theorem dX12_readCompared_39 : decode cX12_readCompared 39 = .ok (.invokevirtual 218, 3) := by decide +kernel
theorem dX12_readCompared_42 : decode cX12_readCompared 42 = .ok (.ireturn, 1) := by decide +kernel
theorem dX12_readCompared_43 : decode cX12_readCompared 43 = .ok (.aload_n 0, 1) := by decide +kernel
theorem dX12_readCompared_44 : decode cX12_readCompared 44 = .ok (.getfield 191, 3) := by decide +kernel
theorem dX12_readCompared_47 : decode cX12_readCompared 47 = .ok (.bipush 60, 2) := by decide +kernel
theorem dX12_readCompared_49 : decode cX12_readCompared 49 = .ok (.if_icmp .ne 8, 3) := by decide +kernel
theorem dX12_readCompared_52 : decode cX12_readCompared 52 = .ok (.bipush 6, 2) := by decide +kernel
theorem dX12_readCompared_54 : decode cX12_readCompared 54 = .ok (.goto 19, 3) := by decide +kernel
theorem dX12_readCompared_57 : decode cX12_readCompared 57 = .ok (.aload_n 0, 1) := by decide +kernel
theorem dX12_readCompared_58 : decode cX12_readCompared 58 = .ok (.getfield 191, 3) := by decide +kernel
theorem dX12_readCompared_61 : decode cX12_readCompared 61 = .ok (.bipush 61, 2) := by decide +kernel
theorem dX12_readCompared_63 : decode cX12_readCompared 63 = .ok (.if_icmp .ne 8, 3) := by decide +kernel
theorem dX12_readCompared_66 : decode cX12_readCompared 66 = .ok (.bipush 7, 2) := by decide +kernel
theorem dX12_readCompared_68 : decode cX12_readCompared 68 = .ok (.goto 5, 3) := by decide +kernel
theorem dX12_readCompared_71 : decode cX12_readCompared 71 = .ok (.bipush 8, 2) := by decide +kernel
theorem dX12_readCompared_73 : decode cX12_readCompared 73 = .ok (.istore_n 1, 1) := by decide +kernel
theorem dX12_readCompared_74 : decode cX12_readCompared 74 = .ok (.aload_n 0, 1) := by decide +kernel
theorem dX12_readCompared_75 : decode cX12_readCompared 75 = .ok (.invokevirtual 225, 3) := by decide +kernel
theorem dX12_readCompared_78 : decode cX12_readCompared 78 = .ok (.aload_n 0, 1) := by decide +kernel
theorem dX12_readCompared_79 : decode cX12_readCompared 79 = .ok (.invokevirtual 238, 3) := by decide +kernel
theorem dX12_readCompared_82 : decode cX12_readCompared 82 = .ok (.iconst (-1), 1) := by decide +kernel
theorem dX12_readCompared_83 : decode cX12_readCompared 83 = .ok (.if_icmp .ne 5, 3) := by decide +kernel
theorem dX12_readCompared_86 : decode cX12_readCompared 86 = .ok (.iconst (-1), 1) := by decide +kernel
theorem dX12_readCompared_87 : decode cX12_readCompared 87 = .ok (.ireturn, 1) := by decide +kernel
theorem dX12_readCompared_88 : decode cX12_readCompared 88 = .ok (.aload_n 0, 1) := by decide +kernel
theorem dX12_readCompared_89 : decode cX12_readCompared 89 = .ok (.iload_n 1, 1) := by decide +kernel
theorem dX12_readCompared_90 : decode cX12_readCompared 90 = .ok (.iconst 0, 1) := by decide +kernel
theorem dX12_readCompared_91 : decode cX12_readCompared 91 = .ok (.invokevirtual 221, 3) := by decide +kernel
theorem dX12_readCompared_94 : decode cX12_readCompared 94 = .ok (.iconst 0, 1) := by decide +kernel
theorem dX12_readCompared_95 : decode cX12_readCompared 95 = .ok (.ireturn, 1) := by decide +kernel
def T_X12_readCompared_73 (s0 : Int32) (M : Mm) (K : Int32 → Mm → Prop) : Prop := (T_X12_reads M (fun M2 => (T_X12_readSum M2 (fun r5 M4 => ((r5 = (-1 : Int32) → (K (-1 : Int32) M4)) ∧ (¬ r5 = (-1 : Int32) → (T_X12_emits s0 (0 : Int32) M4 (fun M8 => (K (0 : Int32) M8)))))))))
set_option maxHeartbeats 4000000 in
set_option maxRecDepth 100000 in
theorem w_X12_readCompared_73 {p : Program} {l : Launch} {e : Env} {s : State} {m : MethodId} {args : Array Value} {below : List Frame} {meth : Method} {c : Code} {G : fx_G} {K : Int32 → Mm → Prop} (X : fx_C G p s m c args cX12_readCompared 2 RX12) (hr : meth.sig.returnType = (some .int)) (hk : meth.locks = false) : ∀ (s0 : Int32) (M : Mm) (H : Heap) (locs : List Loc) (ls : Array Slot), T_X12_readCompared_73 s0 M K → fx_H G SH M s H locs → lv_has ls 2 [(0, .ref (G.2.2.2 + 159))] → W p l e (fx_rm (6)) s m args below meth c H locs 0 0 (MQ below (va_Qi K (fx_R G SH) (fx_A G)) args s 0 0 (fx_A G)) (F0 m 73 ls [.int s0]) := by
  obtain ⟨⟨hx, hb, hml, hown, hts⟩, hK, hQ⟩ := id X
  intro s0 M H locs ls hT h hl
  unfold T_X12_readCompared_73 at hT
  refine lv_istore_n (lv' := [(1, .int s0), (0, .ref (G.2.2.2 + 159))]) hx hb dX12_readCompared_73 rfl hl (by decide) rfl (fun ls hl => ?_)
  refine lv_aload_n hx hb dX12_readCompared_74 rfl (lv_at hl 1 rfl) ?_
  refine fx_vv X h ym_X12_reads yi_X12_reads ys_X12_reads (fx_s7 (List.mem_of_getElem? (i := 121) rfl) rfl) sh_159 rfl (c_X12_reads l G hT) (As := []) (rest := []) rfl rfl ⟨Nat.le_of_ble_eq_true rfl, Nat.le_of_ble_eq_true rfl⟩ ⟨Nat.le_refl _, Nat.le_refl _⟩ hl.1 (Nat.le_of_ble_eq_true rfl) dX12_readCompared_75 (fun M2 H locs hT h => ?_)
  refine lv_aload_n hx hb dX12_readCompared_78 rfl (lv_at hl 1 rfl) ?_
  refine fx_vi X h ym_X12_readSum yi_X12_readSum ys_X12_readSum (fx_s7 (List.mem_of_getElem? (i := 209) rfl) rfl) sh_159 rfl (c_X12_readSum l G hT) (As := []) (rest := []) rfl rfl ⟨Nat.le_of_ble_eq_true rfl, Nat.le_of_ble_eq_true rfl⟩ ⟨Nat.le_refl _, Nat.le_refl _⟩ hl.1 (Nat.le_of_ble_eq_true rfl) dX12_readCompared_79 (fun r5 M4 H locs hT h => ?_)
  refine lv_iconst (v := -1) hx hb dX12_readCompared_82 (by decide) ?_
  refine lv_icmp_ne (tgt := 88) hx hb dX12_readCompared_83 (by decide) (fun hc6 => ?_) (fun hc6 => ?_)
  · have hT := hT.2 hc6
    refine lv_aload_n hx hb dX12_readCompared_88 rfl (lv_at hl 1 rfl) ?_
    refine lv_iload_n hx hb dX12_readCompared_89 rfl (lv_at hl 0 rfl) ?_
    refine lv_iconst (v := 0) hx hb dX12_readCompared_90 (by decide) ?_
    refine fx_vv X h ym_X12_emits yi_X12_emits ys_X12_emits (fx_s7 (List.mem_of_getElem? (i := 225) rfl) rfl) sh_159 rfl (c_X12_emits l G hT) (As := [.int s0, .int (0 : Int32)]) (rest := []) rfl rfl ⟨Nat.le_of_ble_eq_true rfl, Nat.le_of_ble_eq_true rfl⟩ ⟨Nat.le_refl _, Nat.le_refl _⟩ hl.1 (Nat.le_of_ble_eq_true rfl) dX12_readCompared_91 (fun M8 H locs hT h => ?_)
    refine lv_iconst (v := 0) hx hb dX12_readCompared_94 (by decide) ?_
    exact fx_iret X hr hk h hT dX12_readCompared_95
  · have hT := hT.1 hc6
    refine lv_iconst (v := -1) hx hb dX12_readCompared_86 (by decide) ?_
    exact fx_iret X hr hk h hT dX12_readCompared_87
def T_X12_readCompared_43 (M : Mm) (K : Int32 → Mm → Prop) : Prop := (((M 159 19) = (60 : Int32) → (T_X12_readCompared_73 (6 : Int32) M K)) ∧ (¬ (M 159 19) = (60 : Int32) → (((M 159 19) = (61 : Int32) → (T_X12_readCompared_73 (7 : Int32) M K)) ∧ (¬ (M 159 19) = (61 : Int32) → (T_X12_readCompared_73 (8 : Int32) M K)))))
set_option maxHeartbeats 4000000 in
set_option maxRecDepth 100000 in
theorem w_X12_readCompared_43 {p : Program} {l : Launch} {e : Env} {s : State} {m : MethodId} {args : Array Value} {below : List Frame} {meth : Method} {c : Code} {G : fx_G} {K : Int32 → Mm → Prop} (X : fx_C G p s m c args cX12_readCompared 2 RX12) (hr : meth.sig.returnType = (some .int)) (hk : meth.locks = false) : ∀ (M : Mm) (H : Heap) (locs : List Loc) (ls : Array Slot), T_X12_readCompared_43  M K → fx_H G SH M s H locs → lv_has ls 2 [(0, .ref (G.2.2.2 + 159))] → W p l e (fx_rm (6)) s m args below meth c H locs 0 0 (MQ below (va_Qi K (fx_R G SH) (fx_A G)) args s 0 0 (fx_A G)) (F0 m 43 ls []) := by
  obtain ⟨⟨hx, hb, hml, hown, hts⟩, hK, hQ⟩ := id X
  intro  M H locs ls hT h hl
  unfold T_X12_readCompared_43 at hT
  refine lv_aload_n hx hb dX12_readCompared_43 rfl (lv_at hl 0 rfl) ?_
  refine fx_getI X h (k := 159) (j := 19) sh_159 rfl fl_RX12_191 dX12_readCompared_44 ?_
  refine lv_bipush (v := 60) hx hb dX12_readCompared_47 (by decide) ?_
  refine lv_icmp_ne (tgt := 57) hx hb dX12_readCompared_49 (by decide) (fun hc9 => ?_) (fun hc9 => ?_)
  · have hT := hT.2 hc9
    refine lv_aload_n hx hb dX12_readCompared_57 rfl (lv_at hl 0 rfl) ?_
    refine fx_getI X h (k := 159) (j := 19) sh_159 rfl fl_RX12_191 dX12_readCompared_58 ?_
    refine lv_bipush (v := 61) hx hb dX12_readCompared_61 (by decide) ?_
    refine lv_icmp_ne (tgt := 71) hx hb dX12_readCompared_63 (by decide) (fun hc10 => ?_) (fun hc10 => ?_)
    · have hT := hT.2 hc10
      refine lv_bipush (v := 8) hx hb dX12_readCompared_71 (by decide) ?_
      exact w_X12_readCompared_73 X hr hk (8 : Int32) M _ _ ls hT h (lv_sub hl [0] rfl)
    · have hT := hT.1 hc10
      refine lv_bipush (v := 7) hx hb dX12_readCompared_66 (by decide) ?_
      refine lv_goto (tgt := 73) hx hb dX12_readCompared_68 (by decide) ?_
      exact w_X12_readCompared_73 X hr hk (7 : Int32) M _ _ ls hT h (lv_sub hl [0] rfl)
  · have hT := hT.1 hc9
    refine lv_bipush (v := 6) hx hb dX12_readCompared_52 (by decide) ?_
    refine lv_goto (tgt := 73) hx hb dX12_readCompared_54 (by decide) ?_
    exact w_X12_readCompared_73 X hr hk (6 : Int32) M _ _ ls hT h (lv_sub hl [0] rfl)
def T_X12_readCompared (M : Mm) (K : Int32 → Mm → Prop) : Prop := (T_X12_readSum M (fun r13 M12 => ((r13 = (-1 : Int32) → (K (-1 : Int32) M12)) ∧ (¬ r13 = (-1 : Int32) → (T_X12_isSign (60 : Int32) M12 (fun r17 M16 => ((r17 = 0 → (T_X12_isSign (61 : Int32) M16 (fun r21 M20 => ((r21 = 0 → (T_X12_isSign (62 : Int32) M20 (fun r25 M24 => ((r25 = 0 → (T_X12_errs (1 : Int32) M24 (fun r29 M28 => (K r29 M28)))) ∧ (¬ r25 = 0 → (T_X12_readCompared_43 M24 K)))))) ∧ (¬ r21 = 0 → (T_X12_readCompared_43 M20 K)))))) ∧ (¬ r17 = 0 → (T_X12_readCompared_43 M16 K)))))))))
set_option maxHeartbeats 4000000 in
set_option maxRecDepth 100000 in
theorem c_X12_readCompared (l : Launch) (G : fx_G) {M : Mm} {K : Int32 → Mm → Prop} (hT : T_X12_readCompared M K) : Met l yX12_readCompared (fx_ws yX12_readCompared cX12_readCompared 2 (some .int)) (fx_rm (6)) (va_Pc [.ref (G.2.2.2 + 159)] (fx_P G SH M)) (va_Qi K (fx_R G SH) (fx_A G)) 0 0 (fx_A G) := by
  refine fx_met (own := RX12) (by decide +kernel) rfl (Nat.le_of_ble_eq_true rfl) (fun p e s m below meth c X hr hk h ls hl => ?_)
  obtain ⟨⟨hx, hb, hml, hown, hts⟩, hK, hQ⟩ := id X
  have hl : lv_has ls 2 [(0, .ref (G.2.2.2 + 159))] := hl
  unfold T_X12_readCompared at hT
  refine lv_aload_n hx hb dX12_readCompared_0 rfl (lv_at hl 0 rfl) ?_
  refine fx_vi X h ym_X12_readSum yi_X12_readSum ys_X12_readSum (fx_s7 (List.mem_of_getElem? (i := 209) rfl) rfl) sh_159 rfl (c_X12_readSum l G hT) (As := []) (rest := []) rfl rfl ⟨Nat.le_of_ble_eq_true rfl, Nat.le_of_ble_eq_true rfl⟩ ⟨Nat.le_refl _, Nat.le_refl _⟩ hl.1 (Nat.le_of_ble_eq_true rfl) dX12_readCompared_1 (fun r13 M12 H locs hT h => ?_)
  refine lv_iconst (v := -1) hx hb dX12_readCompared_4 (by decide) ?_
  refine lv_icmp_ne (tgt := 10) hx hb dX12_readCompared_5 (by decide) (fun hc14 => ?_) (fun hc14 => ?_)
  · have hT := hT.2 hc14
    refine lv_aload_n hx hb dX12_readCompared_10 rfl (lv_at hl 0 rfl) ?_
    refine lv_bipush (v := 60) hx hb dX12_readCompared_11 (by decide) ?_
    refine fx_vi X h ym_X12_isSign yi_X12_isSign ys_X12_isSign (fx_s7 (List.mem_of_getElem? (i := 173) rfl) rfl) sh_159 rfl (c_X12_isSign l G hT) (As := [.int (60 : Int32)]) (rest := []) rfl rfl ⟨Nat.le_of_ble_eq_true rfl, Nat.le_of_ble_eq_true rfl⟩ ⟨Nat.le_refl _, Nat.le_refl _⟩ hl.1 (Nat.le_of_ble_eq_true rfl) dX12_readCompared_13 (fun r17 M16 H locs hT h => ?_)
    refine lv_if_ne (tgt := 43) hx hb dX12_readCompared_16 (by decide) (fun hc18 => ?_) (fun hc18 => ?_)
    · have hT := hT.2 hc18
      exact w_X12_readCompared_43 X hr hk M16 _ _ ls hT h (lv_sub hl [0] rfl)
    · have hT := hT.1 hc18
      refine lv_aload_n hx hb dX12_readCompared_19 rfl (lv_at hl 0 rfl) ?_
      refine lv_bipush (v := 61) hx hb dX12_readCompared_20 (by decide) ?_
      refine fx_vi X h ym_X12_isSign yi_X12_isSign ys_X12_isSign (fx_s7 (List.mem_of_getElem? (i := 173) rfl) rfl) sh_159 rfl (c_X12_isSign l G hT) (As := [.int (61 : Int32)]) (rest := []) rfl rfl ⟨Nat.le_of_ble_eq_true rfl, Nat.le_of_ble_eq_true rfl⟩ ⟨Nat.le_refl _, Nat.le_refl _⟩ hl.1 (Nat.le_of_ble_eq_true rfl) dX12_readCompared_22 (fun r21 M20 H locs hT h => ?_)
      refine lv_if_ne (tgt := 43) hx hb dX12_readCompared_25 (by decide) (fun hc22 => ?_) (fun hc22 => ?_)
      · have hT := hT.2 hc22
        exact w_X12_readCompared_43 X hr hk M20 _ _ ls hT h (lv_sub hl [0] rfl)
      · have hT := hT.1 hc22
        refine lv_aload_n hx hb dX12_readCompared_28 rfl (lv_at hl 0 rfl) ?_
        refine lv_bipush (v := 62) hx hb dX12_readCompared_29 (by decide) ?_
        refine fx_vi X h ym_X12_isSign yi_X12_isSign ys_X12_isSign (fx_s7 (List.mem_of_getElem? (i := 173) rfl) rfl) sh_159 rfl (c_X12_isSign l G hT) (As := [.int (62 : Int32)]) (rest := []) rfl rfl ⟨Nat.le_of_ble_eq_true rfl, Nat.le_of_ble_eq_true rfl⟩ ⟨Nat.le_refl _, Nat.le_refl _⟩ hl.1 (Nat.le_of_ble_eq_true rfl) dX12_readCompared_31 (fun r25 M24 H locs hT h => ?_)
        refine lv_if_ne (tgt := 43) hx hb dX12_readCompared_34 (by decide) (fun hc26 => ?_) (fun hc26 => ?_)
        · have hT := hT.2 hc26
          exact w_X12_readCompared_43 X hr hk M24 _ _ ls hT h (lv_sub hl [0] rfl)
        · have hT := hT.1 hc26
          refine lv_aload_n hx hb dX12_readCompared_37 rfl (lv_at hl 0 rfl) ?_
          refine lv_iconst (v := 1) hx hb dX12_readCompared_38 (by decide) ?_
          refine fx_vi X h ym_X12_errs yi_X12_errs ys_X12_errs (fx_s7 (List.mem_of_getElem? (i := 153) rfl) rfl) sh_159 rfl (c_X12_errs l G hT) (As := [.int (1 : Int32)]) (rest := []) rfl rfl ⟨Nat.le_of_ble_eq_true rfl, Nat.le_of_ble_eq_true rfl⟩ ⟨Nat.le_refl _, Nat.le_refl _⟩ hl.1 (Nat.le_of_ble_eq_true rfl) dX12_readCompared_39 (fun r29 M28 H locs hT h => ?_)
          exact fx_iret X hr hk h hT dX12_readCompared_42
  · have hT := hT.1 hc14
    refine lv_iconst (v := -1) hx hb dX12_readCompared_8 (by decide) ?_
    exact fx_iret X hr hk h hT dX12_readCompared_9
/-! MockParcelsModel.waits(I)V -/
theorem dX12_waits_0 : decode cX12_waits 0 = .ok (.aload_n 0, 1) := by decide +kernel
theorem dX12_waits_1 : decode cX12_waits 1 = .ok (.getfield 64, 3) := by decide +kernel
theorem dX12_waits_4 : decode cX12_waits 4 = .ok (.aload_n 0, 1) := by decide +kernel
theorem dX12_waits_5 : decode cX12_waits 5 = .ok (.getfield 241, 3) := by decide +kernel
theorem dX12_waits_8 : decode cX12_waits 8 = .ok (.iload_n 1, 1) := by decide +kernel
theorem dX12_waits_9 : decode cX12_waits 9 = .ok (.iastore, 1) := by decide +kernel
theorem dX12_waits_10 : decode cX12_waits 10 = .ok (.aload_n 0, 1) := by decide +kernel
theorem dX12_waits_11 : decode cX12_waits 11 = .ok (.aload_n 0, 1) := by decide +kernel
theorem dX12_waits_12 : decode cX12_waits 12 = .ok (.getfield 241, 3) := by decide +kernel
theorem dX12_waits_15 : decode cX12_waits 15 = .ok (.iconst 1, 1) := by decide +kernel
theorem dX12_waits_16 : decode cX12_waits 16 = .ok (.iadd, 1) := by decide +kernel
theorem dX12_waits_17 : decode cX12_waits 17 = .ok (.putfield 241, 3) := by decide +kernel
theorem dX12_waits_20 : decode cX12_waits 20 = .ok (.return_, 1) := by decide +kernel
def T_X12_waits (x1 : Int32) (M : Mm) (K : Mm → Prop) : Prop := (vp_in (M 159 32) 40 ∧ (∀ M1 : Mm, M1 = m_up M 178 ((M 159 32)).toNatClampNeg x1 → (∀ M3 : Mm, M3 = m_up M1 159 32 ((M1 159 32) + (1 : Int32)) → (K M3))))
set_option maxHeartbeats 4000000 in
set_option maxRecDepth 100000 in
theorem c_X12_waits (l : Launch) (G : fx_G) {x1 : Int32} {M : Mm} {K : Mm → Prop} (hT : T_X12_waits x1 M K) : Met l yX12_waits (fx_ws yX12_waits cX12_waits 2 none) (fx_rm (0)) (va_Pc [.ref (G.2.2.2 + 159), .int x1] (fx_P G SH M)) (va_Qv K (fx_R G SH) (fx_A G)) 0 0 (fx_A G) := by
  refine fx_met (own := RX12) (by decide +kernel) rfl (Nat.le_of_ble_eq_true rfl) (fun p e s m below meth c X hr hk h ls hl => ?_)
  obtain ⟨⟨hx, hb, hml, hown, hts⟩, hK, hQ⟩ := id X
  have hl : lv_has ls 2 [(0, .ref (G.2.2.2 + 159)), (1, .int x1)] := hl
  unfold T_X12_waits at hT
  refine lv_aload_n hx hb dX12_waits_0 rfl (lv_at hl 0 rfl) ?_
  refine fx_getR X h (k := 159) (j := 31) (r := 178) sh_159 rfl fl_RX12_64 dX12_waits_1 ?_
  refine lv_aload_n hx hb dX12_waits_4 rfl (lv_at hl 0 rfl) ?_
  refine fx_getI X h (k := 159) (j := 32) sh_159 rfl fl_RX12_241 dX12_waits_5 ?_
  refine lv_iload_n hx hb dX12_waits_8 rfl (lv_at hl 1 rfl) ?_
  obtain ⟨hi2, hT⟩ := hT
  refine fx_iast X h (k := 178) sh_178 hi2 dX12_waits_9 (fun H locs h => ?_)
  obtain ⟨M1, eM1⟩ : ∃ z : Mm, z = m_up M 178 ((M 159 32)).toNatClampNeg x1 := ⟨_, rfl⟩
  have hT := hT M1 eM1
  rw [← eM1] at h
  refine lv_aload_n hx hb dX12_waits_10 rfl (lv_at hl 0 rfl) ?_
  refine lv_aload_n hx hb dX12_waits_11 rfl (lv_at hl 0 rfl) ?_
  refine fx_getI X h (k := 159) (j := 32) sh_159 rfl fl_RX12_241 dX12_waits_12 ?_
  refine lv_iconst (v := 1) hx hb dX12_waits_15 (by decide) ?_
  refine lv_iadd hx hb dX12_waits_16 ?_
  refine fx_putI X h (k := 159) (j := 32) sh_159 rfl fl_RX12_241 dX12_waits_17 (fun H locs h => ?_)
  obtain ⟨M3, eM3⟩ : ∃ z : Mm, z = m_up M1 159 32 ((M1 159 32) + (1 : Int32)) := ⟨_, rfl⟩
  have hT := hT M3 eM3
  rw [← eM3] at h
  exact fx_vret X hr hk h hT dX12_waits_20
/-! MockParcelsModel.settles(I)V -/
theorem dX12_settles_0 : decode cX12_settles 0 = .ok (.aload_n 0, 1) := by decide +kernel
theorem dX12_settles_1 : decode cX12_settles 1 = .ok (.getfield 241, 3) := by decide +kernel
theorem dX12_settles_4 : decode cX12_settles 4 = .ok (.ifCond .le 53, 3) := by decide +kernel
theorem dX12_settles_7 : decode cX12_settles 7 = .ok (.aload_n 0, 1) := by decide +kernel
theorem dX12_settles_8 : decode cX12_settles 8 = .ok (.getfield 64, 3) := by decide +kernel
theorem dX12_settles_11 : decode cX12_settles 11 = .ok (.aload_n 0, 1) := by decide +kernel
theorem dX12_settles_12 : decode cX12_settles 12 = .ok (.getfield 241, 3) := by decide +kernel
theorem dX12_settles_15 : decode cX12_settles 15 = .ok (.iconst 1, 1) := by decide +kernel
theorem dX12_settles_16 : decode cX12_settles 16 = .ok (.isub, 1) := by decide +kernel
theorem dX12_settles_17 : decode cX12_settles 17 = .ok (.iaload, 1) := by decide +kernel
theorem dX12_settles_18 : decode cX12_settles 18 = .ok (.iload_n 1, 1) := by decide +kernel
theorem dX12_settles_19 : decode cX12_settles 19 = .ok (.if_icmp .ne 38, 3) := by decide +kernel
theorem dX12_settles_22 : decode cX12_settles 22 = .ok (.aload_n 0, 1) := by decide +kernel
theorem dX12_settles_23 : decode cX12_settles 23 = .ok (.aload_n 0, 1) := by decide +kernel
theorem dX12_settles_24 : decode cX12_settles 24 = .ok (.getfield 241, 3) := by decide +kernel
theorem dX12_settles_27 : decode cX12_settles 27 = .ok (.iconst 1, 1) := by decide +kernel
theorem dX12_settles_28 : decode cX12_settles 28 = .ok (.isub, 1) := by decide +kernel
theorem dX12_settles_29 : decode cX12_settles 29 = .ok (.putfield 241, 3) := by decide +kernel
theorem dX12_settles_32 : decode cX12_settles 32 = .ok (.aload_n 0, 1) := by decide +kernel
theorem dX12_settles_33 : decode cX12_settles 33 = .ok (.iload_n 1, 1) := by decide +kernel
theorem dX12_settles_34 : decode cX12_settles 34 = .ok (.iconst 0, 1) := by decide +kernel
theorem dX12_settles_35 : decode cX12_settles 35 = .ok (.invokevirtual 221, 3) := by decide +kernel
theorem dX12_settles_38 : decode cX12_settles 38 = .ok (.iload_n 1, 1) := by decide +kernel
theorem dX12_settles_39 : decode cX12_settles 39 = .ok (.bipush 9, 2) := by decide +kernel
theorem dX12_settles_41 : decode cX12_settles 41 = .ok (.if_icmp .ne (-41), 3) := by decide +kernel
theorem dX12_settles_44 : decode cX12_settles 44 = .ok (.aload_n 0, 1) := by decide +kernel
theorem dX12_settles_45 : decode cX12_settles 45 = .ok (.aload_n 0, 1) := by decide +kernel
theorem dX12_settles_46 : decode cX12_settles 46 = .ok (.getfield 244, 3) := by decide +kernel
theorem dX12_settles_49 : decode cX12_settles 49 = .ok (.iconst 1, 1) := by decide +kernel
theorem dX12_settles_50 : decode cX12_settles 50 = .ok (.isub, 1) := by decide +kernel
theorem dX12_settles_51 : decode cX12_settles 51 = .ok (.putfield 244, 3) := by decide +kernel
theorem dX12_settles_54 : decode cX12_settles 54 = .ok (.goto (-54), 3) := by decide +kernel
theorem dX12_settles_57 : decode cX12_settles 57 = .ok (.return_, 1) := by decide +kernel
def T_X12_settles_0 : Nat → Int32 → Mm → (Mm → Prop) → Prop
  | 0, _, _, _ => False
  | n + 1, x1, M, K => (((M 159 32) ≤ 0 → (K M)) ∧ (¬ (M 159 32) ≤ 0 → (vp_in ((M 159 32) - (1 : Int32)) 40 ∧ (((M 178 (((M 159 32) - (1 : Int32))).toNatClampNeg) = x1 → (∀ M4 : Mm, M4 = m_up M 159 32 ((M 159 32) - (1 : Int32)) → (T_X12_emits x1 (0 : Int32) M4 (fun M6 => ((x1 = (9 : Int32) → (∀ M8 : Mm, M8 = m_up M6 159 30 ((M6 159 30) - (1 : Int32)) → (T_X12_settles_0 n x1 M8 K))) ∧ (¬ x1 = (9 : Int32) → (T_X12_settles_0 n x1 M6 K))))))) ∧ (¬ (M 178 (((M 159 32) - (1 : Int32))).toNatClampNeg) = x1 → (K M))))))
set_option maxHeartbeats 4000000 in
set_option maxRecDepth 100000 in
theorem w_X12_settles_0 {p : Program} {l : Launch} {e : Env} {s : State} {m : MethodId} {args : Array Value} {below : List Frame} {meth : Method} {c : Code} {G : fx_G} {K : Mm → Prop} (X : fx_C G p s m c args cX12_settles 2 RX12) (hr : meth.sig.returnType = none) (hk : meth.locks = false) : ∀ (n : Nat) (x1 : Int32) (M : Mm) (H : Heap) (locs : List Loc) (ls : Array Slot), T_X12_settles_0 n x1 M K → fx_H G SH M s H locs → lv_has ls 2 [(0, .ref (G.2.2.2 + 159)), (1, .int x1)] → W p l e (fx_rm (1)) s m args below meth c H locs 0 0 (MQ below (va_Qv K (fx_R G SH) (fx_A G)) args s 0 0 (fx_A G)) (F0 m 0 ls []) := by
  obtain ⟨⟨hx, hb, hml, hown, hts⟩, hK, hQ⟩ := id X
  intro n
  induction n with
  | zero =>
    intro x1 M H locs ls hT
    exact hT.elim
  | succ n ih =>
    intro x1 M H locs ls hT h hl
    rw [T_X12_settles_0] at hT
    refine lv_aload_n hx hb dX12_settles_0 rfl (lv_at hl 0 rfl) ?_
    refine fx_getI X h (k := 159) (j := 32) sh_159 rfl fl_RX12_241 dX12_settles_1 ?_
    refine lv_if_le (tgt := 57) hx hb dX12_settles_4 (by decide) (fun hc1 => ?_) (fun hc1 => ?_)
    · have hT := hT.1 hc1
      exact fx_vret X hr hk h hT dX12_settles_57
    · have hT := hT.2 hc1
      refine lv_aload_n hx hb dX12_settles_7 rfl (lv_at hl 0 rfl) ?_
      refine fx_getR X h (k := 159) (j := 31) (r := 178) sh_159 rfl fl_RX12_64 dX12_settles_8 ?_
      refine lv_aload_n hx hb dX12_settles_11 rfl (lv_at hl 0 rfl) ?_
      refine fx_getI X h (k := 159) (j := 32) sh_159 rfl fl_RX12_241 dX12_settles_12 ?_
      refine lv_iconst (v := 1) hx hb dX12_settles_15 (by decide) ?_
      refine lv_isub hx hb dX12_settles_16 ?_
      obtain ⟨hi2, hT⟩ := hT
      refine fx_iald X h (k := 178) sh_178 hi2 dX12_settles_17 ?_
      refine lv_iload_n hx hb dX12_settles_18 rfl (lv_at hl 1 rfl) ?_
      refine lv_icmp_ne (tgt := 57) hx hb dX12_settles_19 (by decide) (fun hc3 => ?_) (fun hc3 => ?_)
      · have hT := hT.2 hc3
        exact fx_vret X hr hk h hT dX12_settles_57
      · have hT := hT.1 hc3
        refine lv_aload_n hx hb dX12_settles_22 rfl (lv_at hl 0 rfl) ?_
        refine lv_aload_n hx hb dX12_settles_23 rfl (lv_at hl 0 rfl) ?_
        refine fx_getI X h (k := 159) (j := 32) sh_159 rfl fl_RX12_241 dX12_settles_24 ?_
        refine lv_iconst (v := 1) hx hb dX12_settles_27 (by decide) ?_
        refine lv_isub hx hb dX12_settles_28 ?_
        refine fx_putI X h (k := 159) (j := 32) sh_159 rfl fl_RX12_241 dX12_settles_29 (fun H locs h => ?_)
        obtain ⟨M4, eM4⟩ : ∃ z : Mm, z = m_up M 159 32 ((M 159 32) - (1 : Int32)) := ⟨_, rfl⟩
        have hT := hT M4 eM4
        rw [← eM4] at h
        refine lv_aload_n hx hb dX12_settles_32 rfl (lv_at hl 0 rfl) ?_
        refine lv_iload_n hx hb dX12_settles_33 rfl (lv_at hl 1 rfl) ?_
        refine lv_iconst (v := 0) hx hb dX12_settles_34 (by decide) ?_
        refine fx_vv X h ym_X12_emits yi_X12_emits ys_X12_emits (fx_s7 (List.mem_of_getElem? (i := 225) rfl) rfl) sh_159 rfl (c_X12_emits l G hT) (As := [.int x1, .int (0 : Int32)]) (rest := []) rfl rfl ⟨Nat.le_of_ble_eq_true rfl, Nat.le_of_ble_eq_true rfl⟩ ⟨Nat.le_refl _, Nat.le_refl _⟩ hl.1 (Nat.le_of_ble_eq_true rfl) dX12_settles_35 (fun M6 H locs hT h => ?_)
        refine lv_iload_n hx hb dX12_settles_38 rfl (lv_at hl 1 rfl) ?_
        refine lv_bipush (v := 9) hx hb dX12_settles_39 (by decide) ?_
        refine lv_icmp_ne (tgt := 0) hx hb dX12_settles_41 (by decide) (fun hc7 => ?_) (fun hc7 => ?_)
        · have hT := hT.2 hc7
          exact ih x1 M6 _ _ ls hT h (lv_sub hl [0, 1] rfl)
        · have hT := hT.1 hc7
          refine lv_aload_n hx hb dX12_settles_44 rfl (lv_at hl 0 rfl) ?_
          refine lv_aload_n hx hb dX12_settles_45 rfl (lv_at hl 0 rfl) ?_
          refine fx_getI X h (k := 159) (j := 30) sh_159 rfl fl_RX12_244 dX12_settles_46 ?_
          refine lv_iconst (v := 1) hx hb dX12_settles_49 (by decide) ?_
          refine lv_isub hx hb dX12_settles_50 ?_
          refine fx_putI X h (k := 159) (j := 30) sh_159 rfl fl_RX12_244 dX12_settles_51 (fun H locs h => ?_)
          obtain ⟨M8, eM8⟩ : ∃ z : Mm, z = m_up M6 159 30 ((M6 159 30) - (1 : Int32)) := ⟨_, rfl⟩
          have hT := hT M8 eM8
          rw [← eM8] at h
          refine lv_goto (tgt := 0) hx hb dX12_settles_54 (by decide) ?_
          exact ih x1 M8 _ _ ls hT h (lv_sub hl [0, 1] rfl)
def T_X12_settles (x1 : Int32) (M : Mm) (K : Mm → Prop) : Prop := (T_X12_settles_0 5000 x1 M K)
set_option maxHeartbeats 4000000 in
set_option maxRecDepth 100000 in
theorem c_X12_settles (l : Launch) (G : fx_G) {x1 : Int32} {M : Mm} {K : Mm → Prop} (hT : T_X12_settles x1 M K) : Met l yX12_settles (fx_ws yX12_settles cX12_settles 2 none) (fx_rm (1)) (va_Pc [.ref (G.2.2.2 + 159), .int x1] (fx_P G SH M)) (va_Qv K (fx_R G SH) (fx_A G)) 0 0 (fx_A G) := by
  refine fx_met (own := RX12) (by decide +kernel) rfl (Nat.le_of_ble_eq_true rfl) (fun p e s m below meth c X hr hk h ls hl => ?_)
  obtain ⟨⟨hx, hb, hml, hown, hts⟩, hK, hQ⟩ := id X
  have hl : lv_has ls 2 [(0, .ref (G.2.2.2 + 159)), (1, .int x1)] := hl
  unfold T_X12_settles at hT
  exact w_X12_settles_0 X hr hk 5000 x1 M _ _ ls hT h (lv_sub hl [0, 1] rfl)
