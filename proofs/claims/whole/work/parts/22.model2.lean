/-! MockParcelsModel.lawTells(IIII)I -/
theorem dX12_lawTells_0 : decode cX12_lawTells 0 = .ok (.aload_n 0, 1) := by decide +kernel
theorem dX12_lawTells_1 : decode cX12_lawTells 1 = .ok (.iload_n 1, 1) := by decide +kernel
theorem dX12_lawTells_2 : decode cX12_lawTells 2 = .ok (.invokevirtual 336, 3) := by decide +kernel
theorem dX12_lawTells_5 : decode cX12_lawTells 5 = .ok (.istore 5, 2) := by decide +kernel
theorem dX12_lawTells_7 : decode cX12_lawTells 7 = .ok (.aload_n 0, 1) := by decide +kernel
theorem dX12_lawTells_8 : decode cX12_lawTells 8 = .ok (.iload 5, 2) := by decide +kernel
theorem dX12_lawTells_10 : decode cX12_lawTells 10 = .ok (.iconst (-1), 1) := by decide +kernel
theorem dX12_lawTells_11 : decode cX12_lawTells 11 = .ok (.if_icmp .ne 7, 3) := by decide +kernel
theorem dX12_lawTells_14 : decode cX12_lawTells 14 = .ok (.iload_n 2, 1) := by decide +kernel
theorem dX12_lawTells_15 : decode cX12_lawTells 15 = .ok (.goto 22, 3) := by decide +kernel
theorem dX12_lawTells_18 : decode cX12_lawTells 18 = .ok (.aload_n 0, 1) := by decide +kernel
theorem dX12_lawTells_19 : decode cX12_lawTells 19 = .ok (.iconst 0, 1) := by decide +kernel
theorem dX12_lawTells_20 : decode cX12_lawTells 20 = .ok (.aload_n 0, 1) := by decide +kernel
theorem dX12_lawTells_21 : decode cX12_lawTells 21 = .ok (.getfield 49, 3) := by decide +kernel
theorem dX12_lawTells_24 : decode cX12_lawTells 24 = .ok (.iload 5, 2) := by decide +kernel
theorem dX12_lawTells_26 : decode cX12_lawTells 26 = .ok (.iaload, 1) := by decide +kernel
theorem dX12_lawTells_27 : decode cX12_lawTells 27 = .ok (.aload_n 0, 1) := by decide +kernel
theorem dX12_lawTells_28 : decode cX12_lawTells 28 = .ok (.getfield 52, 3) := by decide +kernel
theorem dX12_lawTells_31 : decode cX12_lawTells 31 = .ok (.iload 5, 2) := by decide +kernel
theorem dX12_lawTells_33 : decode cX12_lawTells 33 = .ok (.iaload, 1) := by decide +kernel
theorem dX12_lawTells_34 : decode cX12_lawTells 34 = .ok (.invokevirtual 330, 3) := by decide +kernel
theorem dX12_lawTells_37 : decode cX12_lawTells 37 = .ok (.iload_n 3, 1) := by decide +kernel
theorem dX12_lawTells_38 : decode cX12_lawTells 38 = .ok (.iload 4, 2) := by decide +kernel
theorem dX12_lawTells_40 : decode cX12_lawTells 40 = .ok (.invokevirtual 339, 3) := by decide +kernel
theorem dX12_lawTells_43 : decode cX12_lawTells 43 = .ok (.ireturn, 1) := by decide +kernel
def T_X12_lawTells_37 (x3 : Int32) (x4 : Int32) (s1 : Int32) (M : Mm) (K : Int32 → Mm → Prop) : Prop := (T_X12_held s1 x3 x4 M (fun r3 M2 => (K r3 M2)))
set_option maxHeartbeats 4000000 in
set_option maxRecDepth 100000 in
theorem w_X12_lawTells_37 {p : Program} {l : Launch} {e : Env} {s : State} {m : MethodId} {args : Array Value} {below : List Frame} {meth : Method} {c : Code} {G : fx_G} {K : Int32 → Mm → Prop} (X : fx_C G p s m c args cX12_lawTells 6 RX12) (hr : meth.sig.returnType = (some .int)) (hk : meth.locks = false) : ∀ (x3 : Int32) (x4 : Int32) (s1 : Int32) (M : Mm) (H : Heap) (locs : List Loc) (ls : Array Slot), T_X12_lawTells_37 x3 x4 s1 M K → fx_H G SH M s H locs → lv_has ls 6 [(3, .int x3), (4, .int x4)] → W p l e (fx_rm (3)) s m args below meth c H locs 0 0 (MQ below (va_Qi K (fx_R G SH) (fx_A G)) args s 0 0 (fx_A G)) (F0 m 37 ls [.int s1, .ref (G.2.2.2 + 159)]) := by
  obtain ⟨⟨hx, hb, hml, hown, hts⟩, hK, hQ⟩ := id X
  intro x3 x4 s1 M H locs ls hT h hl
  unfold T_X12_lawTells_37 at hT
  refine lv_iload_n hx hb dX12_lawTells_37 rfl (lv_at hl 0 rfl) ?_
  refine lv_iload hx hb dX12_lawTells_38 (lv_at hl 1 rfl) ?_
  refine fx_vi X h ym_X12_held yi_X12_held ys_X12_held (fx_s8 (List.mem_of_getElem? (i := 69) rfl) rfl) sh_159 rfl (c_X12_held l G hT) (As := [.int s1, .int x3, .int x4]) (rest := []) rfl rfl ⟨Nat.le_of_ble_eq_true rfl, Nat.le_of_ble_eq_true rfl⟩ ⟨Nat.le_refl _, Nat.le_refl _⟩ hl.1 (Nat.le_of_ble_eq_true rfl) dX12_lawTells_40 (fun r3 M2 H locs hT h => ?_)
  exact fx_iret X hr hk h hT dX12_lawTells_43
def T_X12_lawTells (x1 : Int32) (x2 : Int32) (x3 : Int32) (x4 : Int32) (M : Mm) (K : Int32 → Mm → Prop) : Prop := (T_X12_lineOf x1 M (fun r6 M5 => ((r6 = (-1 : Int32) → (T_X12_lawTells_37 x3 x4 x2 M5 K)) ∧ (¬ r6 = (-1 : Int32) → (vp_in r6 48 ∧ (vp_in r6 48 ∧ (T_X12_runs (0 : Int32) (M5 173 (r6).toNatClampNeg) (M5 174 (r6).toNatClampNeg) M5 (fun r12 M11 => (T_X12_lawTells_37 x3 x4 r12 M11 K)))))))))
set_option maxHeartbeats 4000000 in
set_option maxRecDepth 100000 in
theorem c_X12_lawTells (l : Launch) (G : fx_G) {x1 : Int32} {x2 : Int32} {x3 : Int32} {x4 : Int32} {M : Mm} {K : Int32 → Mm → Prop} (hT : T_X12_lawTells x1 x2 x3 x4 M K) : Met l yX12_lawTells (fx_ws yX12_lawTells cX12_lawTells 6 (some .int)) (fx_rm (3)) (va_Pc [.ref (G.2.2.2 + 159), .int x1, .int x2, .int x3, .int x4] (fx_P G SH M)) (va_Qi K (fx_R G SH) (fx_A G)) 0 0 (fx_A G) := by
  refine fx_met (own := RX12) (by decide +kernel) rfl (Nat.le_of_ble_eq_true rfl) (fun p e s m below meth c X hr hk h ls hl => ?_)
  obtain ⟨⟨hx, hb, hml, hown, hts⟩, hK, hQ⟩ := id X
  have hl : lv_has ls 6 [(0, .ref (G.2.2.2 + 159)), (1, .int x1), (2, .int x2), (3, .int x3), (4, .int x4)] := hl
  unfold T_X12_lawTells at hT
  refine lv_aload_n hx hb dX12_lawTells_0 rfl (lv_at hl 0 rfl) ?_
  refine lv_iload_n hx hb dX12_lawTells_1 rfl (lv_at hl 1 rfl) ?_
  refine fx_vi X h ym_X12_lineOf yi_X12_lineOf ys_X12_lineOf (fx_s8 (List.mem_of_getElem? (i := 57) rfl) rfl) sh_159 rfl (c_X12_lineOf l G hT) (As := [.int x1]) (rest := []) rfl rfl ⟨Nat.le_of_ble_eq_true rfl, Nat.le_of_ble_eq_true rfl⟩ ⟨Nat.le_refl _, Nat.le_refl _⟩ hl.1 (Nat.le_of_ble_eq_true rfl) dX12_lawTells_2 (fun r6 M5 H locs hT h => ?_)
  refine lv_istore (lv' := [(5, .int r6), (0, .ref (G.2.2.2 + 159)), (1, .int x1), (2, .int x2), (3, .int x3), (4, .int x4)]) hx hb dX12_lawTells_5 hl (by decide) rfl (fun ls hl => ?_)
  refine lv_aload_n hx hb dX12_lawTells_7 rfl (lv_at hl 1 rfl) ?_
  refine lv_iload hx hb dX12_lawTells_8 (lv_at hl 0 rfl) ?_
  refine lv_iconst (v := -1) hx hb dX12_lawTells_10 (by decide) ?_
  refine lv_icmp_ne (tgt := 18) hx hb dX12_lawTells_11 (by decide) (fun hc7 => ?_) (fun hc7 => ?_)
  · have hT := hT.2 hc7
    refine lv_aload_n hx hb dX12_lawTells_18 rfl (lv_at hl 1 rfl) ?_
    refine lv_iconst (v := 0) hx hb dX12_lawTells_19 (by decide) ?_
    refine lv_aload_n hx hb dX12_lawTells_20 rfl (lv_at hl 1 rfl) ?_
    refine fx_getR X h (k := 159) (j := 23) (r := 173) sh_159 rfl fl_RX12_49 dX12_lawTells_21 ?_
    refine lv_iload hx hb dX12_lawTells_24 (lv_at hl 0 rfl) ?_
    obtain ⟨hi8, hT⟩ := hT
    refine fx_iald X h (k := 173) sh_173 hi8 dX12_lawTells_26 ?_
    refine lv_aload_n hx hb dX12_lawTells_27 rfl (lv_at hl 1 rfl) ?_
    refine fx_getR X h (k := 159) (j := 24) (r := 174) sh_159 rfl fl_RX12_52 dX12_lawTells_28 ?_
    refine lv_iload hx hb dX12_lawTells_31 (lv_at hl 0 rfl) ?_
    obtain ⟨hi9, hT⟩ := hT
    refine fx_iald X h (k := 174) sh_174 hi9 dX12_lawTells_33 ?_
    refine fx_vi X h ym_X12_runs yi_X12_runs ys_X12_runs (fx_s8 (List.mem_of_getElem? (i := 61) rfl) rfl) sh_159 rfl (c_X12_runs l G hT) (As := [.int (0 : Int32), .int (M5 173 (r6).toNatClampNeg), .int (M5 174 (r6).toNatClampNeg)]) (rest := [.ref (G.2.2.2 + 159)]) rfl rfl ⟨Nat.le_of_ble_eq_true rfl, Nat.le_of_ble_eq_true rfl⟩ ⟨Nat.le_refl _, Nat.le_refl _⟩ hl.1 (Nat.le_of_ble_eq_true rfl) dX12_lawTells_34 (fun r12 M11 H locs hT h => ?_)
    exact w_X12_lawTells_37 X hr hk x3 x4 r12 M11 _ _ ls hT h (lv_sub hl [4, 5] rfl)
  · have hT := hT.1 hc7
    refine lv_iload_n hx hb dX12_lawTells_14 rfl (lv_at hl 3 rfl) ?_
    refine lv_goto (tgt := 37) hx hb dX12_lawTells_15 (by decide) ?_
    exact w_X12_lawTells_37 X hr hk x3 x4 x2 M5 _ _ ls hT h (lv_sub hl [4, 5] rfl)
/-! MockParcelsModel.bidsOf(IIII)I -/
theorem dX12_bidsOf_0 : decode cX12_bidsOf 0 = .ok (.aload_n 0, 1) := by decide +kernel
theorem dX12_bidsOf_1 : decode cX12_bidsOf 1 = .ok (.iload_n 1, 1) := by decide +kernel
theorem dX12_bidsOf_2 : decode cX12_bidsOf 2 = .ok (.iload_n 2, 1) := by decide +kernel
theorem dX12_bidsOf_3 : decode cX12_bidsOf 3 = .ok (.iload_n 3, 1) := by decide +kernel
theorem dX12_bidsOf_4 : decode cX12_bidsOf 4 = .ok (.iload 4, 2) := by decide +kernel
theorem dX12_bidsOf_6 : decode cX12_bidsOf 6 = .ok (.invokevirtual 342, 3) := by decide +kernel
theorem dX12_bidsOf_9 : decode cX12_bidsOf 9 = .ok (.aload_n 0, 1) := by decide +kernel
theorem dX12_bidsOf_10 : decode cX12_bidsOf 10 = .ok (.iconst 0, 1) := by decide +kernel
theorem dX12_bidsOf_11 : decode cX12_bidsOf 11 = .ok (.sipush 600, 3) := by decide +kernel
theorem dX12_bidsOf_14 : decode cX12_bidsOf 14 = .ok (.bipush 50, 2) := by decide +kernel
theorem dX12_bidsOf_16 : decode cX12_bidsOf 16 = .ok (.aload_n 0, 1) := by decide +kernel
theorem dX12_bidsOf_17 : decode cX12_bidsOf 17 = .ok (.getfield 28, 3) := by decide +kernel
theorem dX12_bidsOf_20 : decode cX12_bidsOf 20 = .ok (.iload_n 2, 1) := by decide +kernel
theorem dX12_bidsOf_21 : decode cX12_bidsOf 21 = .ok (.iaload, 1) := by decide +kernel
theorem dX12_bidsOf_22 : decode cX12_bidsOf 22 = .ok (.imul, 1) := by decide +kernel
theorem dX12_bidsOf_23 : decode cX12_bidsOf 23 = .ok (.isub, 1) := by decide +kernel
theorem dX12_bidsOf_24 : decode cX12_bidsOf 24 = .ok (.bipush 10, 2) := by decide +kernel
theorem dX12_bidsOf_26 : decode cX12_bidsOf 26 = .ok (.iload_n 3, 1) := by decide +kernel
theorem dX12_bidsOf_27 : decode cX12_bidsOf 27 = .ok (.imul, 1) := by decide +kernel
theorem dX12_bidsOf_28 : decode cX12_bidsOf 28 = .ok (.isub, 1) := by decide +kernel
theorem dX12_bidsOf_29 : decode cX12_bidsOf 29 = .ok (.iconst 0, 1) := by decide +kernel
theorem dX12_bidsOf_30 : decode cX12_bidsOf 30 = .ok (.sipush 1000, 3) := by decide +kernel
theorem dX12_bidsOf_33 : decode cX12_bidsOf 33 = .ok (.invokevirtual 346, 3) := by decide +kernel
theorem dX12_bidsOf_36 : decode cX12_bidsOf 36 = .ok (.ireturn, 1) := by decide +kernel
def T_X12_bidsOf (x1 : Int32) (x2 : Int32) (x3 : Int32) (x4 : Int32) (M : Mm) (K : Int32 → Mm → Prop) : Prop := (T_X12_asks x1 x2 x3 x4 M (fun M2 => (vp_in x2 8 ∧ (T_X12_lawTells (0 : Int32) (((600 : Int32) - ((50 : Int32) * (M2 166 (x2).toNatClampNeg))) - ((10 : Int32) * x3)) (0 : Int32) (1000 : Int32) M2 (fun r6 M5 => (K r6 M5))))))
set_option maxHeartbeats 4000000 in
set_option maxRecDepth 100000 in
theorem c_X12_bidsOf (l : Launch) (G : fx_G) {x1 : Int32} {x2 : Int32} {x3 : Int32} {x4 : Int32} {M : Mm} {K : Int32 → Mm → Prop} (hT : T_X12_bidsOf x1 x2 x3 x4 M K) : Met l yX12_bidsOf (fx_ws yX12_bidsOf cX12_bidsOf 5 (some .int)) (fx_rm (4)) (va_Pc [.ref (G.2.2.2 + 159), .int x1, .int x2, .int x3, .int x4] (fx_P G SH M)) (va_Qi K (fx_R G SH) (fx_A G)) 0 0 (fx_A G) := by
  refine fx_met (own := RX12) (by decide +kernel) rfl (Nat.le_of_ble_eq_true rfl) (fun p e s m below meth c X hr hk h ls hl => ?_)
  obtain ⟨⟨hx, hb, hml, hown, hts⟩, hK, hQ⟩ := id X
  have hl : lv_has ls 5 [(0, .ref (G.2.2.2 + 159)), (1, .int x1), (2, .int x2), (3, .int x3), (4, .int x4)] := hl
  unfold T_X12_bidsOf at hT
  refine lv_aload_n hx hb dX12_bidsOf_0 rfl (lv_at hl 0 rfl) ?_
  refine lv_iload_n hx hb dX12_bidsOf_1 rfl (lv_at hl 1 rfl) ?_
  refine lv_iload_n hx hb dX12_bidsOf_2 rfl (lv_at hl 2 rfl) ?_
  refine lv_iload_n hx hb dX12_bidsOf_3 rfl (lv_at hl 3 rfl) ?_
  refine lv_iload hx hb dX12_bidsOf_4 (lv_at hl 4 rfl) ?_
  refine fx_vv X h ym_X12_asks yi_X12_asks ys_X12_asks (fx_s8 (List.mem_of_getElem? (i := 41) rfl) rfl) sh_159 rfl (c_X12_asks l G hT) (As := [.int x1, .int x2, .int x3, .int x4]) (rest := []) rfl rfl ⟨Nat.le_of_ble_eq_true rfl, Nat.le_of_ble_eq_true rfl⟩ ⟨Nat.le_refl _, Nat.le_refl _⟩ hl.1 (Nat.le_of_ble_eq_true rfl) dX12_bidsOf_6 (fun M2 H locs hT h => ?_)
  refine lv_aload_n hx hb dX12_bidsOf_9 rfl (lv_at hl 0 rfl) ?_
  refine lv_iconst (v := 0) hx hb dX12_bidsOf_10 (by decide) ?_
  refine lv_sipush (v := 600) hx hb dX12_bidsOf_11 (by decide) ?_
  refine lv_bipush (v := 50) hx hb dX12_bidsOf_14 (by decide) ?_
  refine lv_aload_n hx hb dX12_bidsOf_16 rfl (lv_at hl 0 rfl) ?_
  refine fx_getR X h (k := 159) (j := 11) (r := 166) sh_159 rfl fl_RX12_28 dX12_bidsOf_17 ?_
  refine lv_iload_n hx hb dX12_bidsOf_20 rfl (lv_at hl 2 rfl) ?_
  obtain ⟨hi3, hT⟩ := hT
  refine fx_iald X h (k := 166) sh_166 hi3 dX12_bidsOf_21 ?_
  refine lv_imul hx hb dX12_bidsOf_22 ?_
  refine lv_isub hx hb dX12_bidsOf_23 ?_
  refine lv_bipush (v := 10) hx hb dX12_bidsOf_24 (by decide) ?_
  refine lv_iload_n hx hb dX12_bidsOf_26 rfl (lv_at hl 3 rfl) ?_
  refine lv_imul hx hb dX12_bidsOf_27 ?_
  refine lv_isub hx hb dX12_bidsOf_28 ?_
  refine lv_iconst (v := 0) hx hb dX12_bidsOf_29 (by decide) ?_
  refine lv_sipush (v := 1000) hx hb dX12_bidsOf_30 (by decide) ?_
  refine fx_vi X h ym_X12_lawTells yi_X12_lawTells ys_X12_lawTells (fx_s8 (List.mem_of_getElem? (i := 53) rfl) rfl) sh_159 rfl (c_X12_lawTells l G hT) (As := [.int (0 : Int32), .int (((600 : Int32) - ((50 : Int32) * (M2 166 (x2).toNatClampNeg))) - ((10 : Int32) * x3)), .int (0 : Int32), .int (1000 : Int32)]) (rest := []) rfl rfl ⟨Nat.le_of_ble_eq_true rfl, Nat.le_of_ble_eq_true rfl⟩ ⟨Nat.le_refl _, Nat.le_refl _⟩ hl.1 (Nat.le_of_ble_eq_true rfl) dX12_bidsOf_33 (fun r6 M5 H locs hT h => ?_)
  exact fx_iret X hr hk h hT dX12_bidsOf_36
/-! MockParcelsModel.stepOf(IIII)I -/
theorem dX12_stepOf_0 : decode cX12_stepOf 0 = .ok (.aload_n 0, 1) := by decide +kernel
theorem dX12_stepOf_1 : decode cX12_stepOf 1 = .ok (.iload_n 1, 1) := by decide +kernel
theorem dX12_stepOf_2 : decode cX12_stepOf 2 = .ok (.iload_n 2, 1) := by decide +kernel
theorem dX12_stepOf_3 : decode cX12_stepOf 3 = .ok (.iload_n 3, 1) := by decide +kernel
theorem dX12_stepOf_4 : decode cX12_stepOf 4 = .ok (.iload 4, 2) := by decide +kernel
theorem dX12_stepOf_6 : decode cX12_stepOf 6 = .ok (.invokevirtual 342, 3) := by decide +kernel
theorem dX12_stepOf_9 : decode cX12_stepOf 9 = .ok (.aload_n 0, 1) := by decide +kernel
theorem dX12_stepOf_10 : decode cX12_stepOf 10 = .ok (.iconst 1, 1) := by decide +kernel
theorem dX12_stepOf_11 : decode cX12_stepOf 11 = .ok (.iconst 1, 1) := by decide +kernel
theorem dX12_stepOf_12 : decode cX12_stepOf 12 = .ok (.aload_n 0, 1) := by decide +kernel
theorem dX12_stepOf_13 : decode cX12_stepOf 13 = .ok (.getfield 31, 3) := by decide +kernel
theorem dX12_stepOf_16 : decode cX12_stepOf 16 = .ok (.iload_n 2, 1) := by decide +kernel
theorem dX12_stepOf_17 : decode cX12_stepOf 17 = .ok (.iaload, 1) := by decide +kernel
theorem dX12_stepOf_18 : decode cX12_stepOf 18 = .ok (.iadd, 1) := by decide +kernel
theorem dX12_stepOf_19 : decode cX12_stepOf 19 = .ok (.iconst 1, 1) := by decide +kernel
theorem dX12_stepOf_20 : decode cX12_stepOf 20 = .ok (.bipush 99, 2) := by decide +kernel
theorem dX12_stepOf_22 : decode cX12_stepOf 22 = .ok (.invokevirtual 346, 3) := by decide +kernel
theorem dX12_stepOf_25 : decode cX12_stepOf 25 = .ok (.ireturn, 1) := by decide +kernel
def T_X12_stepOf (x1 : Int32) (x2 : Int32) (x3 : Int32) (x4 : Int32) (M : Mm) (K : Int32 → Mm → Prop) : Prop := (T_X12_asks x1 x2 x3 x4 M (fun M2 => (vp_in x2 8 ∧ (T_X12_lawTells (1 : Int32) ((1 : Int32) + (M2 167 (x2).toNatClampNeg)) (1 : Int32) (99 : Int32) M2 (fun r6 M5 => (K r6 M5))))))
set_option maxHeartbeats 4000000 in
set_option maxRecDepth 100000 in
theorem c_X12_stepOf (l : Launch) (G : fx_G) {x1 : Int32} {x2 : Int32} {x3 : Int32} {x4 : Int32} {M : Mm} {K : Int32 → Mm → Prop} (hT : T_X12_stepOf x1 x2 x3 x4 M K) : Met l yX12_stepOf (fx_ws yX12_stepOf cX12_stepOf 5 (some .int)) (fx_rm (4)) (va_Pc [.ref (G.2.2.2 + 159), .int x1, .int x2, .int x3, .int x4] (fx_P G SH M)) (va_Qi K (fx_R G SH) (fx_A G)) 0 0 (fx_A G) := by
  refine fx_met (own := RX12) (by decide +kernel) rfl (Nat.le_of_ble_eq_true rfl) (fun p e s m below meth c X hr hk h ls hl => ?_)
  obtain ⟨⟨hx, hb, hml, hown, hts⟩, hK, hQ⟩ := id X
  have hl : lv_has ls 5 [(0, .ref (G.2.2.2 + 159)), (1, .int x1), (2, .int x2), (3, .int x3), (4, .int x4)] := hl
  unfold T_X12_stepOf at hT
  refine lv_aload_n hx hb dX12_stepOf_0 rfl (lv_at hl 0 rfl) ?_
  refine lv_iload_n hx hb dX12_stepOf_1 rfl (lv_at hl 1 rfl) ?_
  refine lv_iload_n hx hb dX12_stepOf_2 rfl (lv_at hl 2 rfl) ?_
  refine lv_iload_n hx hb dX12_stepOf_3 rfl (lv_at hl 3 rfl) ?_
  refine lv_iload hx hb dX12_stepOf_4 (lv_at hl 4 rfl) ?_
  refine fx_vv X h ym_X12_asks yi_X12_asks ys_X12_asks (fx_s8 (List.mem_of_getElem? (i := 41) rfl) rfl) sh_159 rfl (c_X12_asks l G hT) (As := [.int x1, .int x2, .int x3, .int x4]) (rest := []) rfl rfl ⟨Nat.le_of_ble_eq_true rfl, Nat.le_of_ble_eq_true rfl⟩ ⟨Nat.le_refl _, Nat.le_refl _⟩ hl.1 (Nat.le_of_ble_eq_true rfl) dX12_stepOf_6 (fun M2 H locs hT h => ?_)
  refine lv_aload_n hx hb dX12_stepOf_9 rfl (lv_at hl 0 rfl) ?_
  refine lv_iconst (v := 1) hx hb dX12_stepOf_10 (by decide) ?_
  refine lv_iconst (v := 1) hx hb dX12_stepOf_11 (by decide) ?_
  refine lv_aload_n hx hb dX12_stepOf_12 rfl (lv_at hl 0 rfl) ?_
  refine fx_getR X h (k := 159) (j := 12) (r := 167) sh_159 rfl fl_RX12_31 dX12_stepOf_13 ?_
  refine lv_iload_n hx hb dX12_stepOf_16 rfl (lv_at hl 2 rfl) ?_
  obtain ⟨hi3, hT⟩ := hT
  refine fx_iald X h (k := 167) sh_167 hi3 dX12_stepOf_17 ?_
  refine lv_iadd hx hb dX12_stepOf_18 ?_
  refine lv_iconst (v := 1) hx hb dX12_stepOf_19 (by decide) ?_
  refine lv_bipush (v := 99) hx hb dX12_stepOf_20 (by decide) ?_
  refine fx_vi X h ym_X12_lawTells yi_X12_lawTells ys_X12_lawTells (fx_s8 (List.mem_of_getElem? (i := 53) rfl) rfl) sh_159 rfl (c_X12_lawTells l G hT) (As := [.int (1 : Int32), .int ((1 : Int32) + (M2 167 (x2).toNatClampNeg)), .int (1 : Int32), .int (99 : Int32)]) (rest := []) rfl rfl ⟨Nat.le_of_ble_eq_true rfl, Nat.le_of_ble_eq_true rfl⟩ ⟨Nat.le_refl _, Nat.le_refl _⟩ hl.1 (Nat.le_of_ble_eq_true rfl) dX12_stepOf_22 (fun r6 M5 H locs hT h => ?_)
  exact fx_iret X hr hk h hT dX12_stepOf_25
/-! MockParcelsModel.fullOf(IIII)I -/
theorem dX12_fullOf_0 : decode cX12_fullOf 0 = .ok (.aload_n 0, 1) := by decide +kernel
theorem dX12_fullOf_1 : decode cX12_fullOf 1 = .ok (.iload_n 1, 1) := by decide +kernel
theorem dX12_fullOf_2 : decode cX12_fullOf 2 = .ok (.iload_n 2, 1) := by decide +kernel
theorem dX12_fullOf_3 : decode cX12_fullOf 3 = .ok (.iload_n 3, 1) := by decide +kernel
theorem dX12_fullOf_4 : decode cX12_fullOf 4 = .ok (.iload 4, 2) := by decide +kernel
theorem dX12_fullOf_6 : decode cX12_fullOf 6 = .ok (.invokevirtual 342, 3) := by decide +kernel
theorem dX12_fullOf_9 : decode cX12_fullOf 9 = .ok (.aload_n 0, 1) := by decide +kernel
theorem dX12_fullOf_10 : decode cX12_fullOf 10 = .ok (.iconst 2, 1) := by decide +kernel
theorem dX12_fullOf_11 : decode cX12_fullOf 11 = .ok (.bipush 100, 2) := by decide +kernel
theorem dX12_fullOf_13 : decode cX12_fullOf 13 = .ok (.aload_n 0, 1) := by decide +kernel
theorem dX12_fullOf_14 : decode cX12_fullOf 14 = .ok (.getfield 22, 3) := by decide +kernel
theorem dX12_fullOf_17 : decode cX12_fullOf 17 = .ok (.iload_n 1, 1) := by decide +kernel
theorem dX12_fullOf_18 : decode cX12_fullOf 18 = .ok (.iaload, 1) := by decide +kernel
theorem dX12_fullOf_19 : decode cX12_fullOf 19 = .ok (.imul, 1) := by decide +kernel
theorem dX12_fullOf_20 : decode cX12_fullOf 20 = .ok (.iconst 0, 1) := by decide +kernel
theorem dX12_fullOf_21 : decode cX12_fullOf 21 = .ok (.sipush 1000, 3) := by decide +kernel
theorem dX12_fullOf_24 : decode cX12_fullOf 24 = .ok (.invokevirtual 346, 3) := by decide +kernel
theorem dX12_fullOf_27 : decode cX12_fullOf 27 = .ok (.ireturn, 1) := by decide +kernel
def T_X12_fullOf (x1 : Int32) (x2 : Int32) (x3 : Int32) (x4 : Int32) (M : Mm) (K : Int32 → Mm → Prop) : Prop := (T_X12_asks x1 x2 x3 x4 M (fun M2 => (vp_in x1 16 ∧ (T_X12_lawTells (2 : Int32) ((100 : Int32) * (M2 164 (x1).toNatClampNeg)) (0 : Int32) (1000 : Int32) M2 (fun r6 M5 => (K r6 M5))))))
set_option maxHeartbeats 4000000 in
set_option maxRecDepth 100000 in
theorem c_X12_fullOf (l : Launch) (G : fx_G) {x1 : Int32} {x2 : Int32} {x3 : Int32} {x4 : Int32} {M : Mm} {K : Int32 → Mm → Prop} (hT : T_X12_fullOf x1 x2 x3 x4 M K) : Met l yX12_fullOf (fx_ws yX12_fullOf cX12_fullOf 5 (some .int)) (fx_rm (4)) (va_Pc [.ref (G.2.2.2 + 159), .int x1, .int x2, .int x3, .int x4] (fx_P G SH M)) (va_Qi K (fx_R G SH) (fx_A G)) 0 0 (fx_A G) := by
  refine fx_met (own := RX12) (by decide +kernel) rfl (Nat.le_of_ble_eq_true rfl) (fun p e s m below meth c X hr hk h ls hl => ?_)
  obtain ⟨⟨hx, hb, hml, hown, hts⟩, hK, hQ⟩ := id X
  have hl : lv_has ls 5 [(0, .ref (G.2.2.2 + 159)), (1, .int x1), (2, .int x2), (3, .int x3), (4, .int x4)] := hl
  unfold T_X12_fullOf at hT
  refine lv_aload_n hx hb dX12_fullOf_0 rfl (lv_at hl 0 rfl) ?_
  refine lv_iload_n hx hb dX12_fullOf_1 rfl (lv_at hl 1 rfl) ?_
  refine lv_iload_n hx hb dX12_fullOf_2 rfl (lv_at hl 2 rfl) ?_
  refine lv_iload_n hx hb dX12_fullOf_3 rfl (lv_at hl 3 rfl) ?_
  refine lv_iload hx hb dX12_fullOf_4 (lv_at hl 4 rfl) ?_
  refine fx_vv X h ym_X12_asks yi_X12_asks ys_X12_asks (fx_s8 (List.mem_of_getElem? (i := 41) rfl) rfl) sh_159 rfl (c_X12_asks l G hT) (As := [.int x1, .int x2, .int x3, .int x4]) (rest := []) rfl rfl ⟨Nat.le_of_ble_eq_true rfl, Nat.le_of_ble_eq_true rfl⟩ ⟨Nat.le_refl _, Nat.le_refl _⟩ hl.1 (Nat.le_of_ble_eq_true rfl) dX12_fullOf_6 (fun M2 H locs hT h => ?_)
  refine lv_aload_n hx hb dX12_fullOf_9 rfl (lv_at hl 0 rfl) ?_
  refine lv_iconst (v := 2) hx hb dX12_fullOf_10 (by decide) ?_
  refine lv_bipush (v := 100) hx hb dX12_fullOf_11 (by decide) ?_
  refine lv_aload_n hx hb dX12_fullOf_13 rfl (lv_at hl 0 rfl) ?_
  refine fx_getR X h (k := 159) (j := 9) (r := 164) sh_159 rfl fl_RX12_22 dX12_fullOf_14 ?_
  refine lv_iload_n hx hb dX12_fullOf_17 rfl (lv_at hl 1 rfl) ?_
  obtain ⟨hi3, hT⟩ := hT
  refine fx_iald X h (k := 164) sh_164 hi3 dX12_fullOf_18 ?_
  refine lv_imul hx hb dX12_fullOf_19 ?_
  refine lv_iconst (v := 0) hx hb dX12_fullOf_20 (by decide) ?_
  refine lv_sipush (v := 1000) hx hb dX12_fullOf_21 (by decide) ?_
  refine fx_vi X h ym_X12_lawTells yi_X12_lawTells ys_X12_lawTells (fx_s8 (List.mem_of_getElem? (i := 53) rfl) rfl) sh_159 rfl (c_X12_lawTells l G hT) (As := [.int (2 : Int32), .int ((100 : Int32) * (M2 164 (x1).toNatClampNeg)), .int (0 : Int32), .int (1000 : Int32)]) (rest := []) rfl rfl ⟨Nat.le_of_ble_eq_true rfl, Nat.le_of_ble_eq_true rfl⟩ ⟨Nat.le_refl _, Nat.le_refl _⟩ hl.1 (Nat.le_of_ble_eq_true rfl) dX12_fullOf_24 (fun r6 M5 H locs hT h => ?_)
  exact fx_iret X hr hk h hT dX12_fullOf_27
/-! MockParcelsModel.notes(III)V -/
theorem dX12_notes_0 : decode cX12_notes 0 = .ok (.aload_n 0, 1) := by decide +kernel
theorem dX12_notes_1 : decode cX12_notes 1 = .ok (.getfield 141, 3) := by decide +kernel
theorem dX12_notes_4 : decode cX12_notes 4 = .ok (.ifCond .ne 15, 3) := by decide +kernel
theorem dX12_notes_7 : decode cX12_notes 7 = .ok (.aload_n 0, 1) := by decide +kernel
theorem dX12_notes_8 : decode cX12_notes 8 = .ok (.getfield 7, 3) := by decide +kernel
theorem dX12_notes_11 : decode cX12_notes 11 = .ok (.iconst 2, 1) := by decide +kernel
theorem dX12_notes_12 : decode cX12_notes 12 = .ok (.iaload, 1) := by decide +kernel
theorem dX12_notes_13 : decode cX12_notes 13 = .ok (.sipush 150, 3) := by decide +kernel
theorem dX12_notes_16 : decode cX12_notes 16 = .ok (.if_icmp .ne 4, 3) := by decide +kernel
theorem dX12_notes_19 : decode cX12_notes 19 = .ok (.return_, 1) := by decide +kernel
theorem dX12_notes_20 : decode cX12_notes 20 = .ok (.iconst 4, 1) := by decide +kernel
theorem dX12_notes_21 : decode cX12_notes 21 = .ok (.aload_n 0, 1) := by decide +kernel
theorem dX12_notes_22 : decode cX12_notes 22 = .ok (.getfield 7, 3) := by decide +kernel
theorem dX12_notes_25 : decode cX12_notes 25 = .ok (.iconst 2, 1) := by decide +kernel
theorem dX12_notes_26 : decode cX12_notes 26 = .ok (.iaload, 1) := by decide +kernel
theorem dX12_notes_27 : decode cX12_notes 27 = .ok (.imul, 1) := by decide +kernel
theorem dX12_notes_28 : decode cX12_notes 28 = .ok (.istore 4, 2) := by decide +kernel
theorem dX12_notes_30 : decode cX12_notes 30 = .ok (.aload_n 0, 1) := by decide +kernel
theorem dX12_notes_31 : decode cX12_notes 31 = .ok (.getfield 34, 3) := by decide +kernel
theorem dX12_notes_34 : decode cX12_notes 34 = .ok (.iload 4, 2) := by decide +kernel
theorem dX12_notes_36 : decode cX12_notes 36 = .ok (.aload_n 0, 1) := by decide +kernel
theorem dX12_notes_37 : decode cX12_notes 37 = .ok (.getfield 7, 3) := by decide +kernel
theorem dX12_notes_40 : decode cX12_notes 40 = .ok (.iconst 0, 1) := by decide +kernel
theorem dX12_notes_41 : decode cX12_notes 41 = .ok (.iaload, 1) := by decide +kernel
theorem dX12_notes_42 : decode cX12_notes 42 = .ok (.iastore, 1) := by decide +kernel
theorem dX12_notes_43 : decode cX12_notes 43 = .ok (.aload_n 0, 1) := by decide +kernel
theorem dX12_notes_44 : decode cX12_notes 44 = .ok (.getfield 34, 3) := by decide +kernel
theorem dX12_notes_47 : decode cX12_notes 47 = .ok (.iload 4, 2) := by decide +kernel
theorem dX12_notes_49 : decode cX12_notes 49 = .ok (.iconst 1, 1) := by decide +kernel
theorem dX12_notes_50 : decode cX12_notes 50 = .ok (.iadd, 1) := by decide +kernel
theorem dX12_notes_51 : decode cX12_notes 51 = .ok (.iload_n 1, 1) := by decide +kernel
theorem dX12_notes_52 : decode cX12_notes 52 = .ok (.iastore, 1) := by decide +kernel
theorem dX12_notes_53 : decode cX12_notes 53 = .ok (.aload_n 0, 1) := by decide +kernel
theorem dX12_notes_54 : decode cX12_notes 54 = .ok (.getfield 34, 3) := by decide +kernel
theorem dX12_notes_57 : decode cX12_notes 57 = .ok (.iload 4, 2) := by decide +kernel
theorem dX12_notes_59 : decode cX12_notes 59 = .ok (.iconst 2, 1) := by decide +kernel
theorem dX12_notes_60 : decode cX12_notes 60 = .ok (.iadd, 1) := by decide +kernel
theorem dX12_notes_61 : decode cX12_notes 61 = .ok (.iload_n 2, 1) := by decide +kernel
theorem dX12_notes_62 : decode cX12_notes 62 = .ok (.iastore, 1) := by decide +kernel
theorem dX12_notes_63 : decode cX12_notes 63 = .ok (.aload_n 0, 1) := by decide +kernel
theorem dX12_notes_64 : decode cX12_notes 64 = .ok (.getfield 34, 3) := by decide +kernel
theorem dX12_notes_67 : decode cX12_notes 67 = .ok (.iload 4, 2) := by decide +kernel
theorem dX12_notes_69 : decode cX12_notes 69 = .ok (.iconst 3, 1) := by decide +kernel
theorem dX12_notes_70 : decode cX12_notes 70 = .ok (.iadd, 1) := by decide +kernel
theorem dX12_notes_71 : decode cX12_notes 71 = .ok (.iload_n 3, 1) := by decide +kernel
theorem dX12_notes_72 : decode cX12_notes 72 = .ok (.iastore, 1) := by decide +kernel
theorem dX12_notes_73 : decode cX12_notes 73 = .ok (.aload_n 0, 1) := by decide +kernel
theorem dX12_notes_74 : decode cX12_notes 74 = .ok (.getfield 7, 3) := by decide +kernel
theorem dX12_notes_77 : decode cX12_notes 77 = .ok (.iconst 2, 1) := by decide +kernel
theorem dX12_notes_78 : decode cX12_notes 78 = .ok (.aload_n 0, 1) := by decide +kernel
theorem dX12_notes_79 : decode cX12_notes 79 = .ok (.getfield 7, 3) := by decide +kernel
theorem dX12_notes_82 : decode cX12_notes 82 = .ok (.iconst 2, 1) := by decide +kernel
theorem dX12_notes_83 : decode cX12_notes 83 = .ok (.iaload, 1) := by decide +kernel
theorem dX12_notes_84 : decode cX12_notes 84 = .ok (.iconst 1, 1) := by decide +kernel
theorem dX12_notes_85 : decode cX12_notes 85 = .ok (.iadd, 1) := by decide +kernel
theorem dX12_notes_86 : decode cX12_notes 86 = .ok (.iastore, 1) := by decide +kernel
theorem dX12_notes_87 : decode cX12_notes 87 = .ok (.return_, 1) := by decide +kernel
def T_X12_notes (x1 : Int32) (x2 : Int32) (x3 : Int32) (M : Mm) (K : Mm → Prop) : Prop := (((M 159 5) = 0 → (((M 160 2) = (150 : Int32) → (K M)) ∧ (¬ (M 160 2) = (150 : Int32) → (∀ y3 : Int32, y3 = ((4 : Int32) * (M 160 2)) → (vp_in y3 600 ∧ (∀ M4 : Mm, M4 = m_up M 168 (y3).toNatClampNeg (M 160 0) → (vp_in (y3 + (1 : Int32)) 600 ∧ (∀ M6 : Mm, M6 = m_up M4 168 ((y3 + (1 : Int32))).toNatClampNeg x1 → (vp_in (y3 + (2 : Int32)) 600 ∧ (∀ M8 : Mm, M8 = m_up M6 168 ((y3 + (2 : Int32))).toNatClampNeg x2 → (vp_in (y3 + (3 : Int32)) 600 ∧ (∀ M10 : Mm, M10 = m_up M8 168 ((y3 + (3 : Int32))).toNatClampNeg x3 → (∀ M12 : Mm, M12 = m_up M10 160 2 ((M10 160 2) + (1 : Int32)) → (K M12)))))))))))))) ∧ (¬ (M 159 5) = 0 → (K M)))
set_option maxHeartbeats 4000000 in
set_option maxRecDepth 100000 in
theorem c_X12_notes (l : Launch) (G : fx_G) {x1 : Int32} {x2 : Int32} {x3 : Int32} {M : Mm} {K : Mm → Prop} (hT : T_X12_notes x1 x2 x3 M K) : Met l yX12_notes (fx_ws yX12_notes cX12_notes 5 none) (fx_rm (0)) (va_Pc [.ref (G.2.2.2 + 159), .int x1, .int x2, .int x3] (fx_P G SH M)) (va_Qv K (fx_R G SH) (fx_A G)) 0 0 (fx_A G) := by
  refine fx_met (own := RX12) (by decide +kernel) rfl (Nat.le_of_ble_eq_true rfl) (fun p e s m below meth c X hr hk h ls hl => ?_)
  obtain ⟨⟨hx, hb, hml, hown, hts⟩, hK, hQ⟩ := id X
  have hl : lv_has ls 5 [(0, .ref (G.2.2.2 + 159)), (1, .int x1), (2, .int x2), (3, .int x3)] := hl
  unfold T_X12_notes at hT
  refine lv_aload_n hx hb dX12_notes_0 rfl (lv_at hl 0 rfl) ?_
  refine fx_getI X h (k := 159) (j := 5) sh_159 rfl fl_RX12_141 dX12_notes_1 ?_
  refine lv_if_ne (tgt := 19) hx hb dX12_notes_4 (by decide) (fun hc1 => ?_) (fun hc1 => ?_)
  · have hT := hT.2 hc1
    exact fx_vret X hr hk h hT dX12_notes_19
  · have hT := hT.1 hc1
    refine lv_aload_n hx hb dX12_notes_7 rfl (lv_at hl 0 rfl) ?_
    refine fx_getR X h (k := 159) (j := 1) (r := 160) sh_159 rfl fl_RX12_7 dX12_notes_8 ?_
    refine lv_iconst (v := 2) hx hb dX12_notes_11 (by decide) ?_
    refine fx_iald X h (k := 160) sh_160 (by unfold vp_in; decide) dX12_notes_12 ?_
    rw [show ((2 : Int32)).toNatClampNeg = 2 by decide]
    refine lv_sipush (v := 150) hx hb dX12_notes_13 (by decide) ?_
    refine lv_icmp_ne (tgt := 20) hx hb dX12_notes_16 (by decide) (fun hc2 => ?_) (fun hc2 => ?_)
    · have hT := hT.2 hc2
      refine lv_iconst (v := 4) hx hb dX12_notes_20 (by decide) ?_
      refine lv_aload_n hx hb dX12_notes_21 rfl (lv_at hl 0 rfl) ?_
      refine fx_getR X h (k := 159) (j := 1) (r := 160) sh_159 rfl fl_RX12_7 dX12_notes_22 ?_
      refine lv_iconst (v := 2) hx hb dX12_notes_25 (by decide) ?_
      refine fx_iald X h (k := 160) sh_160 (by unfold vp_in; decide) dX12_notes_26 ?_
      rw [show ((2 : Int32)).toNatClampNeg = 2 by decide]
      refine lv_imul hx hb dX12_notes_27 ?_
      refine lv_topi (fun y3 ey3 => ?_)
      have hT := hT y3 ey3
      refine lv_istore (lv' := [(4, .int y3), (0, .ref (G.2.2.2 + 159)), (1, .int x1), (2, .int x2), (3, .int x3)]) hx hb dX12_notes_28 hl (by decide) rfl (fun ls hl => ?_)
      refine lv_aload_n hx hb dX12_notes_30 rfl (lv_at hl 1 rfl) ?_
      refine fx_getR X h (k := 159) (j := 13) (r := 168) sh_159 rfl fl_RX12_34 dX12_notes_31 ?_
      refine lv_iload hx hb dX12_notes_34 (lv_at hl 0 rfl) ?_
      refine lv_aload_n hx hb dX12_notes_36 rfl (lv_at hl 1 rfl) ?_
      refine fx_getR X h (k := 159) (j := 1) (r := 160) sh_159 rfl fl_RX12_7 dX12_notes_37 ?_
      refine lv_iconst (v := 0) hx hb dX12_notes_40 (by decide) ?_
      refine fx_iald X h (k := 160) sh_160 (by unfold vp_in; decide) dX12_notes_41 ?_
      rw [show ((0 : Int32)).toNatClampNeg = 0 by decide]
      obtain ⟨hi5, hT⟩ := hT
      refine fx_iast X h (k := 168) sh_168 hi5 dX12_notes_42 (fun H locs h => ?_)
      obtain ⟨M4, eM4⟩ : ∃ z : Mm, z = m_up M 168 (y3).toNatClampNeg (M 160 0) := ⟨_, rfl⟩
      have hT := hT M4 eM4
      rw [← eM4] at h
      refine lv_aload_n hx hb dX12_notes_43 rfl (lv_at hl 1 rfl) ?_
      refine fx_getR X h (k := 159) (j := 13) (r := 168) sh_159 rfl fl_RX12_34 dX12_notes_44 ?_
      refine lv_iload hx hb dX12_notes_47 (lv_at hl 0 rfl) ?_
      refine lv_iconst (v := 1) hx hb dX12_notes_49 (by decide) ?_
      refine lv_iadd hx hb dX12_notes_50 ?_
      refine lv_iload_n hx hb dX12_notes_51 rfl (lv_at hl 2 rfl) ?_
      obtain ⟨hi7, hT⟩ := hT
      refine fx_iast X h (k := 168) sh_168 hi7 dX12_notes_52 (fun H locs h => ?_)
      obtain ⟨M6, eM6⟩ : ∃ z : Mm, z = m_up M4 168 ((y3 + (1 : Int32))).toNatClampNeg x1 := ⟨_, rfl⟩
      have hT := hT M6 eM6
      rw [← eM6] at h
      refine lv_aload_n hx hb dX12_notes_53 rfl (lv_at hl 1 rfl) ?_
      refine fx_getR X h (k := 159) (j := 13) (r := 168) sh_159 rfl fl_RX12_34 dX12_notes_54 ?_
      refine lv_iload hx hb dX12_notes_57 (lv_at hl 0 rfl) ?_
      refine lv_iconst (v := 2) hx hb dX12_notes_59 (by decide) ?_
      refine lv_iadd hx hb dX12_notes_60 ?_
      refine lv_iload_n hx hb dX12_notes_61 rfl (lv_at hl 3 rfl) ?_
      obtain ⟨hi9, hT⟩ := hT
      refine fx_iast X h (k := 168) sh_168 hi9 dX12_notes_62 (fun H locs h => ?_)
      obtain ⟨M8, eM8⟩ : ∃ z : Mm, z = m_up M6 168 ((y3 + (2 : Int32))).toNatClampNeg x2 := ⟨_, rfl⟩
      have hT := hT M8 eM8
      rw [← eM8] at h
      refine lv_aload_n hx hb dX12_notes_63 rfl (lv_at hl 1 rfl) ?_
      refine fx_getR X h (k := 159) (j := 13) (r := 168) sh_159 rfl fl_RX12_34 dX12_notes_64 ?_
      refine lv_iload hx hb dX12_notes_67 (lv_at hl 0 rfl) ?_
      refine lv_iconst (v := 3) hx hb dX12_notes_69 (by decide) ?_
      refine lv_iadd hx hb dX12_notes_70 ?_
      refine lv_iload_n hx hb dX12_notes_71 rfl (lv_at hl 4 rfl) ?_
      obtain ⟨hi11, hT⟩ := hT
      refine fx_iast X h (k := 168) sh_168 hi11 dX12_notes_72 (fun H locs h => ?_)
      obtain ⟨M10, eM10⟩ : ∃ z : Mm, z = m_up M8 168 ((y3 + (3 : Int32))).toNatClampNeg x3 := ⟨_, rfl⟩
      have hT := hT M10 eM10
      rw [← eM10] at h
      refine lv_aload_n hx hb dX12_notes_73 rfl (lv_at hl 1 rfl) ?_
      refine fx_getR X h (k := 159) (j := 1) (r := 160) sh_159 rfl fl_RX12_7 dX12_notes_74 ?_
      refine lv_iconst (v := 2) hx hb dX12_notes_77 (by decide) ?_
      refine lv_aload_n hx hb dX12_notes_78 rfl (lv_at hl 1 rfl) ?_
      refine fx_getR X h (k := 159) (j := 1) (r := 160) sh_159 rfl fl_RX12_7 dX12_notes_79 ?_
      refine lv_iconst (v := 2) hx hb dX12_notes_82 (by decide) ?_
      refine fx_iald X h (k := 160) sh_160 (by unfold vp_in; decide) dX12_notes_83 ?_
      rw [show ((2 : Int32)).toNatClampNeg = 2 by decide]
      refine lv_iconst (v := 1) hx hb dX12_notes_84 (by decide) ?_
      refine lv_iadd hx hb dX12_notes_85 ?_
      refine fx_iast X h (k := 160) sh_160 (by unfold vp_in; decide) dX12_notes_86 (fun H locs h => ?_)
      rw [show ((2 : Int32)).toNatClampNeg = 2 by decide] at h
      obtain ⟨M12, eM12⟩ : ∃ z : Mm, z = m_up M10 160 2 ((M10 160 2) + (1 : Int32)) := ⟨_, rfl⟩
      have hT := hT M12 eM12
      rw [← eM12] at h
      exact fx_vret X hr hk h hT dX12_notes_87
    · have hT := hT.1 hc2
      exact fx_vret X hr hk h hT dX12_notes_19
/-! MockParcelsModel.doesBid(III)Z -/
theorem dX12_doesBid_0 : decode cX12_doesBid 0 = .ok (.iload_n 2, 1) := by decide +kernel
theorem dX12_doesBid_1 : decode cX12_doesBid 1 = .ok (.aload_n 0, 1) := by decide +kernel
theorem dX12_doesBid_2 : decode cX12_doesBid 2 = .ok (.getfield 350, 3) := by decide +kernel
theorem dX12_doesBid_5 : decode cX12_doesBid 5 = .ok (.if_icmp .eq 26, 3) := by decide +kernel
theorem dX12_doesBid_8 : decode cX12_doesBid 8 = .ok (.aload_n 0, 1) := by decide +kernel
theorem dX12_doesBid_9 : decode cX12_doesBid 9 = .ok (.getfield 350, 3) := by decide +kernel
theorem dX12_doesBid_12 : decode cX12_doesBid 12 = .ok (.iconst (-1), 1) := by decide +kernel
theorem dX12_doesBid_13 : decode cX12_doesBid 13 = .ok (.if_icmp .eq 20, 3) := by decide +kernel
theorem dX12_doesBid_16 : decode cX12_doesBid 16 = .ok (.aload_n 0, 1) := by decide +kernel
theorem dX12_doesBid_17 : decode cX12_doesBid 17 = .ok (.getfield 71, 3) := by decide +kernel
theorem dX12_doesBid_20 : decode cX12_doesBid 20 = .ok (.iload_n 2, 1) := by decide +kernel
theorem dX12_doesBid_21 : decode cX12_doesBid 21 = .ok (.iaload, 1) := by decide +kernel
theorem dX12_doesBid_22 : decode cX12_doesBid 22 = .ok (.aload_n 0, 1) := by decide +kernel
theorem dX12_doesBid_23 : decode cX12_doesBid 23 = .ok (.getfield 350, 3) := by decide +kernel
theorem dX12_doesBid_26 : decode cX12_doesBid 26 = .ok (.iconst 1, 1) := by decide +kernel
theorem dX12_doesBid_27 : decode cX12_doesBid 27 = .ok (.iadd, 1) := by decide +kernel
theorem dX12_doesBid_28 : decode cX12_doesBid 28 = .ok (.if_icmp .ne 5, 3) := by decide +kernel
theorem dX12_doesBid_31 : decode cX12_doesBid 31 = .ok (.iconst 0, 1) := by decide +kernel
theorem dX12_doesBid_32 : decode cX12_doesBid 32 = .ok (.ireturn, 1) := by decide +kernel
theorem dX12_doesBid_33 : decode cX12_doesBid 33 = .ok (.aload_n 0, 1) := by decide +kernel
theorem dX12_doesBid_34 : decode cX12_doesBid 34 = .ok (.iload_n 1, 1) := by decide +kernel
theorem dX12_doesBid_35 : decode cX12_doesBid 35 = .ok (.iload_n 2, 1) := by decide +kernel
theorem dX12_doesBid_36 : decode cX12_doesBid 36 = .ok (.aload_n 0, 1) := by decide +kernel
theorem dX12_doesBid_37 : decode cX12_doesBid 37 = .ok (.getfield 353, 3) := by decide +kernel
theorem dX12_doesBid_40 : decode cX12_doesBid 40 = .ok (.iload_n 3, 1) := by decide +kernel
theorem dX12_doesBid_41 : decode cX12_doesBid 41 = .ok (.invokevirtual 356, 3) := by decide +kernel
theorem dX12_doesBid_44 : decode cX12_doesBid 44 = .ok (.istore 4, 2) := by decide +kernel
theorem dX12_doesBid_46 : decode cX12_doesBid 46 = .ok (.aload_n 0, 1) := by decide +kernel
theorem dX12_doesBid_47 : decode cX12_doesBid 47 = .ok (.getfield 141, 3) := by decide +kernel
theorem dX12_doesBid_50 : decode cX12_doesBid 50 = .ok (.ifCond .eq 16, 3) := by decide +kernel
theorem dX12_doesBid_53 : decode cX12_doesBid 53 = .ok (.iconst 2, 1) := by decide +kernel
theorem dX12_doesBid_54 : decode cX12_doesBid 54 = .ok (.iload 4, 2) := by decide +kernel
theorem dX12_doesBid_56 : decode cX12_doesBid 56 = .ok (.imul, 1) := by decide +kernel
theorem dX12_doesBid_57 : decode cX12_doesBid 57 = .ok (.sipush 1000, 3) := by decide +kernel
theorem dX12_doesBid_60 : decode cX12_doesBid 60 = .ok (.if_icmp .ge 20, 3) := by decide +kernel
theorem dX12_doesBid_63 : decode cX12_doesBid 63 = .ok (.goto 15, 3) := by decide +kernel
theorem dX12_doesBid_66 : decode cX12_doesBid 66 = .ok (.aload_n 0, 1) := by decide +kernel
theorem dX12_doesBid_67 : decode cX12_doesBid 67 = .ok (.sipush 1000, 3) := by decide +kernel
theorem dX12_doesBid_70 : decode cX12_doesBid 70 = .ok (.invokevirtual 359, 3) := by decide +kernel
theorem dX12_doesBid_73 : decode cX12_doesBid 73 = .ok (.iload 4, 2) := by decide +kernel
theorem dX12_doesBid_75 : decode cX12_doesBid 75 = .ok (.if_icmp .lt 5, 3) := by decide +kernel
theorem dX12_doesBid_78 : decode cX12_doesBid 78 = .ok (.iconst 0, 1) := by decide +kernel
theorem dX12_doesBid_79 : decode cX12_doesBid 79 = .ok (.ireturn, 1) := by decide +kernel
theorem dX12_doesBid_80 : decode cX12_doesBid 80 = .ok (.aload_n 0, 1) := by decide +kernel
theorem dX12_doesBid_81 : decode cX12_doesBid 81 = .ok (.getfield 353, 3) := by decide +kernel
theorem dX12_doesBid_84 : decode cX12_doesBid 84 = .ok (.aload_n 0, 1) := by decide +kernel
theorem dX12_doesBid_85 : decode cX12_doesBid 85 = .ok (.iload_n 1, 1) := by decide +kernel
theorem dX12_doesBid_86 : decode cX12_doesBid 86 = .ok (.iload_n 2, 1) := by decide +kernel
theorem dX12_doesBid_87 : decode cX12_doesBid 87 = .ok (.aload_n 0, 1) := by decide +kernel
theorem dX12_doesBid_88 : decode cX12_doesBid 88 = .ok (.getfield 353, 3) := by decide +kernel
theorem dX12_doesBid_91 : decode cX12_doesBid 91 = .ok (.iload_n 3, 1) := by decide +kernel
theorem dX12_doesBid_92 : decode cX12_doesBid 92 = .ok (.invokevirtual 362, 3) := by decide +kernel
theorem dX12_doesBid_95 : decode cX12_doesBid 95 = .ok (.iadd, 1) := by decide +kernel
theorem dX12_doesBid_96 : decode cX12_doesBid 96 = .ok (.istore 5, 2) := by decide +kernel
theorem dX12_doesBid_98 : decode cX12_doesBid 98 = .ok (.iload 5, 2) := by decide +kernel
theorem dX12_doesBid_100 : decode cX12_doesBid 100 = .ok (.aload_n 0, 1) := by decide +kernel
theorem dX12_doesBid_101 : decode cX12_doesBid 101 = .ok (.getfield 7, 3) := by decide +kernel
theorem dX12_doesBid_104 : decode cX12_doesBid 104 = .ok (.bipush 55, 2) := by decide +kernel
theorem dX12_doesBid_106 : decode cX12_doesBid 106 = .ok (.iload_n 2, 1) := by decide +kernel
theorem dX12_doesBid_107 : decode cX12_doesBid 107 = .ok (.iadd, 1) := by decide +kernel
theorem dX12_doesBid_108 : decode cX12_doesBid 108 = .ok (.iaload, 1) := by decide +kernel
theorem dX12_doesBid_109 : decode cX12_doesBid 109 = .ok (.if_icmp .le 14, 3) := by decide +kernel
theorem dX12_doesBid_112 : decode cX12_doesBid 112 = .ok (.aload_n 0, 1) := by decide +kernel
theorem dX12_doesBid_113 : decode cX12_doesBid 113 = .ok (.getfield 31, 3) := by decide +kernel
theorem dX12_doesBid_116 : decode cX12_doesBid 116 = .ok (.iload_n 2, 1) := by decide +kernel
theorem dX12_doesBid_117 : decode cX12_doesBid 117 = .ok (.iaload, 1) := by decide +kernel
theorem dX12_doesBid_118 : decode cX12_doesBid 118 = .ok (.ifCond .ne 5, 3) := by decide +kernel
theorem dX12_doesBid_121 : decode cX12_doesBid 121 = .ok (.iconst 0, 1) := by decide +kernel
theorem dX12_doesBid_122 : decode cX12_doesBid 122 = .ok (.ireturn, 1) := by decide +kernel
theorem dX12_doesBid_123 : decode cX12_doesBid 123 = .ok (.aload_n 0, 1) := by decide +kernel
theorem dX12_doesBid_124 : decode cX12_doesBid 124 = .ok (.iload 5, 2) := by decide +kernel
theorem dX12_doesBid_126 : decode cX12_doesBid 126 = .ok (.putfield 353, 3) := by decide +kernel
theorem dX12_doesBid_129 : decode cX12_doesBid 129 = .ok (.aload_n 0, 1) := by decide +kernel
theorem dX12_doesBid_130 : decode cX12_doesBid 130 = .ok (.iload_n 2, 1) := by decide +kernel
theorem dX12_doesBid_131 : decode cX12_doesBid 131 = .ok (.putfield 350, 3) := by decide +kernel
theorem dX12_doesBid_134 : decode cX12_doesBid 134 = .ok (.aload_n 0, 1) := by decide +kernel
theorem dX12_doesBid_135 : decode cX12_doesBid 135 = .ok (.iconst 0, 1) := by decide +kernel
theorem dX12_doesBid_136 : decode cX12_doesBid 136 = .ok (.iload_n 2, 1) := by decide +kernel
theorem dX12_doesBid_137 : decode cX12_doesBid 137 = .ok (.iload 5, 2) := by decide +kernel
theorem dX12_doesBid_139 : decode cX12_doesBid 139 = .ok (.invokevirtual 365, 3) := by decide +kernel
theorem dX12_doesBid_142 : decode cX12_doesBid 142 = .ok (.iconst 1, 1) := by decide +kernel
theorem dX12_doesBid_143 : decode cX12_doesBid 143 = .ok (.ireturn, 1) := by decide +kernel
def T_X12_doesBid_123 (x2 : Int32) (x5 : Int32) (M : Mm) (K : Int32 → Mm → Prop) : Prop := (∀ M1 : Mm, M1 = m_up M 159 45 x5 → (∀ M2 : Mm, M2 = m_up M1 159 46 x2 → (T_X12_notes (0 : Int32) x2 x5 M2 (fun M4 => (K (1 : Int32) M4)))))
set_option maxHeartbeats 4000000 in
set_option maxRecDepth 100000 in
theorem w_X12_doesBid_123 {p : Program} {l : Launch} {e : Env} {s : State} {m : MethodId} {args : Array Value} {below : List Frame} {meth : Method} {c : Code} {G : fx_G} {K : Int32 → Mm → Prop} (X : fx_C G p s m c args cX12_doesBid 6 RX12) (hr : meth.sig.returnType = (some .boolean)) (hk : meth.locks = false) : ∀ (x2 : Int32) (x5 : Int32) (M : Mm) (H : Heap) (locs : List Loc) (ls : Array Slot), T_X12_doesBid_123 x2 x5 M K → fx_H G SH M s H locs → lv_has ls 6 [(0, .ref (G.2.2.2 + 159)), (2, .int x2), (5, .int x5)] → W p l e (fx_rm (5)) s m args below meth c H locs 0 0 (MQ below (va_Qi K (fx_R G SH) (fx_A G)) args s 0 0 (fx_A G)) (F0 m 123 ls []) := by
  obtain ⟨⟨hx, hb, hml, hown, hts⟩, hK, hQ⟩ := id X
  intro x2 x5 M H locs ls hT h hl
  unfold T_X12_doesBid_123 at hT
  refine lv_aload_n hx hb dX12_doesBid_123 rfl (lv_at hl 0 rfl) ?_
  refine lv_iload hx hb dX12_doesBid_124 (lv_at hl 2 rfl) ?_
  refine fx_putI X h (k := 159) (j := 45) sh_159 rfl fl_RX12_353 dX12_doesBid_126 (fun H locs h => ?_)
  obtain ⟨M1, eM1⟩ : ∃ z : Mm, z = m_up M 159 45 x5 := ⟨_, rfl⟩
  have hT := hT M1 eM1
  rw [← eM1] at h
  refine lv_aload_n hx hb dX12_doesBid_129 rfl (lv_at hl 0 rfl) ?_
  refine lv_iload_n hx hb dX12_doesBid_130 rfl (lv_at hl 1 rfl) ?_
  refine fx_putI X h (k := 159) (j := 46) sh_159 rfl fl_RX12_350 dX12_doesBid_131 (fun H locs h => ?_)
  obtain ⟨M2, eM2⟩ : ∃ z : Mm, z = m_up M1 159 46 x2 := ⟨_, rfl⟩
  have hT := hT M2 eM2
  rw [← eM2] at h
  refine lv_aload_n hx hb dX12_doesBid_134 rfl (lv_at hl 0 rfl) ?_
  refine lv_iconst (v := 0) hx hb dX12_doesBid_135 (by decide) ?_
  refine lv_iload_n hx hb dX12_doesBid_136 rfl (lv_at hl 1 rfl) ?_
  refine lv_iload hx hb dX12_doesBid_137 (lv_at hl 2 rfl) ?_
  refine fx_vv X h ym_X12_notes yi_X12_notes ys_X12_notes (fx_s8 (List.mem_of_getElem? (i := 83) rfl) rfl) sh_159 rfl (c_X12_notes l G hT) (As := [.int (0 : Int32), .int x2, .int x5]) (rest := []) rfl rfl ⟨Nat.le_of_ble_eq_true rfl, Nat.le_of_ble_eq_true rfl⟩ ⟨Nat.le_refl _, Nat.le_refl _⟩ hl.1 (Nat.le_of_ble_eq_true rfl) dX12_doesBid_139 (fun M4 H locs hT h => ?_)
  refine lv_iconst (v := 1) hx hb dX12_doesBid_142 (by decide) ?_
  exact fx_zret X hr hk h (Or.inr rfl) hT dX12_doesBid_143
def T_X12_doesBid_80 (x1 : Int32) (x2 : Int32) (x3 : Int32) (M : Mm) (K : Int32 → Mm → Prop) : Prop := (T_X12_stepOf x1 x2 (M 159 45) x3 M (fun r7 M6 => (∀ y8 : Int32, y8 = ((M 159 45) + r7) → (vp_in ((55 : Int32) + x2) 135 ∧ ((y8 ≤ (M6 160 (((55 : Int32) + x2)).toNatClampNeg) → (T_X12_doesBid_123 x2 y8 M6 K)) ∧ (¬ y8 ≤ (M6 160 (((55 : Int32) + x2)).toNatClampNeg) → (vp_in x2 8 ∧ (((M6 167 (x2).toNatClampNeg) = 0 → (K (0 : Int32) M6)) ∧ (¬ (M6 167 (x2).toNatClampNeg) = 0 → (T_X12_doesBid_123 x2 y8 M6 K))))))))))
set_option maxHeartbeats 4000000 in
set_option maxRecDepth 100000 in
theorem w_X12_doesBid_80 {p : Program} {l : Launch} {e : Env} {s : State} {m : MethodId} {args : Array Value} {below : List Frame} {meth : Method} {c : Code} {G : fx_G} {K : Int32 → Mm → Prop} (X : fx_C G p s m c args cX12_doesBid 6 RX12) (hr : meth.sig.returnType = (some .boolean)) (hk : meth.locks = false) : ∀ (x1 : Int32) (x2 : Int32) (x3 : Int32) (M : Mm) (H : Heap) (locs : List Loc) (ls : Array Slot), T_X12_doesBid_80 x1 x2 x3 M K → fx_H G SH M s H locs → lv_has ls 6 [(0, .ref (G.2.2.2 + 159)), (1, .int x1), (2, .int x2), (3, .int x3)] → W p l e (fx_rm (5)) s m args below meth c H locs 0 0 (MQ below (va_Qi K (fx_R G SH) (fx_A G)) args s 0 0 (fx_A G)) (F0 m 80 ls []) := by
  obtain ⟨⟨hx, hb, hml, hown, hts⟩, hK, hQ⟩ := id X
  intro x1 x2 x3 M H locs ls hT h hl
  unfold T_X12_doesBid_80 at hT
  refine lv_aload_n hx hb dX12_doesBid_80 rfl (lv_at hl 0 rfl) ?_
  refine fx_getI X h (k := 159) (j := 45) sh_159 rfl fl_RX12_353 dX12_doesBid_81 ?_
  refine lv_aload_n hx hb dX12_doesBid_84 rfl (lv_at hl 0 rfl) ?_
  refine lv_iload_n hx hb dX12_doesBid_85 rfl (lv_at hl 1 rfl) ?_
  refine lv_iload_n hx hb dX12_doesBid_86 rfl (lv_at hl 2 rfl) ?_
  refine lv_aload_n hx hb dX12_doesBid_87 rfl (lv_at hl 0 rfl) ?_
  refine fx_getI X h (k := 159) (j := 45) sh_159 rfl fl_RX12_353 dX12_doesBid_88 ?_
  refine lv_iload_n hx hb dX12_doesBid_91 rfl (lv_at hl 3 rfl) ?_
  refine fx_vi X h ym_X12_stepOf yi_X12_stepOf ys_X12_stepOf (fx_s8 (List.mem_of_getElem? (i := 79) rfl) rfl) sh_159 rfl (c_X12_stepOf l G hT) (As := [.int x1, .int x2, .int (M 159 45), .int x3]) (rest := [.int (M 159 45)]) rfl rfl ⟨Nat.le_of_ble_eq_true rfl, Nat.le_of_ble_eq_true rfl⟩ ⟨Nat.le_refl _, Nat.le_refl _⟩ hl.1 (Nat.le_of_ble_eq_true rfl) dX12_doesBid_92 (fun r7 M6 H locs hT h => ?_)
  refine lv_iadd hx hb dX12_doesBid_95 ?_
  refine lv_topi (fun y8 ey8 => ?_)
  have hT := hT y8 ey8
  refine lv_istore (lv' := [(5, .int y8), (0, .ref (G.2.2.2 + 159)), (1, .int x1), (2, .int x2), (3, .int x3)]) hx hb dX12_doesBid_96 hl (by decide) rfl (fun ls hl => ?_)
  refine lv_iload hx hb dX12_doesBid_98 (lv_at hl 0 rfl) ?_
  refine lv_aload_n hx hb dX12_doesBid_100 rfl (lv_at hl 1 rfl) ?_
  refine fx_getR X h (k := 159) (j := 1) (r := 160) sh_159 rfl fl_RX12_7 dX12_doesBid_101 ?_
  refine lv_bipush (v := 55) hx hb dX12_doesBid_104 (by decide) ?_
  refine lv_iload_n hx hb dX12_doesBid_106 rfl (lv_at hl 3 rfl) ?_
  refine lv_iadd hx hb dX12_doesBid_107 ?_
  obtain ⟨hi9, hT⟩ := hT
  refine fx_iald X h (k := 160) sh_160 hi9 dX12_doesBid_108 ?_
  refine lv_icmp_le (tgt := 123) hx hb dX12_doesBid_109 (by decide) (fun hc10 => ?_) (fun hc10 => ?_)
  · have hT := hT.1 hc10
    exact w_X12_doesBid_123 X hr hk x2 y8 M6 _ _ ls hT h (lv_sub hl [1, 3, 0] rfl)
  · have hT := hT.2 hc10
    refine lv_aload_n hx hb dX12_doesBid_112 rfl (lv_at hl 1 rfl) ?_
    refine fx_getR X h (k := 159) (j := 12) (r := 167) sh_159 rfl fl_RX12_31 dX12_doesBid_113 ?_
    refine lv_iload_n hx hb dX12_doesBid_116 rfl (lv_at hl 3 rfl) ?_
    obtain ⟨hi11, hT⟩ := hT
    refine fx_iald X h (k := 167) sh_167 hi11 dX12_doesBid_117 ?_
    refine lv_if_ne (tgt := 123) hx hb dX12_doesBid_118 (by decide) (fun hc12 => ?_) (fun hc12 => ?_)
    · have hT := hT.2 hc12
      exact w_X12_doesBid_123 X hr hk x2 y8 M6 _ _ ls hT h (lv_sub hl [1, 3, 0] rfl)
    · have hT := hT.1 hc12
      refine lv_iconst (v := 0) hx hb dX12_doesBid_121 (by decide) ?_
      exact fx_zret X hr hk h (Or.inl rfl) hT dX12_doesBid_122
def T_X12_doesBid_33 (x1 : Int32) (x2 : Int32) (x3 : Int32) (M : Mm) (K : Int32 → Mm → Prop) : Prop := (T_X12_bidsOf x1 x2 (M 159 45) x3 M (fun r15 M14 => (((M14 159 5) = 0 → (T_X12_draw (1000 : Int32) M14 (fun r19 M18 => ((r19 < r15 → (T_X12_doesBid_80 x1 x2 x3 M18 K)) ∧ (¬ r19 < r15 → (K (0 : Int32) M18)))))) ∧ (¬ (M14 159 5) = 0 → (((1000 : Int32) ≤ ((2 : Int32) * r15) → (T_X12_doesBid_80 x1 x2 x3 M14 K)) ∧ (¬ (1000 : Int32) ≤ ((2 : Int32) * r15) → (K (0 : Int32) M14)))))))
set_option maxHeartbeats 4000000 in
set_option maxRecDepth 100000 in
theorem w_X12_doesBid_33 {p : Program} {l : Launch} {e : Env} {s : State} {m : MethodId} {args : Array Value} {below : List Frame} {meth : Method} {c : Code} {G : fx_G} {K : Int32 → Mm → Prop} (X : fx_C G p s m c args cX12_doesBid 6 RX12) (hr : meth.sig.returnType = (some .boolean)) (hk : meth.locks = false) : ∀ (x1 : Int32) (x2 : Int32) (x3 : Int32) (M : Mm) (H : Heap) (locs : List Loc) (ls : Array Slot), T_X12_doesBid_33 x1 x2 x3 M K → fx_H G SH M s H locs → lv_has ls 6 [(0, .ref (G.2.2.2 + 159)), (1, .int x1), (2, .int x2), (3, .int x3)] → W p l e (fx_rm (5)) s m args below meth c H locs 0 0 (MQ below (va_Qi K (fx_R G SH) (fx_A G)) args s 0 0 (fx_A G)) (F0 m 33 ls []) := by
  obtain ⟨⟨hx, hb, hml, hown, hts⟩, hK, hQ⟩ := id X
  intro x1 x2 x3 M H locs ls hT h hl
  unfold T_X12_doesBid_33 at hT
  refine lv_aload_n hx hb dX12_doesBid_33 rfl (lv_at hl 0 rfl) ?_
  refine lv_iload_n hx hb dX12_doesBid_34 rfl (lv_at hl 1 rfl) ?_
  refine lv_iload_n hx hb dX12_doesBid_35 rfl (lv_at hl 2 rfl) ?_
  refine lv_aload_n hx hb dX12_doesBid_36 rfl (lv_at hl 0 rfl) ?_
  refine fx_getI X h (k := 159) (j := 45) sh_159 rfl fl_RX12_353 dX12_doesBid_37 ?_
  refine lv_iload_n hx hb dX12_doesBid_40 rfl (lv_at hl 3 rfl) ?_
  refine fx_vi X h ym_X12_bidsOf yi_X12_bidsOf ys_X12_bidsOf (fx_s8 (List.mem_of_getElem? (i := 37) rfl) rfl) sh_159 rfl (c_X12_bidsOf l G hT) (As := [.int x1, .int x2, .int (M 159 45), .int x3]) (rest := []) rfl rfl ⟨Nat.le_of_ble_eq_true rfl, Nat.le_of_ble_eq_true rfl⟩ ⟨Nat.le_refl _, Nat.le_refl _⟩ hl.1 (Nat.le_of_ble_eq_true rfl) dX12_doesBid_41 (fun r15 M14 H locs hT h => ?_)
  refine lv_istore (lv' := [(4, .int r15), (0, .ref (G.2.2.2 + 159)), (1, .int x1), (2, .int x2), (3, .int x3)]) hx hb dX12_doesBid_44 hl (by decide) rfl (fun ls hl => ?_)
  refine lv_aload_n hx hb dX12_doesBid_46 rfl (lv_at hl 1 rfl) ?_
  refine fx_getI X h (k := 159) (j := 5) sh_159 rfl fl_RX12_141 dX12_doesBid_47 ?_
  refine lv_if_eq (tgt := 66) hx hb dX12_doesBid_50 (by decide) (fun hc16 => ?_) (fun hc16 => ?_)
  · have hT := hT.1 hc16
    refine lv_aload_n hx hb dX12_doesBid_66 rfl (lv_at hl 1 rfl) ?_
    refine lv_sipush (v := 1000) hx hb dX12_doesBid_67 (by decide) ?_
    refine fx_vi X h ym_X12_draw yi_X12_draw ys_X12_draw (fx_s8 (List.mem_of_getElem? (i := 73) rfl) rfl) sh_159 rfl (c_X12_draw l G hT) (As := [.int (1000 : Int32)]) (rest := []) rfl rfl ⟨Nat.le_of_ble_eq_true rfl, Nat.le_of_ble_eq_true rfl⟩ ⟨Nat.le_refl _, Nat.le_refl _⟩ hl.1 (Nat.le_of_ble_eq_true rfl) dX12_doesBid_70 (fun r19 M18 H locs hT h => ?_)
    refine lv_iload hx hb dX12_doesBid_73 (lv_at hl 0 rfl) ?_
    refine lv_icmp_lt (tgt := 80) hx hb dX12_doesBid_75 (by decide) (fun hc20 => ?_) (fun hc20 => ?_)
    · have hT := hT.1 hc20
      exact w_X12_doesBid_80 X hr hk x1 x2 x3 M18 _ _ ls hT h (lv_sub hl [1, 2, 3, 4] rfl)
    · have hT := hT.2 hc20
      refine lv_iconst (v := 0) hx hb dX12_doesBid_78 (by decide) ?_
      exact fx_zret X hr hk h (Or.inl rfl) hT dX12_doesBid_79
  · have hT := hT.2 hc16
    refine lv_iconst (v := 2) hx hb dX12_doesBid_53 (by decide) ?_
    refine lv_iload hx hb dX12_doesBid_54 (lv_at hl 0 rfl) ?_
    refine lv_imul hx hb dX12_doesBid_56 ?_
    refine lv_sipush (v := 1000) hx hb dX12_doesBid_57 (by decide) ?_
    refine lv_icmp_ge (tgt := 80) hx hb dX12_doesBid_60 (by decide) (fun hc21 => ?_) (fun hc21 => ?_)
    · have hT := hT.1 hc21
      exact w_X12_doesBid_80 X hr hk x1 x2 x3 M14 _ _ ls hT h (lv_sub hl [1, 2, 3, 4] rfl)
    · have hT := hT.2 hc21
      refine lv_goto (tgt := 78) hx hb dX12_doesBid_63 (by decide) ?_
      refine lv_iconst (v := 0) hx hb dX12_doesBid_78 (by decide) ?_
      exact fx_zret X hr hk h (Or.inl rfl) hT dX12_doesBid_79
def T_X12_doesBid (x1 : Int32) (x2 : Int32) (x3 : Int32) (M : Mm) (K : Int32 → Mm → Prop) : Prop := ((x2 = (M 159 46) → (K (0 : Int32) M)) ∧ (¬ x2 = (M 159 46) → (((M 159 46) = (-1 : Int32) → (T_X12_doesBid_33 x1 x2 x3 M K)) ∧ (¬ (M 159 46) = (-1 : Int32) → (vp_in x2 16 ∧ (((M 179 (x2).toNatClampNeg) = ((M 159 46) + (1 : Int32)) → (K (0 : Int32) M)) ∧ (¬ (M 179 (x2).toNatClampNeg) = ((M 159 46) + (1 : Int32)) → (T_X12_doesBid_33 x1 x2 x3 M K))))))))
set_option maxHeartbeats 4000000 in
set_option maxRecDepth 100000 in
theorem c_X12_doesBid (l : Launch) (G : fx_G) {x1 : Int32} {x2 : Int32} {x3 : Int32} {M : Mm} {K : Int32 → Mm → Prop} (hT : T_X12_doesBid x1 x2 x3 M K) : Met l yX12_doesBid (fx_ws yX12_doesBid cX12_doesBid 6 (some .boolean)) (fx_rm (5)) (va_Pc [.ref (G.2.2.2 + 159), .int x1, .int x2, .int x3] (fx_P G SH M)) (va_Qi K (fx_R G SH) (fx_A G)) 0 0 (fx_A G) := by
  refine fx_met (own := RX12) (by decide +kernel) rfl (Nat.le_of_ble_eq_true rfl) (fun p e s m below meth c X hr hk h ls hl => ?_)
  obtain ⟨⟨hx, hb, hml, hown, hts⟩, hK, hQ⟩ := id X
  have hl : lv_has ls 6 [(0, .ref (G.2.2.2 + 159)), (1, .int x1), (2, .int x2), (3, .int x3)] := hl
  unfold T_X12_doesBid at hT
  refine lv_iload_n hx hb dX12_doesBid_0 rfl (lv_at hl 2 rfl) ?_
  refine lv_aload_n hx hb dX12_doesBid_1 rfl (lv_at hl 0 rfl) ?_
  refine fx_getI X h (k := 159) (j := 46) sh_159 rfl fl_RX12_350 dX12_doesBid_2 ?_
  refine lv_icmp_eq (tgt := 31) hx hb dX12_doesBid_5 (by decide) (fun hc22 => ?_) (fun hc22 => ?_)
  · have hT := hT.1 hc22
    refine lv_iconst (v := 0) hx hb dX12_doesBid_31 (by decide) ?_
    exact fx_zret X hr hk h (Or.inl rfl) hT dX12_doesBid_32
  · have hT := hT.2 hc22
    refine lv_aload_n hx hb dX12_doesBid_8 rfl (lv_at hl 0 rfl) ?_
    refine fx_getI X h (k := 159) (j := 46) sh_159 rfl fl_RX12_350 dX12_doesBid_9 ?_
    refine lv_iconst (v := -1) hx hb dX12_doesBid_12 (by decide) ?_
    refine lv_icmp_eq (tgt := 33) hx hb dX12_doesBid_13 (by decide) (fun hc23 => ?_) (fun hc23 => ?_)
    · have hT := hT.1 hc23
      exact w_X12_doesBid_33 X hr hk x1 x2 x3 M _ _ ls hT h (lv_sub hl [0, 1, 2, 3] rfl)
    · have hT := hT.2 hc23
      refine lv_aload_n hx hb dX12_doesBid_16 rfl (lv_at hl 0 rfl) ?_
      refine fx_getR X h (k := 159) (j := 38) (r := 179) sh_159 rfl fl_RX12_71 dX12_doesBid_17 ?_
      refine lv_iload_n hx hb dX12_doesBid_20 rfl (lv_at hl 2 rfl) ?_
      obtain ⟨hi24, hT⟩ := hT
      refine fx_iald X h (k := 179) sh_179 hi24 dX12_doesBid_21 ?_
      refine lv_aload_n hx hb dX12_doesBid_22 rfl (lv_at hl 0 rfl) ?_
      refine fx_getI X h (k := 159) (j := 46) sh_159 rfl fl_RX12_350 dX12_doesBid_23 ?_
      refine lv_iconst (v := 1) hx hb dX12_doesBid_26 (by decide) ?_
      refine lv_iadd hx hb dX12_doesBid_27 ?_
      refine lv_icmp_ne (tgt := 33) hx hb dX12_doesBid_28 (by decide) (fun hc25 => ?_) (fun hc25 => ?_)
      · have hT := hT.2 hc25
        exact w_X12_doesBid_33 X hr hk x1 x2 x3 M _ _ ls hT h (lv_sub hl [0, 1, 2, 3] rfl)
      · have hT := hT.1 hc25
        refine lv_iconst (v := 0) hx hb dX12_doesBid_31 (by decide) ?_
        exact fx_zret X hr hk h (Or.inl rfl) hT dX12_doesBid_32
/-! MockParcelsModel.isBidFor(I)V -/
theorem dX12_isBidFor_0 : decode cX12_isBidFor 0 = .ok (.aload_n 0, 1) := by decide +kernel
theorem dX12_isBidFor_1 : decode cX12_isBidFor 1 = .ok (.iconst 0, 1) := by decide +kernel
theorem dX12_isBidFor_2 : decode cX12_isBidFor 2 = .ok (.putfield 353, 3) := by decide +kernel
theorem dX12_isBidFor_5 : decode cX12_isBidFor 5 = .ok (.aload_n 0, 1) := by decide +kernel
theorem dX12_isBidFor_6 : decode cX12_isBidFor 6 = .ok (.iconst (-1), 1) := by decide +kernel
theorem dX12_isBidFor_7 : decode cX12_isBidFor 7 = .ok (.putfield 350, 3) := by decide +kernel
theorem dX12_isBidFor_10 : decode cX12_isBidFor 10 = .ok (.aload_n 0, 1) := by decide +kernel
theorem dX12_isBidFor_11 : decode cX12_isBidFor 11 = .ok (.iconst 0, 1) := by decide +kernel
theorem dX12_isBidFor_12 : decode cX12_isBidFor 12 = .ok (.putfield 369, 3) := by decide +kernel
theorem dX12_isBidFor_15 : decode cX12_isBidFor 15 = .ok (.iconst 1, 1) := by decide +kernel
theorem dX12_isBidFor_16 : decode cX12_isBidFor 16 = .ok (.istore_n 2, 1) := by decide +kernel
theorem dX12_isBidFor_17 : decode cX12_isBidFor 17 = .ok (.iload_n 2, 1) := by decide +kernel
theorem dX12_isBidFor_18 : decode cX12_isBidFor 18 = .ok (.ifCond .eq 58, 3) := by decide +kernel
theorem dX12_isBidFor_21 : decode cX12_isBidFor 21 = .ok (.aload_n 0, 1) := by decide +kernel
theorem dX12_isBidFor_22 : decode cX12_isBidFor 22 = .ok (.getfield 369, 3) := by decide +kernel
theorem dX12_isBidFor_25 : decode cX12_isBidFor 25 = .ok (.bipush 30, 2) := by decide +kernel
theorem dX12_isBidFor_27 : decode cX12_isBidFor 27 = .ok (.if_icmp .ge 49, 3) := by decide +kernel
theorem dX12_isBidFor_30 : decode cX12_isBidFor 30 = .ok (.iconst 0, 1) := by decide +kernel
theorem dX12_isBidFor_31 : decode cX12_isBidFor 31 = .ok (.istore_n 2, 1) := by decide +kernel
theorem dX12_isBidFor_32 : decode cX12_isBidFor 32 = .ok (.iconst 0, 1) := by decide +kernel
theorem dX12_isBidFor_33 : decode cX12_isBidFor 33 = .ok (.istore_n 3, 1) := by decide +kernel
theorem dX12_isBidFor_34 : decode cX12_isBidFor 34 = .ok (.iload_n 3, 1) := by decide +kernel
theorem dX12_isBidFor_35 : decode cX12_isBidFor 35 = .ok (.aload_n 0, 1) := by decide +kernel
theorem dX12_isBidFor_36 : decode cX12_isBidFor 36 = .ok (.getfield 150, 3) := by decide +kernel
theorem dX12_isBidFor_39 : decode cX12_isBidFor 39 = .ok (.if_icmp .ge 24, 3) := by decide +kernel
theorem dX12_isBidFor_42 : decode cX12_isBidFor 42 = .ok (.aload_n 0, 1) := by decide +kernel
theorem dX12_isBidFor_43 : decode cX12_isBidFor 43 = .ok (.iload_n 1, 1) := by decide +kernel
theorem dX12_isBidFor_44 : decode cX12_isBidFor 44 = .ok (.iload_n 3, 1) := by decide +kernel
theorem dX12_isBidFor_45 : decode cX12_isBidFor 45 = .ok (.aload_n 0, 1) := by decide +kernel
theorem dX12_isBidFor_46 : decode cX12_isBidFor 46 = .ok (.getfield 369, 3) := by decide +kernel
theorem dX12_isBidFor_49 : decode cX12_isBidFor 49 = .ok (.invokevirtual 372, 3) := by decide +kernel
theorem dX12_isBidFor_52 : decode cX12_isBidFor 52 = .ok (.ifCond .eq 5, 3) := by decide +kernel
theorem dX12_isBidFor_55 : decode cX12_isBidFor 55 = .ok (.iconst 1, 1) := by decide +kernel
theorem dX12_isBidFor_56 : decode cX12_isBidFor 56 = .ok (.istore_n 2, 1) := by decide +kernel
theorem dX12_isBidFor_57 : decode cX12_isBidFor 57 = .ok (.iinc 3 1, 3) := by decide +kernel
theorem dX12_isBidFor_60 : decode cX12_isBidFor 60 = .ok (.goto (-26), 3) := by decide +kernel
theorem dX12_isBidFor_63 : decode cX12_isBidFor 63 = .ok (.aload_n 0, 1) := by decide +kernel
theorem dX12_isBidFor_64 : decode cX12_isBidFor 64 = .ok (.aload_n 0, 1) := by decide +kernel
theorem dX12_isBidFor_65 : decode cX12_isBidFor 65 = .ok (.getfield 369, 3) := by decide +kernel
theorem dX12_isBidFor_68 : decode cX12_isBidFor 68 = .ok (.iconst 1, 1) := by decide +kernel
theorem dX12_isBidFor_69 : decode cX12_isBidFor 69 = .ok (.iadd, 1) := by decide +kernel
theorem dX12_isBidFor_70 : decode cX12_isBidFor 70 = .ok (.putfield 369, 3) := by decide +kernel
theorem dX12_isBidFor_73 : decode cX12_isBidFor 73 = .ok (.goto (-56), 3) := by decide +kernel
theorem dX12_isBidFor_76 : decode cX12_isBidFor 76 = .ok (.return_, 1) := by decide +kernel
def T_X12_isBidFor_57 (B17 : Int32 → Int32 → Mm → Prop) (B34 : Int32 → Int32 → Int32 → Mm → Prop) (x1 : Int32) (x2 : Int32) (x3 : Int32) (M : Mm) (K : Mm → Prop) : Prop := (∀ y1 : Int32, y1 = x3 + (1 : Int32) → (B34 x1 x2 y1 M))
set_option maxHeartbeats 4000000 in
set_option maxRecDepth 100000 in
theorem w_X12_isBidFor_57 {p : Program} {l : Launch} {e : Env} {s : State} {m : MethodId} {args : Array Value} {below : List Frame} {meth : Method} {c : Code} {G : fx_G} {K : Mm → Prop} {B17 : Int32 → Int32 → Mm → Prop} {B34 : Int32 → Int32 → Int32 → Mm → Prop} (X : fx_C G p s m c args cX12_isBidFor 4 RX12) (hr : meth.sig.returnType = none) (hk : meth.locks = false) (hB17 : ∀ (x1 : Int32) (x2 : Int32) (M : Mm) (H : Heap) (locs : List Loc) (ls : Array Slot), B17 x1 x2 M → fx_H G SH M s H locs → lv_has ls 4 [(0, .ref (G.2.2.2 + 159)), (1, .int x1), (2, .int x2)] → W p l e (fx_rm (6)) s m args below meth c H locs 0 0 (MQ below (va_Qv K (fx_R G SH) (fx_A G)) args s 0 0 (fx_A G)) (F0 m 17 ls [])) (hB34 : ∀ (x1 : Int32) (x2 : Int32) (x3 : Int32) (M : Mm) (H : Heap) (locs : List Loc) (ls : Array Slot), B34 x1 x2 x3 M → fx_H G SH M s H locs → lv_has ls 4 [(0, .ref (G.2.2.2 + 159)), (1, .int x1), (2, .int x2), (3, .int x3)] → W p l e (fx_rm (6)) s m args below meth c H locs 0 0 (MQ below (va_Qv K (fx_R G SH) (fx_A G)) args s 0 0 (fx_A G)) (F0 m 34 ls [])) : ∀ (x1 : Int32) (x2 : Int32) (x3 : Int32) (M : Mm) (H : Heap) (locs : List Loc) (ls : Array Slot), T_X12_isBidFor_57 B17 B34 x1 x2 x3 M K → fx_H G SH M s H locs → lv_has ls 4 [(0, .ref (G.2.2.2 + 159)), (1, .int x1), (2, .int x2), (3, .int x3)] → W p l e (fx_rm (6)) s m args below meth c H locs 0 0 (MQ below (va_Qv K (fx_R G SH) (fx_A G)) args s 0 0 (fx_A G)) (F0 m 57 ls []) := by
  obtain ⟨⟨hx, hb, hml, hown, hts⟩, hK, hQ⟩ := id X
  intro x1 x2 x3 M H locs ls hT h hl
  unfold T_X12_isBidFor_57 at hT
  obtain ⟨y1, ey1⟩ : ∃ z : Int32, z = x3 + (1 : Int32) := ⟨_, rfl⟩
  have hT := hT y1 ey1
  refine lv_iinc (v := y1) (lv' := [(3, .int y1), (0, .ref (G.2.2.2 + 159)), (1, .int x1), (2, .int x2)]) hx hb dX12_isBidFor_57 hl (k := 3) rfl (by rw [ey1]; rfl) (by decide) rfl (fun ls hl => ?_)
  refine lv_goto (tgt := 34) hx hb dX12_isBidFor_60 (by decide) ?_
  exact hB34 x1 x2 y1 M _ _ ls hT h (lv_sub hl [1, 2, 3, 0] rfl)
def T_X12_isBidFor_34 (B17 : Int32 → Int32 → Mm → Prop) : Nat → Int32 → Int32 → Int32 → Mm → (Mm → Prop) → Prop
  | 0, _, _, _, _, _ => False
  | n + 1, x1, x2, x3, M, K => (((M 159 7) ≤ x3 → (∀ M3 : Mm, M3 = m_up M 159 47 ((M 159 47) + (1 : Int32)) → (B17 x1 x2 M3))) ∧ (¬ (M 159 7) ≤ x3 → (T_X12_doesBid x1 x3 (M 159 47) M (fun r6 M5 => ((r6 = 0 → (T_X12_isBidFor_57 B17 (fun x1 x2 x3 M => T_X12_isBidFor_34 B17 n x1 x2 x3 M K) x1 x2 x3 M5 K)) ∧ (¬ r6 = 0 → (T_X12_isBidFor_57 B17 (fun x1 x2 x3 M => T_X12_isBidFor_34 B17 n x1 x2 x3 M K) x1 (1 : Int32) x3 M5 K)))))))
set_option maxHeartbeats 4000000 in
set_option maxRecDepth 100000 in
theorem w_X12_isBidFor_34 {p : Program} {l : Launch} {e : Env} {s : State} {m : MethodId} {args : Array Value} {below : List Frame} {meth : Method} {c : Code} {G : fx_G} {K : Mm → Prop} {B17 : Int32 → Int32 → Mm → Prop} (X : fx_C G p s m c args cX12_isBidFor 4 RX12) (hr : meth.sig.returnType = none) (hk : meth.locks = false) (hB17 : ∀ (x1 : Int32) (x2 : Int32) (M : Mm) (H : Heap) (locs : List Loc) (ls : Array Slot), B17 x1 x2 M → fx_H G SH M s H locs → lv_has ls 4 [(0, .ref (G.2.2.2 + 159)), (1, .int x1), (2, .int x2)] → W p l e (fx_rm (6)) s m args below meth c H locs 0 0 (MQ below (va_Qv K (fx_R G SH) (fx_A G)) args s 0 0 (fx_A G)) (F0 m 17 ls [])) : ∀ (n : Nat) (x1 : Int32) (x2 : Int32) (x3 : Int32) (M : Mm) (H : Heap) (locs : List Loc) (ls : Array Slot), T_X12_isBidFor_34 B17 n x1 x2 x3 M K → fx_H G SH M s H locs → lv_has ls 4 [(0, .ref (G.2.2.2 + 159)), (1, .int x1), (2, .int x2), (3, .int x3)] → W p l e (fx_rm (6)) s m args below meth c H locs 0 0 (MQ below (va_Qv K (fx_R G SH) (fx_A G)) args s 0 0 (fx_A G)) (F0 m 34 ls []) := by
  obtain ⟨⟨hx, hb, hml, hown, hts⟩, hK, hQ⟩ := id X
  intro n
  induction n with
  | zero =>
    intro x1 x2 x3 M H locs ls hT
    exact hT.elim
  | succ n ih =>
    intro x1 x2 x3 M H locs ls hT h hl
    rw [T_X12_isBidFor_34] at hT
    refine lv_iload_n hx hb dX12_isBidFor_34 rfl (lv_at hl 3 rfl) ?_
    refine lv_aload_n hx hb dX12_isBidFor_35 rfl (lv_at hl 0 rfl) ?_
    refine fx_getI X h (k := 159) (j := 7) sh_159 rfl fl_RX12_150 dX12_isBidFor_36 ?_
    refine lv_icmp_ge (tgt := 63) hx hb dX12_isBidFor_39 (by decide) (fun hc2 => ?_) (fun hc2 => ?_)
    · have hT := hT.1 hc2
      refine lv_aload_n hx hb dX12_isBidFor_63 rfl (lv_at hl 0 rfl) ?_
      refine lv_aload_n hx hb dX12_isBidFor_64 rfl (lv_at hl 0 rfl) ?_
      refine fx_getI X h (k := 159) (j := 47) sh_159 rfl fl_RX12_369 dX12_isBidFor_65 ?_
      refine lv_iconst (v := 1) hx hb dX12_isBidFor_68 (by decide) ?_
      refine lv_iadd hx hb dX12_isBidFor_69 ?_
      refine fx_putI X h (k := 159) (j := 47) sh_159 rfl fl_RX12_369 dX12_isBidFor_70 (fun H locs h => ?_)
      obtain ⟨M3, eM3⟩ : ∃ z : Mm, z = m_up M 159 47 ((M 159 47) + (1 : Int32)) := ⟨_, rfl⟩
      have hT := hT M3 eM3
      rw [← eM3] at h
      refine lv_goto (tgt := 17) hx hb dX12_isBidFor_73 (by decide) ?_
      exact hB17 x1 x2 M3 _ _ ls hT h (lv_sub hl [0, 1, 2] rfl)
    · have hT := hT.2 hc2
      refine lv_aload_n hx hb dX12_isBidFor_42 rfl (lv_at hl 0 rfl) ?_
      refine lv_iload_n hx hb dX12_isBidFor_43 rfl (lv_at hl 1 rfl) ?_
      refine lv_iload_n hx hb dX12_isBidFor_44 rfl (lv_at hl 3 rfl) ?_
      refine lv_aload_n hx hb dX12_isBidFor_45 rfl (lv_at hl 0 rfl) ?_
      refine fx_getI X h (k := 159) (j := 47) sh_159 rfl fl_RX12_369 dX12_isBidFor_46 ?_
      refine fx_vi X h ym_X12_doesBid yi_X12_doesBid ys_X12_doesBid (fx_s8 (List.mem_of_getElem? (i := 33) rfl) rfl) sh_159 rfl (c_X12_doesBid l G hT) (As := [.int x1, .int x3, .int (M 159 47)]) (rest := []) rfl rfl ⟨Nat.le_of_ble_eq_true rfl, Nat.le_of_ble_eq_true rfl⟩ ⟨Nat.le_refl _, Nat.le_refl _⟩ hl.1 (Nat.le_of_ble_eq_true rfl) dX12_isBidFor_49 (fun r6 M5 H locs hT h => ?_)
      refine lv_if_eq (tgt := 57) hx hb dX12_isBidFor_52 (by decide) (fun hc7 => ?_) (fun hc7 => ?_)
      · have hT := hT.1 hc7
        exact w_X12_isBidFor_57 X hr hk (B17 := B17) hB17 (B34 := (fun x1 x2 x3 M => T_X12_isBidFor_34 B17 n x1 x2 x3 M K)) ih x1 x2 x3 M5 _ _ ls hT h (lv_sub hl [0, 1, 2, 3] rfl)
      · have hT := hT.2 hc7
        refine lv_iconst (v := 1) hx hb dX12_isBidFor_55 (by decide) ?_
        refine lv_istore_n (lv' := [(2, .int (1 : Int32)), (0, .ref (G.2.2.2 + 159)), (1, .int x1), (3, .int x3)]) hx hb dX12_isBidFor_56 rfl hl (by decide) rfl (fun ls hl => ?_)
        exact w_X12_isBidFor_57 X hr hk (B17 := B17) hB17 (B34 := (fun x1 x2 x3 M => T_X12_isBidFor_34 B17 n x1 x2 x3 M K)) ih x1 (1 : Int32) x3 M5 _ _ ls hT h (lv_sub hl [1, 2, 0, 3] rfl)
def T_X12_isBidFor_17 : Nat → Int32 → Int32 → Mm → (Mm → Prop) → Prop
  | 0, _, _, _, _ => False
  | n + 1, x1, x2, M, K => ((x2 = 0 → (K M)) ∧ (¬ x2 = 0 → (((30 : Int32) ≤ (M 159 47) → (K M)) ∧ (¬ (30 : Int32) ≤ (M 159 47) → (T_X12_isBidFor_34 (fun x1 x2 M => T_X12_isBidFor_17 n x1 x2 M K) 5000 x1 (0 : Int32) (0 : Int32) M K)))))
set_option maxHeartbeats 4000000 in
set_option maxRecDepth 100000 in
theorem w_X12_isBidFor_17 {p : Program} {l : Launch} {e : Env} {s : State} {m : MethodId} {args : Array Value} {below : List Frame} {meth : Method} {c : Code} {G : fx_G} {K : Mm → Prop} (X : fx_C G p s m c args cX12_isBidFor 4 RX12) (hr : meth.sig.returnType = none) (hk : meth.locks = false) : ∀ (n : Nat) (x1 : Int32) (x2 : Int32) (M : Mm) (H : Heap) (locs : List Loc) (ls : Array Slot), T_X12_isBidFor_17 n x1 x2 M K → fx_H G SH M s H locs → lv_has ls 4 [(0, .ref (G.2.2.2 + 159)), (1, .int x1), (2, .int x2)] → W p l e (fx_rm (6)) s m args below meth c H locs 0 0 (MQ below (va_Qv K (fx_R G SH) (fx_A G)) args s 0 0 (fx_A G)) (F0 m 17 ls []) := by
  obtain ⟨⟨hx, hb, hml, hown, hts⟩, hK, hQ⟩ := id X
  intro n
  induction n with
  | zero =>
    intro x1 x2 M H locs ls hT
    exact hT.elim
  | succ n ih =>
    intro x1 x2 M H locs ls hT h hl
    rw [T_X12_isBidFor_17] at hT
    refine lv_iload_n hx hb dX12_isBidFor_17 rfl (lv_at hl 2 rfl) ?_
    refine lv_if_eq (tgt := 76) hx hb dX12_isBidFor_18 (by decide) (fun hc8 => ?_) (fun hc8 => ?_)
    · have hT := hT.1 hc8
      exact fx_vret X hr hk h hT dX12_isBidFor_76
    · have hT := hT.2 hc8
      refine lv_aload_n hx hb dX12_isBidFor_21 rfl (lv_at hl 0 rfl) ?_
      refine fx_getI X h (k := 159) (j := 47) sh_159 rfl fl_RX12_369 dX12_isBidFor_22 ?_
      refine lv_bipush (v := 30) hx hb dX12_isBidFor_25 (by decide) ?_
      refine lv_icmp_ge (tgt := 76) hx hb dX12_isBidFor_27 (by decide) (fun hc9 => ?_) (fun hc9 => ?_)
      · have hT := hT.1 hc9
        exact fx_vret X hr hk h hT dX12_isBidFor_76
      · have hT := hT.2 hc9
        refine lv_iconst (v := 0) hx hb dX12_isBidFor_30 (by decide) ?_
        refine lv_istore_n (lv' := [(2, .int (0 : Int32)), (0, .ref (G.2.2.2 + 159)), (1, .int x1)]) hx hb dX12_isBidFor_31 rfl hl (by decide) rfl (fun ls hl => ?_)
        refine lv_iconst (v := 0) hx hb dX12_isBidFor_32 (by decide) ?_
        refine lv_istore_n (lv' := [(3, .int (0 : Int32)), (2, .int (0 : Int32)), (0, .ref (G.2.2.2 + 159)), (1, .int x1)]) hx hb dX12_isBidFor_33 rfl hl (by decide) rfl (fun ls hl => ?_)
        exact w_X12_isBidFor_34 X hr hk (B17 := (fun x1 x2 M => T_X12_isBidFor_17 n x1 x2 M K)) ih 5000 x1 (0 : Int32) (0 : Int32) M _ _ ls hT h (lv_sub hl [2, 3, 1, 0] rfl)
def T_X12_isBidFor (x1 : Int32) (M : Mm) (K : Mm → Prop) : Prop := (∀ M10 : Mm, M10 = m_up M 159 45 (0 : Int32) → (∀ M11 : Mm, M11 = m_up M10 159 46 (-1 : Int32) → (∀ M12 : Mm, M12 = m_up M11 159 47 (0 : Int32) → (T_X12_isBidFor_17 5000 x1 (1 : Int32) M12 K))))
set_option maxHeartbeats 4000000 in
set_option maxRecDepth 100000 in
theorem c_X12_isBidFor (l : Launch) (G : fx_G) {x1 : Int32} {M : Mm} {K : Mm → Prop} (hT : T_X12_isBidFor x1 M K) : Met l yX12_isBidFor (fx_ws yX12_isBidFor cX12_isBidFor 4 none) (fx_rm (6)) (va_Pc [.ref (G.2.2.2 + 159), .int x1] (fx_P G SH M)) (va_Qv K (fx_R G SH) (fx_A G)) 0 0 (fx_A G) := by
  refine fx_met (own := RX12) (by decide +kernel) rfl (Nat.le_of_ble_eq_true rfl) (fun p e s m below meth c X hr hk h ls hl => ?_)
  obtain ⟨⟨hx, hb, hml, hown, hts⟩, hK, hQ⟩ := id X
  have hl : lv_has ls 4 [(0, .ref (G.2.2.2 + 159)), (1, .int x1)] := hl
  unfold T_X12_isBidFor at hT
  refine lv_aload_n hx hb dX12_isBidFor_0 rfl (lv_at hl 0 rfl) ?_
  refine lv_iconst (v := 0) hx hb dX12_isBidFor_1 (by decide) ?_
  refine fx_putI X h (k := 159) (j := 45) sh_159 rfl fl_RX12_353 dX12_isBidFor_2 (fun H locs h => ?_)
  obtain ⟨M10, eM10⟩ : ∃ z : Mm, z = m_up M 159 45 (0 : Int32) := ⟨_, rfl⟩
  have hT := hT M10 eM10
  rw [← eM10] at h
  refine lv_aload_n hx hb dX12_isBidFor_5 rfl (lv_at hl 0 rfl) ?_
  refine lv_iconst (v := -1) hx hb dX12_isBidFor_6 (by decide) ?_
  refine fx_putI X h (k := 159) (j := 46) sh_159 rfl fl_RX12_350 dX12_isBidFor_7 (fun H locs h => ?_)
  obtain ⟨M11, eM11⟩ : ∃ z : Mm, z = m_up M10 159 46 (-1 : Int32) := ⟨_, rfl⟩
  have hT := hT M11 eM11
  rw [← eM11] at h
  refine lv_aload_n hx hb dX12_isBidFor_10 rfl (lv_at hl 0 rfl) ?_
  refine lv_iconst (v := 0) hx hb dX12_isBidFor_11 (by decide) ?_
  refine fx_putI X h (k := 159) (j := 47) sh_159 rfl fl_RX12_369 dX12_isBidFor_12 (fun H locs h => ?_)
  obtain ⟨M12, eM12⟩ : ∃ z : Mm, z = m_up M11 159 47 (0 : Int32) := ⟨_, rfl⟩
  have hT := hT M12 eM12
  rw [← eM12] at h
  refine lv_iconst (v := 1) hx hb dX12_isBidFor_15 (by decide) ?_
  refine lv_istore_n (lv' := [(2, .int (1 : Int32)), (0, .ref (G.2.2.2 + 159)), (1, .int x1)]) hx hb dX12_isBidFor_16 rfl hl (by decide) rfl (fun ls hl => ?_)
  exact w_X12_isBidFor_17 X hr hk 5000 x1 (1 : Int32) M12 _ _ ls hT h (lv_sub hl [1, 2, 0] rfl)
/-! MockParcelsModel.openedBy(I)I -/
theorem dX12_openedBy_0 : decode cX12_openedBy 0 = .ok (.aload_n 0, 1) := by decide +kernel
theorem dX12_openedBy_1 : decode cX12_openedBy 1 = .ok (.iload_n 1, 1) := by decide +kernel
theorem dX12_openedBy_2 : decode cX12_openedBy 2 = .ok (.aload_n 0, 1) := by decide +kernel
theorem dX12_openedBy_3 : decode cX12_openedBy 3 = .ok (.getfield 350, 3) := by decide +kernel
theorem dX12_openedBy_6 : decode cX12_openedBy 6 = .ok (.aload_n 0, 1) := by decide +kernel
theorem dX12_openedBy_7 : decode cX12_openedBy 7 = .ok (.getfield 353, 3) := by decide +kernel
theorem dX12_openedBy_10 : decode cX12_openedBy 10 = .ok (.aload_n 0, 1) := by decide +kernel
theorem dX12_openedBy_11 : decode cX12_openedBy 11 = .ok (.getfield 369, 3) := by decide +kernel
theorem dX12_openedBy_14 : decode cX12_openedBy 14 = .ok (.invokevirtual 375, 3) := by decide +kernel
theorem dX12_openedBy_17 : decode cX12_openedBy 17 = .ok (.istore_n 2, 1) := by decide +kernel
theorem dX12_openedBy_18 : decode cX12_openedBy 18 = .ok (.aload_n 0, 1) := by decide +kernel
theorem dX12_openedBy_19 : decode cX12_openedBy 19 = .ok (.getfield 141, 3) := by decide +kernel
theorem dX12_openedBy_22 : decode cX12_openedBy 22 = .ok (.ifCond .eq 18, 3) := by decide +kernel
theorem dX12_openedBy_25 : decode cX12_openedBy 25 = .ok (.iconst 2, 1) := by decide +kernel
theorem dX12_openedBy_26 : decode cX12_openedBy 26 = .ok (.iload_n 2, 1) := by decide +kernel
theorem dX12_openedBy_27 : decode cX12_openedBy 27 = .ok (.imul, 1) := by decide +kernel
theorem dX12_openedBy_28 : decode cX12_openedBy 28 = .ok (.sipush 1000, 3) := by decide +kernel
theorem dX12_openedBy_31 : decode cX12_openedBy 31 = .ok (.if_icmp .lt 7, 3) := by decide +kernel
theorem dX12_openedBy_34 : decode cX12_openedBy 34 = .ok (.iconst 1, 1) := by decide +kernel
theorem dX12_openedBy_35 : decode cX12_openedBy 35 = .ok (.goto 4, 3) := by decide +kernel
theorem dX12_openedBy_38 : decode cX12_openedBy 38 = .ok (.iconst 0, 1) := by decide +kernel
theorem dX12_openedBy_39 : decode cX12_openedBy 39 = .ok (.ireturn, 1) := by decide +kernel
theorem dX12_openedBy_40 : decode cX12_openedBy 40 = .ok (.aload_n 0, 1) := by decide +kernel
theorem dX12_openedBy_41 : decode cX12_openedBy 41 = .ok (.sipush 1000, 3) := by decide +kernel
theorem dX12_openedBy_44 : decode cX12_openedBy 44 = .ok (.invokevirtual 359, 3) := by decide +kernel
theorem dX12_openedBy_47 : decode cX12_openedBy 47 = .ok (.iload_n 2, 1) := by decide +kernel
theorem dX12_openedBy_48 : decode cX12_openedBy 48 = .ok (.if_icmp .ge 14, 3) := by decide +kernel
theorem dX12_openedBy_51 : decode cX12_openedBy 51 = .ok (.aload_n 0, 1) := by decide +kernel
theorem dX12_openedBy_52 : decode cX12_openedBy 52 = .ok (.bipush 7, 2) := by decide +kernel
theorem dX12_openedBy_54 : decode cX12_openedBy 54 = .ok (.invokevirtual 359, 3) := by decide +kernel
theorem dX12_openedBy_57 : decode cX12_openedBy 57 = .ok (.iconst 1, 1) := by decide +kernel
theorem dX12_openedBy_58 : decode cX12_openedBy 58 = .ok (.iadd, 1) := by decide +kernel
theorem dX12_openedBy_59 : decode cX12_openedBy 59 = .ok (.goto 4, 3) := by decide +kernel
theorem dX12_openedBy_62 : decode cX12_openedBy 62 = .ok (.iconst 0, 1) := by decide +kernel
theorem dX12_openedBy_63 : decode cX12_openedBy 63 = .ok (.ireturn, 1) := by decide +kernel
def T_X12_openedBy (x1 : Int32) (M : Mm) (K : Int32 → Mm → Prop) : Prop := (T_X12_fullOf x1 (M 159 46) (M 159 45) (M 159 47) M (fun r3 M2 => (((M2 159 5) = 0 → (T_X12_draw (1000 : Int32) M2 (fun r7 M6 => ((r3 ≤ r7 → (K (0 : Int32) M6)) ∧ (¬ r3 ≤ r7 → (T_X12_draw (7 : Int32) M6 (fun r11 M10 => (K (r11 + (1 : Int32)) M10)))))))) ∧ (¬ (M2 159 5) = 0 → ((((2 : Int32) * r3) < (1000 : Int32) → (K (0 : Int32) M2)) ∧ (¬ ((2 : Int32) * r3) < (1000 : Int32) → (K (1 : Int32) M2)))))))
set_option maxHeartbeats 4000000 in
set_option maxRecDepth 100000 in
theorem c_X12_openedBy (l : Launch) (G : fx_G) {x1 : Int32} {M : Mm} {K : Int32 → Mm → Prop} (hT : T_X12_openedBy x1 M K) : Met l yX12_openedBy (fx_ws yX12_openedBy cX12_openedBy 3 (some .int)) (fx_rm (5)) (va_Pc [.ref (G.2.2.2 + 159), .int x1] (fx_P G SH M)) (va_Qi K (fx_R G SH) (fx_A G)) 0 0 (fx_A G) := by
  refine fx_met (own := RX12) (by decide +kernel) rfl (Nat.le_of_ble_eq_true rfl) (fun p e s m below meth c X hr hk h ls hl => ?_)
  obtain ⟨⟨hx, hb, hml, hown, hts⟩, hK, hQ⟩ := id X
  have hl : lv_has ls 3 [(0, .ref (G.2.2.2 + 159)), (1, .int x1)] := hl
  unfold T_X12_openedBy at hT
  refine lv_aload_n hx hb dX12_openedBy_0 rfl (lv_at hl 0 rfl) ?_
  refine lv_iload_n hx hb dX12_openedBy_1 rfl (lv_at hl 1 rfl) ?_
  refine lv_aload_n hx hb dX12_openedBy_2 rfl (lv_at hl 0 rfl) ?_
  refine fx_getI X h (k := 159) (j := 46) sh_159 rfl fl_RX12_350 dX12_openedBy_3 ?_
  refine lv_aload_n hx hb dX12_openedBy_6 rfl (lv_at hl 0 rfl) ?_
  refine fx_getI X h (k := 159) (j := 45) sh_159 rfl fl_RX12_353 dX12_openedBy_7 ?_
  refine lv_aload_n hx hb dX12_openedBy_10 rfl (lv_at hl 0 rfl) ?_
  refine fx_getI X h (k := 159) (j := 47) sh_159 rfl fl_RX12_369 dX12_openedBy_11 ?_
  refine fx_vi X h ym_X12_fullOf yi_X12_fullOf ys_X12_fullOf (fx_s8 (List.mem_of_getElem? (i := 91) rfl) rfl) sh_159 rfl (c_X12_fullOf l G hT) (As := [.int x1, .int (M 159 46), .int (M 159 45), .int (M 159 47)]) (rest := []) rfl rfl ⟨Nat.le_of_ble_eq_true rfl, Nat.le_of_ble_eq_true rfl⟩ ⟨Nat.le_refl _, Nat.le_refl _⟩ hl.1 (Nat.le_of_ble_eq_true rfl) dX12_openedBy_14 (fun r3 M2 H locs hT h => ?_)
  refine lv_istore_n (lv' := [(2, .int r3), (0, .ref (G.2.2.2 + 159)), (1, .int x1)]) hx hb dX12_openedBy_17 rfl hl (by decide) rfl (fun ls hl => ?_)
  refine lv_aload_n hx hb dX12_openedBy_18 rfl (lv_at hl 1 rfl) ?_
  refine fx_getI X h (k := 159) (j := 5) sh_159 rfl fl_RX12_141 dX12_openedBy_19 ?_
  refine lv_if_eq (tgt := 40) hx hb dX12_openedBy_22 (by decide) (fun hc4 => ?_) (fun hc4 => ?_)
  · have hT := hT.1 hc4
    refine lv_aload_n hx hb dX12_openedBy_40 rfl (lv_at hl 1 rfl) ?_
    refine lv_sipush (v := 1000) hx hb dX12_openedBy_41 (by decide) ?_
    refine fx_vi X h ym_X12_draw yi_X12_draw ys_X12_draw (fx_s8 (List.mem_of_getElem? (i := 73) rfl) rfl) sh_159 rfl (c_X12_draw l G hT) (As := [.int (1000 : Int32)]) (rest := []) rfl rfl ⟨Nat.le_of_ble_eq_true rfl, Nat.le_of_ble_eq_true rfl⟩ ⟨Nat.le_refl _, Nat.le_refl _⟩ hl.1 (Nat.le_of_ble_eq_true rfl) dX12_openedBy_44 (fun r7 M6 H locs hT h => ?_)
    refine lv_iload_n hx hb dX12_openedBy_47 rfl (lv_at hl 0 rfl) ?_
    refine lv_icmp_ge (tgt := 62) hx hb dX12_openedBy_48 (by decide) (fun hc8 => ?_) (fun hc8 => ?_)
    · have hT := hT.1 hc8
      refine lv_iconst (v := 0) hx hb dX12_openedBy_62 (by decide) ?_
      exact fx_iret X hr hk h hT dX12_openedBy_63
    · have hT := hT.2 hc8
      refine lv_aload_n hx hb dX12_openedBy_51 rfl (lv_at hl 1 rfl) ?_
      refine lv_bipush (v := 7) hx hb dX12_openedBy_52 (by decide) ?_
      refine fx_vi X h ym_X12_draw yi_X12_draw ys_X12_draw (fx_s8 (List.mem_of_getElem? (i := 73) rfl) rfl) sh_159 rfl (c_X12_draw l G hT) (As := [.int (7 : Int32)]) (rest := []) rfl rfl ⟨Nat.le_of_ble_eq_true rfl, Nat.le_of_ble_eq_true rfl⟩ ⟨Nat.le_refl _, Nat.le_refl _⟩ hl.1 (Nat.le_of_ble_eq_true rfl) dX12_openedBy_54 (fun r11 M10 H locs hT h => ?_)
      refine lv_iconst (v := 1) hx hb dX12_openedBy_57 (by decide) ?_
      refine lv_iadd hx hb dX12_openedBy_58 ?_
      refine lv_goto (tgt := 63) hx hb dX12_openedBy_59 (by decide) ?_
      exact fx_iret X hr hk h hT dX12_openedBy_63
  · have hT := hT.2 hc4
    refine lv_iconst (v := 2) hx hb dX12_openedBy_25 (by decide) ?_
    refine lv_iload_n hx hb dX12_openedBy_26 rfl (lv_at hl 0 rfl) ?_
    refine lv_imul hx hb dX12_openedBy_27 ?_
    refine lv_sipush (v := 1000) hx hb dX12_openedBy_28 (by decide) ?_
    refine lv_icmp_lt (tgt := 38) hx hb dX12_openedBy_31 (by decide) (fun hc12 => ?_) (fun hc12 => ?_)
    · have hT := hT.1 hc12
      refine lv_iconst (v := 0) hx hb dX12_openedBy_38 (by decide) ?_
      exact fx_iret X hr hk h hT dX12_openedBy_39
    · have hT := hT.2 hc12
      refine lv_iconst (v := 1) hx hb dX12_openedBy_34 (by decide) ?_
      refine lv_goto (tgt := 39) hx hb dX12_openedBy_35 (by decide) ?_
      exact fx_iret X hr hk h hT dX12_openedBy_39
/-! MockParcelsModel.sells(I)I -/
theorem dX12_sells_0 : decode cX12_sells 0 = .ok (.aload_n 0, 1) := by decide +kernel
theorem dX12_sells_1 : decode cX12_sells 1 = .ok (.iload_n 1, 1) := by decide +kernel
theorem dX12_sells_2 : decode cX12_sells 2 = .ok (.invokevirtual 378, 3) := by decide +kernel
theorem dX12_sells_5 : decode cX12_sells 5 = .ok (.aload_n 0, 1) := by decide +kernel
theorem dX12_sells_6 : decode cX12_sells 6 = .ok (.getfield 350, 3) := by decide +kernel
theorem dX12_sells_9 : decode cX12_sells 9 = .ok (.iconst (-1), 1) := by decide +kernel
theorem dX12_sells_10 : decode cX12_sells 10 = .ok (.if_icmp .ne 27, 3) := by decide +kernel
theorem dX12_sells_13 : decode cX12_sells 13 = .ok (.aload_n 0, 1) := by decide +kernel
theorem dX12_sells_14 : decode cX12_sells 14 = .ok (.getfield 7, 3) := by decide +kernel
theorem dX12_sells_17 : decode cX12_sells 17 = .ok (.iconst 4, 1) := by decide +kernel
theorem dX12_sells_18 : decode cX12_sells 18 = .ok (.aload_n 0, 1) := by decide +kernel
theorem dX12_sells_19 : decode cX12_sells 19 = .ok (.getfield 7, 3) := by decide +kernel
theorem dX12_sells_22 : decode cX12_sells 22 = .ok (.iconst 4, 1) := by decide +kernel
theorem dX12_sells_23 : decode cX12_sells 23 = .ok (.iaload, 1) := by decide +kernel
theorem dX12_sells_24 : decode cX12_sells 24 = .ok (.aload_n 0, 1) := by decide +kernel
theorem dX12_sells_25 : decode cX12_sells 25 = .ok (.getfield 7, 3) := by decide +kernel
theorem dX12_sells_28 : decode cX12_sells 28 = .ok (.iconst 4, 1) := by decide +kernel
theorem dX12_sells_29 : decode cX12_sells 29 = .ok (.iaload, 1) := by decide +kernel
theorem dX12_sells_30 : decode cX12_sells 30 = .ok (.bipush 10, 2) := by decide +kernel
theorem dX12_sells_32 : decode cX12_sells 32 = .ok (.idiv, 1) := by decide +kernel
theorem dX12_sells_33 : decode cX12_sells 33 = .ok (.isub, 1) := by decide +kernel
theorem dX12_sells_34 : decode cX12_sells 34 = .ok (.iastore, 1) := by decide +kernel
theorem dX12_sells_35 : decode cX12_sells 35 = .ok (.iconst 0, 1) := by decide +kernel
theorem dX12_sells_36 : decode cX12_sells 36 = .ok (.ireturn, 1) := by decide +kernel
theorem dX12_sells_37 : decode cX12_sells 37 = .ok (.aload_n 0, 1) := by decide +kernel
theorem dX12_sells_38 : decode cX12_sells 38 = .ok (.getfield 31, 3) := by decide +kernel
theorem dX12_sells_41 : decode cX12_sells 41 = .ok (.aload_n 0, 1) := by decide +kernel
theorem dX12_sells_42 : decode cX12_sells 42 = .ok (.getfield 350, 3) := by decide +kernel
theorem dX12_sells_45 : decode cX12_sells 45 = .ok (.iaload, 1) := by decide +kernel
theorem dX12_sells_46 : decode cX12_sells 46 = .ok (.iconst 1, 1) := by decide +kernel
theorem dX12_sells_47 : decode cX12_sells 47 = .ok (.if_icmp .ne 7, 3) := by decide +kernel
theorem dX12_sells_50 : decode cX12_sells 50 = .ok (.iconst 0, 1) := by decide +kernel
theorem dX12_sells_51 : decode cX12_sells 51 = .ok (.goto 7, 3) := by decide +kernel
theorem dX12_sells_54 : decode cX12_sells 54 = .ok (.aload_n 0, 1) := by decide +kernel
theorem dX12_sells_55 : decode cX12_sells 55 = .ok (.getfield 353, 3) := by decide +kernel
theorem dX12_sells_58 : decode cX12_sells 58 = .ok (.istore_n 2, 1) := by decide +kernel
theorem dX12_sells_59 : decode cX12_sells 59 = .ok (.aload_n 0, 1) := by decide +kernel
theorem dX12_sells_60 : decode cX12_sells 60 = .ok (.getfield 7, 3) := by decide +kernel
theorem dX12_sells_63 : decode cX12_sells 63 = .ok (.bipush 55, 2) := by decide +kernel
theorem dX12_sells_65 : decode cX12_sells 65 = .ok (.aload_n 0, 1) := by decide +kernel
theorem dX12_sells_66 : decode cX12_sells 66 = .ok (.getfield 350, 3) := by decide +kernel
theorem dX12_sells_69 : decode cX12_sells 69 = .ok (.iadd, 1) := by decide +kernel
theorem dX12_sells_70 : decode cX12_sells 70 = .ok (.aload_n 0, 1) := by decide +kernel
theorem dX12_sells_71 : decode cX12_sells 71 = .ok (.getfield 7, 3) := by decide +kernel
theorem dX12_sells_74 : decode cX12_sells 74 = .ok (.bipush 55, 2) := by decide +kernel
theorem dX12_sells_76 : decode cX12_sells 76 = .ok (.aload_n 0, 1) := by decide +kernel
theorem dX12_sells_77 : decode cX12_sells 77 = .ok (.getfield 350, 3) := by decide +kernel
theorem dX12_sells_80 : decode cX12_sells 80 = .ok (.iadd, 1) := by decide +kernel
theorem dX12_sells_81 : decode cX12_sells 81 = .ok (.iaload, 1) := by decide +kernel
theorem dX12_sells_82 : decode cX12_sells 82 = .ok (.iload_n 2, 1) := by decide +kernel
theorem dX12_sells_83 : decode cX12_sells 83 = .ok (.isub, 1) := by decide +kernel
theorem dX12_sells_84 : decode cX12_sells 84 = .ok (.iastore, 1) := by decide +kernel
theorem dX12_sells_85 : decode cX12_sells 85 = .ok (.aload_n 0, 1) := by decide +kernel
theorem dX12_sells_86 : decode cX12_sells 86 = .ok (.getfield 7, 3) := by decide +kernel
theorem dX12_sells_89 : decode cX12_sells 89 = .ok (.iconst 3, 1) := by decide +kernel
theorem dX12_sells_90 : decode cX12_sells 90 = .ok (.aload_n 0, 1) := by decide +kernel
theorem dX12_sells_91 : decode cX12_sells 91 = .ok (.getfield 7, 3) := by decide +kernel
theorem dX12_sells_94 : decode cX12_sells 94 = .ok (.iconst 3, 1) := by decide +kernel
theorem dX12_sells_95 : decode cX12_sells 95 = .ok (.iaload, 1) := by decide +kernel
theorem dX12_sells_96 : decode cX12_sells 96 = .ok (.iload_n 2, 1) := by decide +kernel
theorem dX12_sells_97 : decode cX12_sells 97 = .ok (.iadd, 1) := by decide +kernel
theorem dX12_sells_98 : decode cX12_sells 98 = .ok (.iastore, 1) := by decide +kernel
theorem dX12_sells_99 : decode cX12_sells 99 = .ok (.aload_n 0, 1) := by decide +kernel
theorem dX12_sells_100 : decode cX12_sells 100 = .ok (.getfield 7, 3) := by decide +kernel
theorem dX12_sells_103 : decode cX12_sells 103 = .ok (.bipush 7, 2) := by decide +kernel
theorem dX12_sells_105 : decode cX12_sells 105 = .ok (.iload_n 1, 1) := by decide +kernel
theorem dX12_sells_106 : decode cX12_sells 106 = .ok (.iadd, 1) := by decide +kernel
theorem dX12_sells_107 : decode cX12_sells 107 = .ok (.aload_n 0, 1) := by decide +kernel
theorem dX12_sells_108 : decode cX12_sells 108 = .ok (.getfield 350, 3) := by decide +kernel
theorem dX12_sells_111 : decode cX12_sells 111 = .ok (.iconst 1, 1) := by decide +kernel
theorem dX12_sells_112 : decode cX12_sells 112 = .ok (.iadd, 1) := by decide +kernel
theorem dX12_sells_113 : decode cX12_sells 113 = .ok (.iastore, 1) := by decide +kernel
theorem dX12_sells_114 : decode cX12_sells 114 = .ok (.aload_n 0, 1) := by decide +kernel
theorem dX12_sells_115 : decode cX12_sells 115 = .ok (.iconst 1, 1) := by decide +kernel
theorem dX12_sells_116 : decode cX12_sells 116 = .ok (.aload_n 0, 1) := by decide +kernel
theorem dX12_sells_117 : decode cX12_sells 117 = .ok (.getfield 350, 3) := by decide +kernel
theorem dX12_sells_120 : decode cX12_sells 120 = .ok (.iload_n 2, 1) := by decide +kernel
theorem dX12_sells_121 : decode cX12_sells 121 = .ok (.invokevirtual 365, 3) := by decide +kernel
theorem dX12_sells_124 : decode cX12_sells 124 = .ok (.aload_n 0, 1) := by decide +kernel
theorem dX12_sells_125 : decode cX12_sells 125 = .ok (.iload_n 1, 1) := by decide +kernel
theorem dX12_sells_126 : decode cX12_sells 126 = .ok (.invokevirtual 381, 3) := by decide +kernel
theorem dX12_sells_129 : decode cX12_sells 129 = .ok (.istore_n 3, 1) := by decide +kernel
theorem dX12_sells_130 : decode cX12_sells 130 = .ok (.aload_n 0, 1) := by decide +kernel
theorem dX12_sells_131 : decode cX12_sells 131 = .ok (.getfield 7, 3) := by decide +kernel
theorem dX12_sells_134 : decode cX12_sells 134 = .ok (.bipush 23, 2) := by decide +kernel
theorem dX12_sells_136 : decode cX12_sells 136 = .ok (.iload_n 1, 1) := by decide +kernel
theorem dX12_sells_137 : decode cX12_sells 137 = .ok (.iadd, 1) := by decide +kernel
theorem dX12_sells_138 : decode cX12_sells 138 = .ok (.iload_n 3, 1) := by decide +kernel
theorem dX12_sells_139 : decode cX12_sells 139 = .ok (.iconst 1, 1) := by decide +kernel
theorem dX12_sells_140 : decode cX12_sells 140 = .ok (.iadd, 1) := by decide +kernel
theorem dX12_sells_141 : decode cX12_sells 141 = .ok (.iastore, 1) := by decide +kernel
theorem dX12_sells_142 : decode cX12_sells 142 = .ok (.aload_n 0, 1) := by decide +kernel
theorem dX12_sells_143 : decode cX12_sells 143 = .ok (.iconst 2, 1) := by decide +kernel
theorem dX12_sells_144 : decode cX12_sells 144 = .ok (.aload_n 0, 1) := by decide +kernel
theorem dX12_sells_145 : decode cX12_sells 145 = .ok (.getfield 350, 3) := by decide +kernel
theorem dX12_sells_148 : decode cX12_sells 148 = .ok (.iload_n 3, 1) := by decide +kernel
theorem dX12_sells_149 : decode cX12_sells 149 = .ok (.invokevirtual 365, 3) := by decide +kernel
theorem dX12_sells_152 : decode cX12_sells 152 = .ok (.iload_n 3, 1) := by decide +kernel
theorem dX12_sells_153 : decode cX12_sells 153 = .ok (.ifCond .le 13, 3) := by decide +kernel
theorem dX12_sells_156 : decode cX12_sells 156 = .ok (.aload_n 0, 1) := by decide +kernel
theorem dX12_sells_157 : decode cX12_sells 157 = .ok (.aload_n 0, 1) := by decide +kernel
theorem dX12_sells_158 : decode cX12_sells 158 = .ok (.getfield 350, 3) := by decide +kernel
theorem dX12_sells_161 : decode cX12_sells 161 = .ok (.iload_n 3, 1) := by decide +kernel
theorem dX12_sells_162 : decode cX12_sells 162 = .ok (.iconst 1, 1) := by decide +kernel
theorem dX12_sells_163 : decode cX12_sells 163 = .ok (.invokevirtual 384, 3) := by decide +kernel
theorem dX12_sells_166 : decode cX12_sells 166 = .ok (.aload_n 0, 1) := by decide +kernel
theorem dX12_sells_167 : decode cX12_sells 167 = .ok (.getfield 7, 3) := by decide +kernel
theorem dX12_sells_170 : decode cX12_sells 170 = .ok (.bipush 63, 2) := by decide +kernel
theorem dX12_sells_172 : decode cX12_sells 172 = .ok (.aload_n 0, 1) := by decide +kernel
theorem dX12_sells_173 : decode cX12_sells 173 = .ok (.getfield 350, 3) := by decide +kernel
theorem dX12_sells_176 : decode cX12_sells 176 = .ok (.iadd, 1) := by decide +kernel
theorem dX12_sells_177 : decode cX12_sells 177 = .ok (.aload_n 0, 1) := by decide +kernel
theorem dX12_sells_178 : decode cX12_sells 178 = .ok (.getfield 7, 3) := by decide +kernel
theorem dX12_sells_181 : decode cX12_sells 181 = .ok (.bipush 63, 2) := by decide +kernel
theorem dX12_sells_183 : decode cX12_sells 183 = .ok (.aload_n 0, 1) := by decide +kernel
theorem dX12_sells_184 : decode cX12_sells 184 = .ok (.getfield 350, 3) := by decide +kernel
theorem dX12_sells_187 : decode cX12_sells 187 = .ok (.iadd, 1) := by decide +kernel
theorem dX12_sells_188 : decode cX12_sells 188 = .ok (.iaload, 1) := by decide +kernel
theorem dX12_sells_189 : decode cX12_sells 189 = .ok (.aload_n 0, 1) := by decide +kernel
theorem dX12_sells_190 : decode cX12_sells 190 = .ok (.getfield 7, 3) := by decide +kernel
theorem dX12_sells_193 : decode cX12_sells 193 = .ok (.bipush 39, 2) := by decide +kernel
theorem dX12_sells_195 : decode cX12_sells 195 = .ok (.iload_n 1, 1) := by decide +kernel
theorem dX12_sells_196 : decode cX12_sells 196 = .ok (.iadd, 1) := by decide +kernel
theorem dX12_sells_197 : decode cX12_sells 197 = .ok (.iaload, 1) := by decide +kernel
theorem dX12_sells_198 : decode cX12_sells 198 = .ok (.iadd, 1) := by decide +kernel
theorem dX12_sells_199 : decode cX12_sells 199 = .ok (.iastore, 1) := by decide +kernel
theorem dX12_sells_200 : decode cX12_sells 200 = .ok (.aload_n 0, 1) := by decide +kernel
theorem dX12_sells_201 : decode cX12_sells 201 = .ok (.getfield 7, 3) := by decide +kernel
theorem dX12_sells_204 : decode cX12_sells 204 = .ok (.iconst 4, 1) := by decide +kernel
theorem dX12_sells_205 : decode cX12_sells 205 = .ok (.aload_n 0, 1) := by decide +kernel
theorem dX12_sells_206 : decode cX12_sells 206 = .ok (.aload_n 0, 1) := by decide +kernel
theorem dX12_sells_207 : decode cX12_sells 207 = .ok (.getfield 7, 3) := by decide +kernel
theorem dX12_sells_210 : decode cX12_sells 210 = .ok (.iconst 4, 1) := by decide +kernel
theorem dX12_sells_211 : decode cX12_sells 211 = .ok (.iaload, 1) := by decide +kernel
theorem dX12_sells_212 : decode cX12_sells 212 = .ok (.iload_n 3, 1) := by decide +kernel
theorem dX12_sells_213 : decode cX12_sells 213 = .ok (.ifCond .le 12, 3) := by decide +kernel
theorem dX12_sells_216 : decode cX12_sells 216 = .ok (.iconst 2, 1) := by decide +kernel
theorem dX12_sells_217 : decode cX12_sells 217 = .ok (.aload_n 0, 1) := by decide +kernel
theorem dX12_sells_218 : decode cX12_sells 218 = .ok (.getfield 369, 3) := by decide +kernel
theorem dX12_sells_221 : decode cX12_sells 221 = .ok (.imul, 1) := by decide +kernel
theorem dX12_sells_222 : decode cX12_sells 222 = .ok (.goto 5, 3) := by decide +kernel
theorem dX12_sells_225 : decode cX12_sells 225 = .ok (.bipush (-3), 2) := by decide +kernel
theorem dX12_sells_227 : decode cX12_sells 227 = .ok (.iadd, 1) := by decide +kernel
theorem dX12_sells_228 : decode cX12_sells 228 = .ok (.iconst 0, 1) := by decide +kernel
theorem dX12_sells_229 : decode cX12_sells 229 = .ok (.bipush 99, 2) := by decide +kernel
theorem dX12_sells_231 : decode cX12_sells 231 = .ok (.invokevirtual 339, 3) := by decide +kernel
theorem dX12_sells_234 : decode cX12_sells 234 = .ok (.iastore, 1) := by decide +kernel
theorem dX12_sells_235 : decode cX12_sells 235 = .ok (.aload_n 0, 1) := by decide +kernel
theorem dX12_sells_236 : decode cX12_sells 236 = .ok (.getfield 353, 3) := by decide +kernel
theorem dX12_sells_239 : decode cX12_sells 239 = .ok (.ireturn, 1) := by decide +kernel
def T_X12_sells_227 (s1 : Int32) (s3 : Int32) (s4 : Int32) (M : Mm) (K : Int32 → Mm → Prop) : Prop := (T_X12_held (s3 + s4) (0 : Int32) (99 : Int32) M (fun r3 M2 => (vp_in s1 135 ∧ (∀ M4 : Mm, M4 = m_up M2 160 (s1).toNatClampNeg r3 → (K (M4 159 45) M4)))))
set_option maxHeartbeats 4000000 in
set_option maxRecDepth 100000 in
theorem w_X12_sells_227 {p : Program} {l : Launch} {e : Env} {s : State} {m : MethodId} {args : Array Value} {below : List Frame} {meth : Method} {c : Code} {G : fx_G} {K : Int32 → Mm → Prop} (X : fx_C G p s m c args cX12_sells 4 RX12) (hr : meth.sig.returnType = (some .int)) (hk : meth.locks = false) : ∀ (s1 : Int32) (s3 : Int32) (s4 : Int32) (M : Mm) (H : Heap) (locs : List Loc) (ls : Array Slot), T_X12_sells_227 s1 s3 s4 M K → fx_H G SH M s H locs → lv_has ls 4 [(0, .ref (G.2.2.2 + 159))] → W p l e (fx_rm (7)) s m args below meth c H locs 0 0 (MQ below (va_Qi K (fx_R G SH) (fx_A G)) args s 0 0 (fx_A G)) (F0 m 227 ls [.int s4, .int s3, .ref (G.2.2.2 + 159), .int s1, .ref (G.2.2.2 + 160)]) := by
  obtain ⟨⟨hx, hb, hml, hown, hts⟩, hK, hQ⟩ := id X
  intro s1 s3 s4 M H locs ls hT h hl
  unfold T_X12_sells_227 at hT
  refine lv_iadd hx hb dX12_sells_227 ?_
  refine lv_iconst (v := 0) hx hb dX12_sells_228 (by decide) ?_
  refine lv_bipush (v := 99) hx hb dX12_sells_229 (by decide) ?_
  refine fx_vi X h ym_X12_held yi_X12_held ys_X12_held (fx_s8 (List.mem_of_getElem? (i := 69) rfl) rfl) sh_159 rfl (c_X12_held l G hT) (As := [.int (s3 + s4), .int (0 : Int32), .int (99 : Int32)]) (rest := [.int s1, .ref (G.2.2.2 + 160)]) rfl rfl ⟨Nat.le_of_ble_eq_true rfl, Nat.le_of_ble_eq_true rfl⟩ ⟨Nat.le_refl _, Nat.le_refl _⟩ hl.1 (Nat.le_of_ble_eq_true rfl) dX12_sells_231 (fun r3 M2 H locs hT h => ?_)
  obtain ⟨hi5, hT⟩ := hT
  refine fx_iast X h (k := 160) sh_160 hi5 dX12_sells_234 (fun H locs h => ?_)
  obtain ⟨M4, eM4⟩ : ∃ z : Mm, z = m_up M2 160 (s1).toNatClampNeg r3 := ⟨_, rfl⟩
  have hT := hT M4 eM4
  rw [← eM4] at h
  refine lv_aload_n hx hb dX12_sells_235 rfl (lv_at hl 0 rfl) ?_
  refine fx_getI X h (k := 159) (j := 45) sh_159 rfl fl_RX12_353 dX12_sells_236 ?_
  exact fx_iret X hr hk h hT dX12_sells_239
def T_X12_sells_166 (x1 : Int32) (x3 : Int32) (M : Mm) (K : Int32 → Mm → Prop) : Prop := (vp_in ((63 : Int32) + (M 159 46)) 135 ∧ (vp_in ((39 : Int32) + x1) 135 ∧ (vp_in ((63 : Int32) + (M 159 46)) 135 ∧ (∀ M8 : Mm, M8 = m_up M 160 (((63 : Int32) + (M 159 46))).toNatClampNeg ((M 160 (((63 : Int32) + (M 159 46))).toNatClampNeg) + (M 160 (((39 : Int32) + x1)).toNatClampNeg)) → ((x3 ≤ 0 → (T_X12_sells_227 (4 : Int32) (M8 160 4) (-3 : Int32) M8 K)) ∧ (¬ x3 ≤ 0 → (T_X12_sells_227 (4 : Int32) (M8 160 4) ((2 : Int32) * (M8 159 47)) M8 K)))))))
set_option maxHeartbeats 4000000 in
set_option maxRecDepth 100000 in
theorem w_X12_sells_166 {p : Program} {l : Launch} {e : Env} {s : State} {m : MethodId} {args : Array Value} {below : List Frame} {meth : Method} {c : Code} {G : fx_G} {K : Int32 → Mm → Prop} (X : fx_C G p s m c args cX12_sells 4 RX12) (hr : meth.sig.returnType = (some .int)) (hk : meth.locks = false) : ∀ (x1 : Int32) (x3 : Int32) (M : Mm) (H : Heap) (locs : List Loc) (ls : Array Slot), T_X12_sells_166 x1 x3 M K → fx_H G SH M s H locs → lv_has ls 4 [(0, .ref (G.2.2.2 + 159)), (1, .int x1), (3, .int x3)] → W p l e (fx_rm (7)) s m args below meth c H locs 0 0 (MQ below (va_Qi K (fx_R G SH) (fx_A G)) args s 0 0 (fx_A G)) (F0 m 166 ls []) := by
  obtain ⟨⟨hx, hb, hml, hown, hts⟩, hK, hQ⟩ := id X
  intro x1 x3 M H locs ls hT h hl
  unfold T_X12_sells_166 at hT
  refine lv_aload_n hx hb dX12_sells_166 rfl (lv_at hl 0 rfl) ?_
  refine fx_getR X h (k := 159) (j := 1) (r := 160) sh_159 rfl fl_RX12_7 dX12_sells_167 ?_
  refine lv_bipush (v := 63) hx hb dX12_sells_170 (by decide) ?_
  refine lv_aload_n hx hb dX12_sells_172 rfl (lv_at hl 0 rfl) ?_
  refine fx_getI X h (k := 159) (j := 46) sh_159 rfl fl_RX12_350 dX12_sells_173 ?_
  refine lv_iadd hx hb dX12_sells_176 ?_
  refine lv_aload_n hx hb dX12_sells_177 rfl (lv_at hl 0 rfl) ?_
  refine fx_getR X h (k := 159) (j := 1) (r := 160) sh_159 rfl fl_RX12_7 dX12_sells_178 ?_
  refine lv_bipush (v := 63) hx hb dX12_sells_181 (by decide) ?_
  refine lv_aload_n hx hb dX12_sells_183 rfl (lv_at hl 0 rfl) ?_
  refine fx_getI X h (k := 159) (j := 46) sh_159 rfl fl_RX12_350 dX12_sells_184 ?_
  refine lv_iadd hx hb dX12_sells_187 ?_
  obtain ⟨hi6, hT⟩ := hT
  refine fx_iald X h (k := 160) sh_160 hi6 dX12_sells_188 ?_
  refine lv_aload_n hx hb dX12_sells_189 rfl (lv_at hl 0 rfl) ?_
  refine fx_getR X h (k := 159) (j := 1) (r := 160) sh_159 rfl fl_RX12_7 dX12_sells_190 ?_
  refine lv_bipush (v := 39) hx hb dX12_sells_193 (by decide) ?_
  refine lv_iload_n hx hb dX12_sells_195 rfl (lv_at hl 1 rfl) ?_
  refine lv_iadd hx hb dX12_sells_196 ?_
  obtain ⟨hi7, hT⟩ := hT
  refine fx_iald X h (k := 160) sh_160 hi7 dX12_sells_197 ?_
  refine lv_iadd hx hb dX12_sells_198 ?_
  obtain ⟨hi9, hT⟩ := hT
  refine fx_iast X h (k := 160) sh_160 hi9 dX12_sells_199 (fun H locs h => ?_)
  obtain ⟨M8, eM8⟩ : ∃ z : Mm, z = m_up M 160 (((63 : Int32) + (M 159 46))).toNatClampNeg ((M 160 (((63 : Int32) + (M 159 46))).toNatClampNeg) + (M 160 (((39 : Int32) + x1)).toNatClampNeg)) := ⟨_, rfl⟩
  have hT := hT M8 eM8
  rw [← eM8] at h
  refine lv_aload_n hx hb dX12_sells_200 rfl (lv_at hl 0 rfl) ?_
  refine fx_getR X h (k := 159) (j := 1) (r := 160) sh_159 rfl fl_RX12_7 dX12_sells_201 ?_
  refine lv_iconst (v := 4) hx hb dX12_sells_204 (by decide) ?_
  refine lv_aload_n hx hb dX12_sells_205 rfl (lv_at hl 0 rfl) ?_
  refine lv_aload_n hx hb dX12_sells_206 rfl (lv_at hl 0 rfl) ?_
  refine fx_getR X h (k := 159) (j := 1) (r := 160) sh_159 rfl fl_RX12_7 dX12_sells_207 ?_
  refine lv_iconst (v := 4) hx hb dX12_sells_210 (by decide) ?_
  refine fx_iald X h (k := 160) sh_160 (by unfold vp_in; decide) dX12_sells_211 ?_
  rw [show ((4 : Int32)).toNatClampNeg = 4 by decide]
  refine lv_iload_n hx hb dX12_sells_212 rfl (lv_at hl 2 rfl) ?_
  refine lv_if_le (tgt := 225) hx hb dX12_sells_213 (by decide) (fun hc10 => ?_) (fun hc10 => ?_)
  · have hT := hT.1 hc10
    refine lv_bipush (v := -3) hx hb dX12_sells_225 (by decide) ?_
    exact w_X12_sells_227 X hr hk (4 : Int32) (M8 160 4) (-3 : Int32) M8 _ _ ls hT h (lv_sub hl [0] rfl)
  · have hT := hT.2 hc10
    refine lv_iconst (v := 2) hx hb dX12_sells_216 (by decide) ?_
    refine lv_aload_n hx hb dX12_sells_217 rfl (lv_at hl 0 rfl) ?_
    refine fx_getI X h (k := 159) (j := 47) sh_159 rfl fl_RX12_369 dX12_sells_218 ?_
    refine lv_imul hx hb dX12_sells_221 ?_
    refine lv_goto (tgt := 227) hx hb dX12_sells_222 (by decide) ?_
    exact w_X12_sells_227 X hr hk (4 : Int32) (M8 160 4) ((2 : Int32) * (M8 159 47)) M8 _ _ ls hT h (lv_sub hl [0] rfl)
def T_X12_sells_58 (x1 : Int32) (s0 : Int32) (M : Mm) (K : Int32 → Mm → Prop) : Prop := (vp_in ((55 : Int32) + (M 159 46)) 135 ∧ (vp_in ((55 : Int32) + (M 159 46)) 135 ∧ (∀ M12 : Mm, M12 = m_up M 160 (((55 : Int32) + (M 159 46))).toNatClampNeg ((M 160 (((55 : Int32) + (M 159 46))).toNatClampNeg) - s0) → (∀ M14 : Mm, M14 = m_up M12 160 3 ((M12 160 3) + s0) → (vp_in ((7 : Int32) + x1) 135 ∧ (∀ M15 : Mm, M15 = m_up M14 160 (((7 : Int32) + x1)).toNatClampNeg ((M14 159 46) + (1 : Int32)) → (T_X12_notes (1 : Int32) (M15 159 46) s0 M15 (fun M18 => (T_X12_openedBy x1 M18 (fun r21 M20 => (vp_in ((23 : Int32) + x1) 135 ∧ (∀ M22 : Mm, M22 = m_up M20 160 (((23 : Int32) + x1)).toNatClampNeg (r21 + (1 : Int32)) → (T_X12_notes (2 : Int32) (M22 159 46) r21 M22 (fun M25 => ((r21 ≤ 0 → (T_X12_sells_166 x1 r21 M25 K)) ∧ (¬ r21 ≤ 0 → (T_X12_hasMore (M25 159 46) r21 (1 : Int32) M25 (fun M28 => (T_X12_sells_166 x1 r21 M28 K)))))))))))))))))))
set_option maxHeartbeats 4000000 in
set_option maxRecDepth 100000 in
theorem w_X12_sells_58 {p : Program} {l : Launch} {e : Env} {s : State} {m : MethodId} {args : Array Value} {below : List Frame} {meth : Method} {c : Code} {G : fx_G} {K : Int32 → Mm → Prop} (X : fx_C G p s m c args cX12_sells 4 RX12) (hr : meth.sig.returnType = (some .int)) (hk : meth.locks = false) : ∀ (x1 : Int32) (s0 : Int32) (M : Mm) (H : Heap) (locs : List Loc) (ls : Array Slot), T_X12_sells_58 x1 s0 M K → fx_H G SH M s H locs → lv_has ls 4 [(0, .ref (G.2.2.2 + 159)), (1, .int x1)] → W p l e (fx_rm (7)) s m args below meth c H locs 0 0 (MQ below (va_Qi K (fx_R G SH) (fx_A G)) args s 0 0 (fx_A G)) (F0 m 58 ls [.int s0]) := by
  obtain ⟨⟨hx, hb, hml, hown, hts⟩, hK, hQ⟩ := id X
  intro x1 s0 M H locs ls hT h hl
  unfold T_X12_sells_58 at hT
  refine lv_istore_n (lv' := [(2, .int s0), (0, .ref (G.2.2.2 + 159)), (1, .int x1)]) hx hb dX12_sells_58 rfl hl (by decide) rfl (fun ls hl => ?_)
  refine lv_aload_n hx hb dX12_sells_59 rfl (lv_at hl 1 rfl) ?_
  refine fx_getR X h (k := 159) (j := 1) (r := 160) sh_159 rfl fl_RX12_7 dX12_sells_60 ?_
  refine lv_bipush (v := 55) hx hb dX12_sells_63 (by decide) ?_
  refine lv_aload_n hx hb dX12_sells_65 rfl (lv_at hl 1 rfl) ?_
  refine fx_getI X h (k := 159) (j := 46) sh_159 rfl fl_RX12_350 dX12_sells_66 ?_
  refine lv_iadd hx hb dX12_sells_69 ?_
  refine lv_aload_n hx hb dX12_sells_70 rfl (lv_at hl 1 rfl) ?_
  refine fx_getR X h (k := 159) (j := 1) (r := 160) sh_159 rfl fl_RX12_7 dX12_sells_71 ?_
  refine lv_bipush (v := 55) hx hb dX12_sells_74 (by decide) ?_
  refine lv_aload_n hx hb dX12_sells_76 rfl (lv_at hl 1 rfl) ?_
  refine fx_getI X h (k := 159) (j := 46) sh_159 rfl fl_RX12_350 dX12_sells_77 ?_
  refine lv_iadd hx hb dX12_sells_80 ?_
  obtain ⟨hi11, hT⟩ := hT
  refine fx_iald X h (k := 160) sh_160 hi11 dX12_sells_81 ?_
  refine lv_iload_n hx hb dX12_sells_82 rfl (lv_at hl 0 rfl) ?_
  refine lv_isub hx hb dX12_sells_83 ?_
  obtain ⟨hi13, hT⟩ := hT
  refine fx_iast X h (k := 160) sh_160 hi13 dX12_sells_84 (fun H locs h => ?_)
  obtain ⟨M12, eM12⟩ : ∃ z : Mm, z = m_up M 160 (((55 : Int32) + (M 159 46))).toNatClampNeg ((M 160 (((55 : Int32) + (M 159 46))).toNatClampNeg) - s0) := ⟨_, rfl⟩
  have hT := hT M12 eM12
  rw [← eM12] at h
  refine lv_aload_n hx hb dX12_sells_85 rfl (lv_at hl 1 rfl) ?_
  refine fx_getR X h (k := 159) (j := 1) (r := 160) sh_159 rfl fl_RX12_7 dX12_sells_86 ?_
  refine lv_iconst (v := 3) hx hb dX12_sells_89 (by decide) ?_
  refine lv_aload_n hx hb dX12_sells_90 rfl (lv_at hl 1 rfl) ?_
  refine fx_getR X h (k := 159) (j := 1) (r := 160) sh_159 rfl fl_RX12_7 dX12_sells_91 ?_
  refine lv_iconst (v := 3) hx hb dX12_sells_94 (by decide) ?_
  refine fx_iald X h (k := 160) sh_160 (by unfold vp_in; decide) dX12_sells_95 ?_
  rw [show ((3 : Int32)).toNatClampNeg = 3 by decide]
  refine lv_iload_n hx hb dX12_sells_96 rfl (lv_at hl 0 rfl) ?_
  refine lv_iadd hx hb dX12_sells_97 ?_
  refine fx_iast X h (k := 160) sh_160 (by unfold vp_in; decide) dX12_sells_98 (fun H locs h => ?_)
  rw [show ((3 : Int32)).toNatClampNeg = 3 by decide] at h
  obtain ⟨M14, eM14⟩ : ∃ z : Mm, z = m_up M12 160 3 ((M12 160 3) + s0) := ⟨_, rfl⟩
  have hT := hT M14 eM14
  rw [← eM14] at h
  refine lv_aload_n hx hb dX12_sells_99 rfl (lv_at hl 1 rfl) ?_
  refine fx_getR X h (k := 159) (j := 1) (r := 160) sh_159 rfl fl_RX12_7 dX12_sells_100 ?_
  refine lv_bipush (v := 7) hx hb dX12_sells_103 (by decide) ?_
  refine lv_iload_n hx hb dX12_sells_105 rfl (lv_at hl 2 rfl) ?_
  refine lv_iadd hx hb dX12_sells_106 ?_
  refine lv_aload_n hx hb dX12_sells_107 rfl (lv_at hl 1 rfl) ?_
  refine fx_getI X h (k := 159) (j := 46) sh_159 rfl fl_RX12_350 dX12_sells_108 ?_
  refine lv_iconst (v := 1) hx hb dX12_sells_111 (by decide) ?_
  refine lv_iadd hx hb dX12_sells_112 ?_
  obtain ⟨hi16, hT⟩ := hT
  refine fx_iast X h (k := 160) sh_160 hi16 dX12_sells_113 (fun H locs h => ?_)
  obtain ⟨M15, eM15⟩ : ∃ z : Mm, z = m_up M14 160 (((7 : Int32) + x1)).toNatClampNeg ((M14 159 46) + (1 : Int32)) := ⟨_, rfl⟩
  have hT := hT M15 eM15
  rw [← eM15] at h
  refine lv_aload_n hx hb dX12_sells_114 rfl (lv_at hl 1 rfl) ?_
  refine lv_iconst (v := 1) hx hb dX12_sells_115 (by decide) ?_
  refine lv_aload_n hx hb dX12_sells_116 rfl (lv_at hl 1 rfl) ?_
  refine fx_getI X h (k := 159) (j := 46) sh_159 rfl fl_RX12_350 dX12_sells_117 ?_
  refine lv_iload_n hx hb dX12_sells_120 rfl (lv_at hl 0 rfl) ?_
  refine fx_vv X h ym_X12_notes yi_X12_notes ys_X12_notes (fx_s8 (List.mem_of_getElem? (i := 83) rfl) rfl) sh_159 rfl (c_X12_notes l G hT) (As := [.int (1 : Int32), .int (M15 159 46), .int s0]) (rest := []) rfl rfl ⟨Nat.le_of_ble_eq_true rfl, Nat.le_of_ble_eq_true rfl⟩ ⟨Nat.le_refl _, Nat.le_refl _⟩ hl.1 (Nat.le_of_ble_eq_true rfl) dX12_sells_121 (fun M18 H locs hT h => ?_)
  refine lv_aload_n hx hb dX12_sells_124 rfl (lv_at hl 1 rfl) ?_
  refine lv_iload_n hx hb dX12_sells_125 rfl (lv_at hl 2 rfl) ?_
  refine fx_vi X h ym_X12_openedBy yi_X12_openedBy ys_X12_openedBy (fx_s8 (List.mem_of_getElem? (i := 87) rfl) rfl) sh_159 rfl (c_X12_openedBy l G hT) (As := [.int x1]) (rest := []) rfl rfl ⟨Nat.le_of_ble_eq_true rfl, Nat.le_of_ble_eq_true rfl⟩ ⟨Nat.le_refl _, Nat.le_refl _⟩ hl.1 (Nat.le_of_ble_eq_true rfl) dX12_sells_126 (fun r21 M20 H locs hT h => ?_)
  refine lv_istore_n (lv' := [(3, .int r21), (2, .int s0), (0, .ref (G.2.2.2 + 159)), (1, .int x1)]) hx hb dX12_sells_129 rfl hl (by decide) rfl (fun ls hl => ?_)
  refine lv_aload_n hx hb dX12_sells_130 rfl (lv_at hl 2 rfl) ?_
  refine fx_getR X h (k := 159) (j := 1) (r := 160) sh_159 rfl fl_RX12_7 dX12_sells_131 ?_
  refine lv_bipush (v := 23) hx hb dX12_sells_134 (by decide) ?_
  refine lv_iload_n hx hb dX12_sells_136 rfl (lv_at hl 3 rfl) ?_
  refine lv_iadd hx hb dX12_sells_137 ?_
  refine lv_iload_n hx hb dX12_sells_138 rfl (lv_at hl 0 rfl) ?_
  refine lv_iconst (v := 1) hx hb dX12_sells_139 (by decide) ?_
  refine lv_iadd hx hb dX12_sells_140 ?_
  obtain ⟨hi23, hT⟩ := hT
  refine fx_iast X h (k := 160) sh_160 hi23 dX12_sells_141 (fun H locs h => ?_)
  obtain ⟨M22, eM22⟩ : ∃ z : Mm, z = m_up M20 160 (((23 : Int32) + x1)).toNatClampNeg (r21 + (1 : Int32)) := ⟨_, rfl⟩
  have hT := hT M22 eM22
  rw [← eM22] at h
  refine lv_aload_n hx hb dX12_sells_142 rfl (lv_at hl 2 rfl) ?_
  refine lv_iconst (v := 2) hx hb dX12_sells_143 (by decide) ?_
  refine lv_aload_n hx hb dX12_sells_144 rfl (lv_at hl 2 rfl) ?_
  refine fx_getI X h (k := 159) (j := 46) sh_159 rfl fl_RX12_350 dX12_sells_145 ?_
  refine lv_iload_n hx hb dX12_sells_148 rfl (lv_at hl 0 rfl) ?_
  refine fx_vv X h ym_X12_notes yi_X12_notes ys_X12_notes (fx_s8 (List.mem_of_getElem? (i := 83) rfl) rfl) sh_159 rfl (c_X12_notes l G hT) (As := [.int (2 : Int32), .int (M22 159 46), .int r21]) (rest := []) rfl rfl ⟨Nat.le_of_ble_eq_true rfl, Nat.le_of_ble_eq_true rfl⟩ ⟨Nat.le_refl _, Nat.le_refl _⟩ hl.1 (Nat.le_of_ble_eq_true rfl) dX12_sells_149 (fun M25 H locs hT h => ?_)
  refine lv_iload_n hx hb dX12_sells_152 rfl (lv_at hl 0 rfl) ?_
  refine lv_if_le (tgt := 166) hx hb dX12_sells_153 (by decide) (fun hc26 => ?_) (fun hc26 => ?_)
  · have hT := hT.1 hc26
    exact w_X12_sells_166 X hr hk x1 r21 M25 _ _ ls hT h (lv_sub hl [2, 3, 0] rfl)
  · have hT := hT.2 hc26
    refine lv_aload_n hx hb dX12_sells_156 rfl (lv_at hl 2 rfl) ?_
    refine lv_aload_n hx hb dX12_sells_157 rfl (lv_at hl 2 rfl) ?_
    refine fx_getI X h (k := 159) (j := 46) sh_159 rfl fl_RX12_350 dX12_sells_158 ?_
    refine lv_iload_n hx hb dX12_sells_161 rfl (lv_at hl 0 rfl) ?_
    refine lv_iconst (v := 1) hx hb dX12_sells_162 (by decide) ?_
    refine fx_vv X h ym_X12_hasMore yi_X12_hasMore ys_X12_hasMore (fx_s8 (List.mem_of_getElem? (i := 95) rfl) rfl) sh_159 rfl (c_X12_hasMore l G hT) (As := [.int (M25 159 46), .int r21, .int (1 : Int32)]) (rest := []) rfl rfl ⟨Nat.le_of_ble_eq_true rfl, Nat.le_of_ble_eq_true rfl⟩ ⟨Nat.le_refl _, Nat.le_refl _⟩ hl.1 (Nat.le_of_ble_eq_true rfl) dX12_sells_163 (fun M28 H locs hT h => ?_)
    exact w_X12_sells_166 X hr hk x1 r21 M28 _ _ ls hT h (lv_sub hl [2, 3, 0] rfl)
def T_X12_sells (x1 : Int32) (M : Mm) (K : Int32 → Mm → Prop) : Prop := (T_X12_isBidFor x1 M (fun M30 => (((M30 159 46) = (-1 : Int32) → (∀ M34 : Mm, M34 = m_up M30 160 4 ((M30 160 4) - ((M30 160 4) / (10 : Int32))) → (K (0 : Int32) M34))) ∧ (¬ (M30 159 46) = (-1 : Int32) → (vp_in (M30 159 46) 8 ∧ (((M30 167 ((M30 159 46)).toNatClampNeg) = (1 : Int32) → (T_X12_sells_58 x1 (0 : Int32) M30 K)) ∧ (¬ (M30 167 ((M30 159 46)).toNatClampNeg) = (1 : Int32) → (T_X12_sells_58 x1 (M30 159 45) M30 K))))))))
set_option maxHeartbeats 4000000 in
set_option maxRecDepth 100000 in
theorem c_X12_sells (l : Launch) (G : fx_G) {x1 : Int32} {M : Mm} {K : Int32 → Mm → Prop} (hT : T_X12_sells x1 M K) : Met l yX12_sells (fx_ws yX12_sells cX12_sells 4 (some .int)) (fx_rm (7)) (va_Pc [.ref (G.2.2.2 + 159), .int x1] (fx_P G SH M)) (va_Qi K (fx_R G SH) (fx_A G)) 0 0 (fx_A G) := by
  refine fx_met (own := RX12) (by decide +kernel) rfl (Nat.le_of_ble_eq_true rfl) (fun p e s m below meth c X hr hk h ls hl => ?_)
  obtain ⟨⟨hx, hb, hml, hown, hts⟩, hK, hQ⟩ := id X
  have hl : lv_has ls 4 [(0, .ref (G.2.2.2 + 159)), (1, .int x1)] := hl
  unfold T_X12_sells at hT
  refine lv_aload_n hx hb dX12_sells_0 rfl (lv_at hl 0 rfl) ?_
  refine lv_iload_n hx hb dX12_sells_1 rfl (lv_at hl 1 rfl) ?_
  refine fx_vv X h ym_X12_isBidFor yi_X12_isBidFor ys_X12_isBidFor (fx_s8 (List.mem_of_getElem? (i := 29) rfl) rfl) sh_159 rfl (c_X12_isBidFor l G hT) (As := [.int x1]) (rest := []) rfl rfl ⟨Nat.le_of_ble_eq_true rfl, Nat.le_of_ble_eq_true rfl⟩ ⟨Nat.le_refl _, Nat.le_refl _⟩ hl.1 (Nat.le_of_ble_eq_true rfl) dX12_sells_2 (fun M30 H locs hT h => ?_)
  refine lv_aload_n hx hb dX12_sells_5 rfl (lv_at hl 0 rfl) ?_
  refine fx_getI X h (k := 159) (j := 46) sh_159 rfl fl_RX12_350 dX12_sells_6 ?_
  refine lv_iconst (v := -1) hx hb dX12_sells_9 (by decide) ?_
  refine lv_icmp_ne (tgt := 37) hx hb dX12_sells_10 (by decide) (fun hc31 => ?_) (fun hc31 => ?_)
  · have hT := hT.2 hc31
    refine lv_aload_n hx hb dX12_sells_37 rfl (lv_at hl 0 rfl) ?_
    refine fx_getR X h (k := 159) (j := 12) (r := 167) sh_159 rfl fl_RX12_31 dX12_sells_38 ?_
    refine lv_aload_n hx hb dX12_sells_41 rfl (lv_at hl 0 rfl) ?_
    refine fx_getI X h (k := 159) (j := 46) sh_159 rfl fl_RX12_350 dX12_sells_42 ?_
    obtain ⟨hi32, hT⟩ := hT
    refine fx_iald X h (k := 167) sh_167 hi32 dX12_sells_45 ?_
    refine lv_iconst (v := 1) hx hb dX12_sells_46 (by decide) ?_
    refine lv_icmp_ne (tgt := 54) hx hb dX12_sells_47 (by decide) (fun hc33 => ?_) (fun hc33 => ?_)
    · have hT := hT.2 hc33
      refine lv_aload_n hx hb dX12_sells_54 rfl (lv_at hl 0 rfl) ?_
      refine fx_getI X h (k := 159) (j := 45) sh_159 rfl fl_RX12_353 dX12_sells_55 ?_
      exact w_X12_sells_58 X hr hk x1 (M30 159 45) M30 _ _ ls hT h (lv_sub hl [0, 1] rfl)
    · have hT := hT.1 hc33
      refine lv_iconst (v := 0) hx hb dX12_sells_50 (by decide) ?_
      refine lv_goto (tgt := 58) hx hb dX12_sells_51 (by decide) ?_
      exact w_X12_sells_58 X hr hk x1 (0 : Int32) M30 _ _ ls hT h (lv_sub hl [0, 1] rfl)
  · have hT := hT.1 hc31
    refine lv_aload_n hx hb dX12_sells_13 rfl (lv_at hl 0 rfl) ?_
    refine fx_getR X h (k := 159) (j := 1) (r := 160) sh_159 rfl fl_RX12_7 dX12_sells_14 ?_
    refine lv_iconst (v := 4) hx hb dX12_sells_17 (by decide) ?_
    refine lv_aload_n hx hb dX12_sells_18 rfl (lv_at hl 0 rfl) ?_
    refine fx_getR X h (k := 159) (j := 1) (r := 160) sh_159 rfl fl_RX12_7 dX12_sells_19 ?_
    refine lv_iconst (v := 4) hx hb dX12_sells_22 (by decide) ?_
    refine fx_iald X h (k := 160) sh_160 (by unfold vp_in; decide) dX12_sells_23 ?_
    rw [show ((4 : Int32)).toNatClampNeg = 4 by decide]
    refine lv_aload_n hx hb dX12_sells_24 rfl (lv_at hl 0 rfl) ?_
    refine fx_getR X h (k := 159) (j := 1) (r := 160) sh_159 rfl fl_RX12_7 dX12_sells_25 ?_
    refine lv_iconst (v := 4) hx hb dX12_sells_28 (by decide) ?_
    refine fx_iald X h (k := 160) sh_160 (by unfold vp_in; decide) dX12_sells_29 ?_
    rw [show ((4 : Int32)).toNatClampNeg = 4 by decide]
    refine lv_bipush (v := 10) hx hb dX12_sells_30 (by decide) ?_
    refine lv_idiv hx hb dX12_sells_32 (by decide) ?_
    refine lv_isub hx hb dX12_sells_33 ?_
    refine fx_iast X h (k := 160) sh_160 (by unfold vp_in; decide) dX12_sells_34 (fun H locs h => ?_)
    rw [show ((4 : Int32)).toNatClampNeg = 4 by decide] at h
    obtain ⟨M34, eM34⟩ : ∃ z : Mm, z = m_up M30 160 4 ((M30 160 4) - ((M30 160 4) / (10 : Int32))) := ⟨_, rfl⟩
    have hT := hT M34 eM34
    rw [← eM34] at h
    refine lv_iconst (v := 0) hx hb dX12_sells_35 (by decide) ?_
    exact fx_iret X hr hk h hT dX12_sells_36
/-! MockParcelsModel.sell(I)I -/
theorem dX12_sell_0 : decode cX12_sell 0 = .ok (.aload_n 0, 1) := by decide +kernel
theorem dX12_sell_1 : decode cX12_sell 1 = .ok (.iconst 0, 1) := by decide +kernel
theorem dX12_sell_2 : decode cX12_sell 2 = .ok (.putfield 134, 3) := by decide +kernel
theorem dX12_sell_5 : decode cX12_sell 5 = .ok (.aload_n 0, 1) := by decide +kernel
theorem dX12_sell_6 : decode cX12_sell 6 = .ok (.iload_n 1, 1) := by decide +kernel
theorem dX12_sell_7 : decode cX12_sell 7 = .ok (.invokevirtual 165, 3) := by decide +kernel
theorem dX12_sell_10 : decode cX12_sell 10 = .ok (.ifCond .eq 15, 3) := by decide +kernel
theorem dX12_sell_13 : decode cX12_sell 13 = .ok (.aload_n 0, 1) := by decide +kernel
theorem dX12_sell_14 : decode cX12_sell 14 = .ok (.getfield 7, 3) := by decide +kernel
theorem dX12_sell_17 : decode cX12_sell 17 = .ok (.bipush 7, 2) := by decide +kernel
theorem dX12_sell_19 : decode cX12_sell 19 = .ok (.iload_n 1, 1) := by decide +kernel
theorem dX12_sell_20 : decode cX12_sell 20 = .ok (.iadd, 1) := by decide +kernel
theorem dX12_sell_21 : decode cX12_sell 21 = .ok (.iaload, 1) := by decide +kernel
theorem dX12_sell_22 : decode cX12_sell 22 = .ok (.ifCond .le 5, 3) := by decide +kernel
theorem dX12_sell_25 : decode cX12_sell 25 = .ok (.iconst (-1), 1) := by decide +kernel
theorem dX12_sell_26 : decode cX12_sell 26 = .ok (.ireturn, 1) := by decide +kernel
theorem dX12_sell_27 : decode cX12_sell 27 = .ok (.aload_n 0, 1) := by decide +kernel
theorem dX12_sell_28 : decode cX12_sell 28 = .ok (.invokevirtual 387, 3) := by decide +kernel
theorem dX12_sell_31 : decode cX12_sell 31 = .ok (.aload_n 0, 1) := by decide +kernel
theorem dX12_sell_32 : decode cX12_sell 32 = .ok (.iload_n 1, 1) := by decide +kernel
theorem dX12_sell_33 : decode cX12_sell 33 = .ok (.invokevirtual 390, 3) := by decide +kernel
theorem dX12_sell_36 : decode cX12_sell 36 = .ok (.ireturn, 1) := by decide +kernel
def T_X12_sell (x1 : Int32) (M : Mm) (K : Int32 → Mm → Prop) : Prop := (∀ M1 : Mm, M1 = m_up M 159 0 (0 : Int32) → (T_X12_isParcel x1 M1 (fun r4 M3 => ((r4 = 0 → (K (-1 : Int32) M3)) ∧ (¬ r4 = 0 → (vp_in ((7 : Int32) + x1) 135 ∧ (((M3 160 (((7 : Int32) + x1)).toNatClampNeg) ≤ 0 → (T_X12_keepsAhead M3 (fun M9 => (T_X12_sells x1 M9 (fun r12 M11 => (K r12 M11)))))) ∧ (¬ (M3 160 (((7 : Int32) + x1)).toNatClampNeg) ≤ 0 → (K (-1 : Int32) M3)))))))))
set_option maxHeartbeats 4000000 in
set_option maxRecDepth 100000 in
theorem c_X12_sell (l : Launch) (G : fx_G) {x1 : Int32} {M : Mm} {K : Int32 → Mm → Prop} (hT : T_X12_sell x1 M K) : Met l yX12_sell (fx_ws yX12_sell cX12_sell 2 (some .int)) (fx_rm (8)) (va_Pc [.ref (G.2.2.2 + 159), .int x1] (fx_P G SH M)) (va_Qi K (fx_R G SH) (fx_A G)) 0 0 (fx_A G) := by
  refine fx_met (own := RX12) (by decide +kernel) rfl (Nat.le_of_ble_eq_true rfl) (fun p e s m below meth c X hr hk h ls hl => ?_)
  obtain ⟨⟨hx, hb, hml, hown, hts⟩, hK, hQ⟩ := id X
  have hl : lv_has ls 2 [(0, .ref (G.2.2.2 + 159)), (1, .int x1)] := hl
  unfold T_X12_sell at hT
  refine lv_aload_n hx hb dX12_sell_0 rfl (lv_at hl 0 rfl) ?_
  refine lv_iconst (v := 0) hx hb dX12_sell_1 (by decide) ?_
  refine fx_putI X h (k := 159) (j := 0) sh_159 rfl fl_RX12_134 dX12_sell_2 (fun H locs h => ?_)
  obtain ⟨M1, eM1⟩ : ∃ z : Mm, z = m_up M 159 0 (0 : Int32) := ⟨_, rfl⟩
  have hT := hT M1 eM1
  rw [← eM1] at h
  refine lv_aload_n hx hb dX12_sell_5 rfl (lv_at hl 0 rfl) ?_
  refine lv_iload_n hx hb dX12_sell_6 rfl (lv_at hl 1 rfl) ?_
  refine fx_vi X h ym_X12_isParcel yi_X12_isParcel ys_X12_isParcel (fx_s7 (List.mem_of_getElem? (i := 97) rfl) rfl) sh_159 rfl (c_X12_isParcel l G hT) (As := [.int x1]) (rest := []) rfl rfl ⟨Nat.le_of_ble_eq_true rfl, Nat.le_of_ble_eq_true rfl⟩ ⟨Nat.le_refl _, Nat.le_refl _⟩ hl.1 (Nat.le_of_ble_eq_true rfl) dX12_sell_7 (fun r4 M3 H locs hT h => ?_)
  refine lv_if_eq (tgt := 25) hx hb dX12_sell_10 (by decide) (fun hc5 => ?_) (fun hc5 => ?_)
  · have hT := hT.1 hc5
    refine lv_iconst (v := -1) hx hb dX12_sell_25 (by decide) ?_
    exact fx_iret X hr hk h hT dX12_sell_26
  · have hT := hT.2 hc5
    refine lv_aload_n hx hb dX12_sell_13 rfl (lv_at hl 0 rfl) ?_
    refine fx_getR X h (k := 159) (j := 1) (r := 160) sh_159 rfl fl_RX12_7 dX12_sell_14 ?_
    refine lv_bipush (v := 7) hx hb dX12_sell_17 (by decide) ?_
    refine lv_iload_n hx hb dX12_sell_19 rfl (lv_at hl 1 rfl) ?_
    refine lv_iadd hx hb dX12_sell_20 ?_
    obtain ⟨hi6, hT⟩ := hT
    refine fx_iald X h (k := 160) sh_160 hi6 dX12_sell_21 ?_
    refine lv_if_le (tgt := 27) hx hb dX12_sell_22 (by decide) (fun hc7 => ?_) (fun hc7 => ?_)
    · have hT := hT.1 hc7
      refine lv_aload_n hx hb dX12_sell_27 rfl (lv_at hl 0 rfl) ?_
      refine fx_vv X h ym_X12_keepsAhead yi_X12_keepsAhead ys_X12_keepsAhead (fx_s8 (List.mem_of_getElem? (i := 21) rfl) rfl) sh_159 rfl (c_X12_keepsAhead l G hT) (As := []) (rest := []) rfl rfl ⟨Nat.le_of_ble_eq_true rfl, Nat.le_of_ble_eq_true rfl⟩ ⟨Nat.le_refl _, Nat.le_refl _⟩ hl.1 (Nat.le_of_ble_eq_true rfl) dX12_sell_28 (fun M9 H locs hT h => ?_)
      refine lv_aload_n hx hb dX12_sell_31 rfl (lv_at hl 0 rfl) ?_
      refine lv_iload_n hx hb dX12_sell_32 rfl (lv_at hl 1 rfl) ?_
      refine fx_vi X h ym_X12_sells yi_X12_sells ys_X12_sells (fx_s8 (List.mem_of_getElem? (i := 25) rfl) rfl) sh_159 rfl (c_X12_sells l G hT) (As := [.int x1]) (rest := []) rfl rfl ⟨Nat.le_of_ble_eq_true rfl, Nat.le_of_ble_eq_true rfl⟩ ⟨Nat.le_refl _, Nat.le_refl _⟩ hl.1 (Nat.le_of_ble_eq_true rfl) dX12_sell_33 (fun r12 M11 H locs hT h => ?_)
      exact fx_iret X hr hk h hT dX12_sell_36
    · have hT := hT.2 hc7
      refine lv_iconst (v := -1) hx hb dX12_sell_25 (by decide) ?_
      exact fx_iret X hr hk h hT dX12_sell_26
/-! MockParcelsModel.paysMore(II)V -/
theorem dX12_paysMore_0 : decode cX12_paysMore 0 = .ok (.aload_n 0, 1) := by decide +kernel
theorem dX12_paysMore_1 : decode cX12_paysMore 1 = .ok (.getfield 7, 3) := by decide +kernel
theorem dX12_paysMore_4 : decode cX12_paysMore 4 = .ok (.bipush 55, 2) := by decide +kernel
theorem dX12_paysMore_6 : decode cX12_paysMore 6 = .ok (.iload_n 1, 1) := by decide +kernel
theorem dX12_paysMore_7 : decode cX12_paysMore 7 = .ok (.iadd, 1) := by decide +kernel
theorem dX12_paysMore_8 : decode cX12_paysMore 8 = .ok (.aload_n 0, 1) := by decide +kernel
theorem dX12_paysMore_9 : decode cX12_paysMore 9 = .ok (.sipush 9999, 3) := by decide +kernel
theorem dX12_paysMore_12 : decode cX12_paysMore 12 = .ok (.aload_n 0, 1) := by decide +kernel
theorem dX12_paysMore_13 : decode cX12_paysMore 13 = .ok (.getfield 7, 3) := by decide +kernel
theorem dX12_paysMore_16 : decode cX12_paysMore 16 = .ok (.bipush 55, 2) := by decide +kernel
theorem dX12_paysMore_18 : decode cX12_paysMore 18 = .ok (.iload_n 1, 1) := by decide +kernel
theorem dX12_paysMore_19 : decode cX12_paysMore 19 = .ok (.iadd, 1) := by decide +kernel
theorem dX12_paysMore_20 : decode cX12_paysMore 20 = .ok (.iaload, 1) := by decide +kernel
theorem dX12_paysMore_21 : decode cX12_paysMore 21 = .ok (.iload_n 2, 1) := by decide +kernel
theorem dX12_paysMore_22 : decode cX12_paysMore 22 = .ok (.iadd, 1) := by decide +kernel
theorem dX12_paysMore_23 : decode cX12_paysMore 23 = .ok (.invokevirtual 393, 3) := by decide +kernel
theorem dX12_paysMore_26 : decode cX12_paysMore 26 = .ok (.iastore, 1) := by decide +kernel
theorem dX12_paysMore_27 : decode cX12_paysMore 27 = .ok (.return_, 1) := by decide +kernel
def T_X12_paysMore (x1 : Int32) (x2 : Int32) (M : Mm) (K : Mm → Prop) : Prop := (vp_in ((55 : Int32) + x1) 135 ∧ (T_X12_lesser (9999 : Int32) ((M 160 (((55 : Int32) + x1)).toNatClampNeg) + x2) M (fun r4 M3 => (vp_in ((55 : Int32) + x1) 135 ∧ (∀ M5 : Mm, M5 = m_up M3 160 (((55 : Int32) + x1)).toNatClampNeg r4 → (K M5))))))
set_option maxHeartbeats 4000000 in
set_option maxRecDepth 100000 in
theorem c_X12_paysMore (l : Launch) (G : fx_G) {x1 : Int32} {x2 : Int32} {M : Mm} {K : Mm → Prop} (hT : T_X12_paysMore x1 x2 M K) : Met l yX12_paysMore (fx_ws yX12_paysMore cX12_paysMore 3 none) (fx_rm (1)) (va_Pc [.ref (G.2.2.2 + 159), .int x1, .int x2] (fx_P G SH M)) (va_Qv K (fx_R G SH) (fx_A G)) 0 0 (fx_A G) := by
  refine fx_met (own := RX12) (by decide +kernel) rfl (Nat.le_of_ble_eq_true rfl) (fun p e s m below meth c X hr hk h ls hl => ?_)
  obtain ⟨⟨hx, hb, hml, hown, hts⟩, hK, hQ⟩ := id X
  have hl : lv_has ls 3 [(0, .ref (G.2.2.2 + 159)), (1, .int x1), (2, .int x2)] := hl
  unfold T_X12_paysMore at hT
  refine lv_aload_n hx hb dX12_paysMore_0 rfl (lv_at hl 0 rfl) ?_
  refine fx_getR X h (k := 159) (j := 1) (r := 160) sh_159 rfl fl_RX12_7 dX12_paysMore_1 ?_
  refine lv_bipush (v := 55) hx hb dX12_paysMore_4 (by decide) ?_
  refine lv_iload_n hx hb dX12_paysMore_6 rfl (lv_at hl 1 rfl) ?_
  refine lv_iadd hx hb dX12_paysMore_7 ?_
  refine lv_aload_n hx hb dX12_paysMore_8 rfl (lv_at hl 0 rfl) ?_
  refine lv_sipush (v := 9999) hx hb dX12_paysMore_9 (by decide) ?_
  refine lv_aload_n hx hb dX12_paysMore_12 rfl (lv_at hl 0 rfl) ?_
  refine fx_getR X h (k := 159) (j := 1) (r := 160) sh_159 rfl fl_RX12_7 dX12_paysMore_13 ?_
  refine lv_bipush (v := 55) hx hb dX12_paysMore_16 (by decide) ?_
  refine lv_iload_n hx hb dX12_paysMore_18 rfl (lv_at hl 1 rfl) ?_
  refine lv_iadd hx hb dX12_paysMore_19 ?_
  obtain ⟨hi1, hT⟩ := hT
  refine fx_iald X h (k := 160) sh_160 hi1 dX12_paysMore_20 ?_
  refine lv_iload_n hx hb dX12_paysMore_21 rfl (lv_at hl 2 rfl) ?_
  refine lv_iadd hx hb dX12_paysMore_22 ?_
  refine fx_vi X h ym_X12_lesser yi_X12_lesser ys_X12_lesser (fx_s8 (List.mem_of_getElem? (i := 107) rfl) rfl) sh_159 rfl (c_X12_lesser l G hT) (As := [.int (9999 : Int32), .int ((M 160 (((55 : Int32) + x1)).toNatClampNeg) + x2)]) (rest := [.int ((55 : Int32) + x1), .ref (G.2.2.2 + 160)]) rfl rfl ⟨Nat.le_of_ble_eq_true rfl, Nat.le_of_ble_eq_true rfl⟩ ⟨Nat.le_refl _, Nat.le_refl _⟩ hl.1 (Nat.le_of_ble_eq_true rfl) dX12_paysMore_23 (fun r4 M3 H locs hT h => ?_)
  obtain ⟨hi6, hT⟩ := hT
  refine fx_iast X h (k := 160) sh_160 hi6 dX12_paysMore_26 (fun H locs h => ?_)
  obtain ⟨M5, eM5⟩ : ∃ z : Mm, z = m_up M3 160 (((55 : Int32) + x1)).toNatClampNeg r4 := ⟨_, rfl⟩
  have hT := hT M5 eM5
  rw [← eM5] at h
  exact fx_vret X hr hk h hT dX12_paysMore_27
/-! MockParcelsModel.pay(II)Z -/
theorem dX12_pay_0 : decode cX12_pay 0 = .ok (.aload_n 0, 1) := by decide +kernel
theorem dX12_pay_1 : decode cX12_pay 1 = .ok (.iconst 0, 1) := by decide +kernel
theorem dX12_pay_2 : decode cX12_pay 2 = .ok (.putfield 134, 3) := by decide +kernel
theorem dX12_pay_5 : decode cX12_pay 5 = .ok (.aload_n 0, 1) := by decide +kernel
theorem dX12_pay_6 : decode cX12_pay 6 = .ok (.iload_n 1, 1) := by decide +kernel
theorem dX12_pay_7 : decode cX12_pay 7 = .ok (.invokevirtual 161, 3) := by decide +kernel
theorem dX12_pay_10 : decode cX12_pay 10 = .ok (.ifCond .eq 15, 3) := by decide +kernel
theorem dX12_pay_13 : decode cX12_pay 13 = .ok (.aload_n 0, 1) := by decide +kernel
theorem dX12_pay_14 : decode cX12_pay 14 = .ok (.iload_n 2, 1) := by decide +kernel
theorem dX12_pay_15 : decode cX12_pay 15 = .ok (.iconst 1, 1) := by decide +kernel
theorem dX12_pay_16 : decode cX12_pay 16 = .ok (.sipush 999, 3) := by decide +kernel
theorem dX12_pay_19 : decode cX12_pay 19 = .ok (.invokevirtual 157, 3) := by decide +kernel
theorem dX12_pay_22 : decode cX12_pay 22 = .ok (.ifCond .ne 5, 3) := by decide +kernel
theorem dX12_pay_25 : decode cX12_pay 25 = .ok (.iconst 0, 1) := by decide +kernel
theorem dX12_pay_26 : decode cX12_pay 26 = .ok (.ireturn, 1) := by decide +kernel
theorem dX12_pay_27 : decode cX12_pay 27 = .ok (.aload_n 0, 1) := by decide +kernel
theorem dX12_pay_28 : decode cX12_pay 28 = .ok (.invokevirtual 387, 3) := by decide +kernel
theorem dX12_pay_31 : decode cX12_pay 31 = .ok (.aload_n 0, 1) := by decide +kernel
theorem dX12_pay_32 : decode cX12_pay 32 = .ok (.iload_n 1, 1) := by decide +kernel
theorem dX12_pay_33 : decode cX12_pay 33 = .ok (.iload_n 2, 1) := by decide +kernel
theorem dX12_pay_34 : decode cX12_pay 34 = .ok (.invokevirtual 396, 3) := by decide +kernel
theorem dX12_pay_37 : decode cX12_pay 37 = .ok (.iconst 1, 1) := by decide +kernel
theorem dX12_pay_38 : decode cX12_pay 38 = .ok (.ireturn, 1) := by decide +kernel
def T_X12_pay (x1 : Int32) (x2 : Int32) (M : Mm) (K : Int32 → Mm → Prop) : Prop := (∀ M1 : Mm, M1 = m_up M 159 0 (0 : Int32) → (T_X12_isBidder x1 M1 (fun r4 M3 => ((r4 = 0 → (K (0 : Int32) M3)) ∧ (¬ r4 = 0 → (T_X12_isIn x2 (1 : Int32) (999 : Int32) M3 (fun r8 M7 => ((r8 = 0 → (K (0 : Int32) M7)) ∧ (¬ r8 = 0 → (T_X12_keepsAhead M7 (fun M11 => (T_X12_paysMore x1 x2 M11 (fun M13 => (K (1 : Int32) M13))))))))))))))
set_option maxHeartbeats 4000000 in
set_option maxRecDepth 100000 in
theorem c_X12_pay (l : Launch) (G : fx_G) {x1 : Int32} {x2 : Int32} {M : Mm} {K : Int32 → Mm → Prop} (hT : T_X12_pay x1 x2 M K) : Met l yX12_pay (fx_ws yX12_pay cX12_pay 3 (some .boolean)) (fx_rm (2)) (va_Pc [.ref (G.2.2.2 + 159), .int x1, .int x2] (fx_P G SH M)) (va_Qi K (fx_R G SH) (fx_A G)) 0 0 (fx_A G) := by
  refine fx_met (own := RX12) (by decide +kernel) rfl (Nat.le_of_ble_eq_true rfl) (fun p e s m below meth c X hr hk h ls hl => ?_)
  obtain ⟨⟨hx, hb, hml, hown, hts⟩, hK, hQ⟩ := id X
  have hl : lv_has ls 3 [(0, .ref (G.2.2.2 + 159)), (1, .int x1), (2, .int x2)] := hl
  unfold T_X12_pay at hT
  refine lv_aload_n hx hb dX12_pay_0 rfl (lv_at hl 0 rfl) ?_
  refine lv_iconst (v := 0) hx hb dX12_pay_1 (by decide) ?_
  refine fx_putI X h (k := 159) (j := 0) sh_159 rfl fl_RX12_134 dX12_pay_2 (fun H locs h => ?_)
  obtain ⟨M1, eM1⟩ : ∃ z : Mm, z = m_up M 159 0 (0 : Int32) := ⟨_, rfl⟩
  have hT := hT M1 eM1
  rw [← eM1] at h
  refine lv_aload_n hx hb dX12_pay_5 rfl (lv_at hl 0 rfl) ?_
  refine lv_iload_n hx hb dX12_pay_6 rfl (lv_at hl 1 rfl) ?_
  refine fx_vi X h ym_X12_isBidder yi_X12_isBidder ys_X12_isBidder (fx_s7 (List.mem_of_getElem? (i := 93) rfl) rfl) sh_159 rfl (c_X12_isBidder l G hT) (As := [.int x1]) (rest := []) rfl rfl ⟨Nat.le_of_ble_eq_true rfl, Nat.le_of_ble_eq_true rfl⟩ ⟨Nat.le_refl _, Nat.le_refl _⟩ hl.1 (Nat.le_of_ble_eq_true rfl) dX12_pay_7 (fun r4 M3 H locs hT h => ?_)
  refine lv_if_eq (tgt := 25) hx hb dX12_pay_10 (by decide) (fun hc5 => ?_) (fun hc5 => ?_)
  · have hT := hT.1 hc5
    refine lv_iconst (v := 0) hx hb dX12_pay_25 (by decide) ?_
    exact fx_zret X hr hk h (Or.inl rfl) hT dX12_pay_26
  · have hT := hT.2 hc5
    refine lv_aload_n hx hb dX12_pay_13 rfl (lv_at hl 0 rfl) ?_
    refine lv_iload_n hx hb dX12_pay_14 rfl (lv_at hl 2 rfl) ?_
    refine lv_iconst (v := 1) hx hb dX12_pay_15 (by decide) ?_
    refine lv_sipush (v := 999) hx hb dX12_pay_16 (by decide) ?_
    refine fx_vi X h ym_X12_isIn yi_X12_isIn ys_X12_isIn (fx_s7 (List.mem_of_getElem? (i := 77) rfl) rfl) sh_159 rfl (c_X12_isIn l G hT) (As := [.int x2, .int (1 : Int32), .int (999 : Int32)]) (rest := []) rfl rfl ⟨Nat.le_of_ble_eq_true rfl, Nat.le_of_ble_eq_true rfl⟩ ⟨Nat.le_refl _, Nat.le_refl _⟩ hl.1 (Nat.le_of_ble_eq_true rfl) dX12_pay_19 (fun r8 M7 H locs hT h => ?_)
    refine lv_if_ne (tgt := 27) hx hb dX12_pay_22 (by decide) (fun hc9 => ?_) (fun hc9 => ?_)
    · have hT := hT.2 hc9
      refine lv_aload_n hx hb dX12_pay_27 rfl (lv_at hl 0 rfl) ?_
      refine fx_vv X h ym_X12_keepsAhead yi_X12_keepsAhead ys_X12_keepsAhead (fx_s8 (List.mem_of_getElem? (i := 21) rfl) rfl) sh_159 rfl (c_X12_keepsAhead l G hT) (As := []) (rest := []) rfl rfl ⟨Nat.le_of_ble_eq_true rfl, Nat.le_of_ble_eq_true rfl⟩ ⟨Nat.le_refl _, Nat.le_refl _⟩ hl.1 (Nat.le_of_ble_eq_true rfl) dX12_pay_28 (fun M11 H locs hT h => ?_)
      refine lv_aload_n hx hb dX12_pay_31 rfl (lv_at hl 0 rfl) ?_
      refine lv_iload_n hx hb dX12_pay_32 rfl (lv_at hl 1 rfl) ?_
      refine lv_iload_n hx hb dX12_pay_33 rfl (lv_at hl 2 rfl) ?_
      refine fx_vv X h ym_X12_paysMore yi_X12_paysMore ys_X12_paysMore (fx_s8 (List.mem_of_getElem? (i := 103) rfl) rfl) sh_159 rfl (c_X12_paysMore l G hT) (As := [.int x1, .int x2]) (rest := []) rfl rfl ⟨Nat.le_of_ble_eq_true rfl, Nat.le_of_ble_eq_true rfl⟩ ⟨Nat.le_refl _, Nat.le_refl _⟩ hl.1 (Nat.le_of_ble_eq_true rfl) dX12_pay_34 (fun M13 H locs hT h => ?_)
      refine lv_iconst (v := 1) hx hb dX12_pay_37 (by decide) ?_
      exact fx_zret X hr hk h (Or.inr rfl) hT dX12_pay_38
    · have hT := hT.1 hc9
      refine lv_iconst (v := 0) hx hb dX12_pay_25 (by decide) ?_
      exact fx_zret X hr hk h (Or.inl rfl) hT dX12_pay_26
/-! MockParcelsModel.give(III)Z -/
theorem dX12_give_0 : decode cX12_give 0 = .ok (.aload_n 0, 1) := by decide +kernel
theorem dX12_give_1 : decode cX12_give 1 = .ok (.iconst 0, 1) := by decide +kernel
theorem dX12_give_2 : decode cX12_give 2 = .ok (.putfield 134, 3) := by decide +kernel
theorem dX12_give_5 : decode cX12_give 5 = .ok (.aload_n 0, 1) := by decide +kernel
theorem dX12_give_6 : decode cX12_give 6 = .ok (.iload_n 1, 1) := by decide +kernel
theorem dX12_give_7 : decode cX12_give 7 = .ok (.invokevirtual 161, 3) := by decide +kernel
theorem dX12_give_10 : decode cX12_give 10 = .ok (.ifCond .eq 36, 3) := by decide +kernel
theorem dX12_give_13 : decode cX12_give 13 = .ok (.aload_n 0, 1) := by decide +kernel
theorem dX12_give_14 : decode cX12_give 14 = .ok (.iload_n 2, 1) := by decide +kernel
theorem dX12_give_15 : decode cX12_give 15 = .ok (.invokevirtual 161, 3) := by decide +kernel
theorem dX12_give_18 : decode cX12_give 18 = .ok (.ifCond .eq 28, 3) := by decide +kernel
theorem dX12_give_21 : decode cX12_give 21 = .ok (.iload_n 1, 1) := by decide +kernel
theorem dX12_give_22 : decode cX12_give 22 = .ok (.iload_n 2, 1) := by decide +kernel
theorem dX12_give_23 : decode cX12_give 23 = .ok (.if_icmp .eq 23, 3) := by decide +kernel
theorem dX12_give_26 : decode cX12_give 26 = .ok (.aload_n 0, 1) := by decide +kernel
theorem dX12_give_27 : decode cX12_give 27 = .ok (.iload_n 3, 1) := by decide +kernel
theorem dX12_give_28 : decode cX12_give 28 = .ok (.iconst 1, 1) := by decide +kernel
theorem dX12_give_29 : decode cX12_give 29 = .ok (.bipush 7, 2) := by decide +kernel
theorem dX12_give_31 : decode cX12_give 31 = .ok (.invokevirtual 157, 3) := by decide +kernel
theorem dX12_give_34 : decode cX12_give 34 = .ok (.ifCond .eq 12, 3) := by decide +kernel
theorem dX12_give_37 : decode cX12_give 37 = .ok (.aload_n 0, 1) := by decide +kernel
theorem dX12_give_38 : decode cX12_give 38 = .ok (.iload_n 1, 1) := by decide +kernel
theorem dX12_give_39 : decode cX12_give 39 = .ok (.iload_n 3, 1) := by decide +kernel
theorem dX12_give_40 : decode cX12_give 40 = .ok (.invokevirtual 153, 3) := by decide +kernel
theorem dX12_give_43 : decode cX12_give 43 = .ok (.ifCond .ne 5, 3) := by decide +kernel
theorem dX12_give_46 : decode cX12_give 46 = .ok (.iconst 0, 1) := by decide +kernel
theorem dX12_give_47 : decode cX12_give 47 = .ok (.ireturn, 1) := by decide +kernel
theorem dX12_give_48 : decode cX12_give 48 = .ok (.aload_n 0, 1) := by decide +kernel
theorem dX12_give_49 : decode cX12_give 49 = .ok (.invokevirtual 387, 3) := by decide +kernel
theorem dX12_give_52 : decode cX12_give 52 = .ok (.aload_n 0, 1) := by decide +kernel
theorem dX12_give_53 : decode cX12_give 53 = .ok (.iload_n 1, 1) := by decide +kernel
theorem dX12_give_54 : decode cX12_give 54 = .ok (.iload_n 3, 1) := by decide +kernel
theorem dX12_give_55 : decode cX12_give 55 = .ok (.iconst (-1), 1) := by decide +kernel
theorem dX12_give_56 : decode cX12_give 56 = .ok (.invokevirtual 384, 3) := by decide +kernel
theorem dX12_give_59 : decode cX12_give 59 = .ok (.aload_n 0, 1) := by decide +kernel
theorem dX12_give_60 : decode cX12_give 60 = .ok (.iload_n 2, 1) := by decide +kernel
theorem dX12_give_61 : decode cX12_give 61 = .ok (.iload_n 3, 1) := by decide +kernel
theorem dX12_give_62 : decode cX12_give 62 = .ok (.iconst 1, 1) := by decide +kernel
theorem dX12_give_63 : decode cX12_give 63 = .ok (.invokevirtual 384, 3) := by decide +kernel
theorem dX12_give_66 : decode cX12_give 66 = .ok (.aload_n 0, 1) := by decide +kernel
theorem dX12_give_67 : decode cX12_give 67 = .ok (.iconst 4, 1) := by decide +kernel
theorem dX12_give_68 : decode cX12_give 68 = .ok (.iload_n 1, 1) := by decide +kernel
theorem dX12_give_69 : decode cX12_give 69 = .ok (.iload_n 3, 1) := by decide +kernel
theorem dX12_give_70 : decode cX12_give 70 = .ok (.invokevirtual 365, 3) := by decide +kernel
theorem dX12_give_73 : decode cX12_give 73 = .ok (.iconst 1, 1) := by decide +kernel
theorem dX12_give_74 : decode cX12_give 74 = .ok (.ireturn, 1) := by decide +kernel
def T_X12_give (x1 : Int32) (x2 : Int32) (x3 : Int32) (M : Mm) (K : Int32 → Mm → Prop) : Prop := (∀ M1 : Mm, M1 = m_up M 159 0 (0 : Int32) → (T_X12_isBidder x1 M1 (fun r4 M3 => ((r4 = 0 → (K (0 : Int32) M3)) ∧ (¬ r4 = 0 → (T_X12_isBidder x2 M3 (fun r8 M7 => ((r8 = 0 → (K (0 : Int32) M7)) ∧ (¬ r8 = 0 → ((x1 = x2 → (K (0 : Int32) M7)) ∧ (¬ x1 = x2 → (T_X12_isIn x3 (1 : Int32) (7 : Int32) M7 (fun r13 M12 => ((r13 = 0 → (K (0 : Int32) M12)) ∧ (¬ r13 = 0 → (T_X12_hasOf x1 x3 M12 (fun r17 M16 => ((r17 = 0 → (K (0 : Int32) M16)) ∧ (¬ r17 = 0 → (T_X12_keepsAhead M16 (fun M20 => (T_X12_hasMore x1 x3 (-1 : Int32) M20 (fun M22 => (T_X12_hasMore x2 x3 (1 : Int32) M22 (fun M24 => (T_X12_notes (4 : Int32) x1 x3 M24 (fun M26 => (K (1 : Int32) M26))))))))))))))))))))))))))))
set_option maxHeartbeats 4000000 in
set_option maxRecDepth 100000 in
theorem c_X12_give (l : Launch) (G : fx_G) {x1 : Int32} {x2 : Int32} {x3 : Int32} {M : Mm} {K : Int32 → Mm → Prop} (hT : T_X12_give x1 x2 x3 M K) : Met l yX12_give (fx_ws yX12_give cX12_give 4 (some .boolean)) (fx_rm (1)) (va_Pc [.ref (G.2.2.2 + 159), .int x1, .int x2, .int x3] (fx_P G SH M)) (va_Qi K (fx_R G SH) (fx_A G)) 0 0 (fx_A G) := by
  refine fx_met (own := RX12) (by decide +kernel) rfl (Nat.le_of_ble_eq_true rfl) (fun p e s m below meth c X hr hk h ls hl => ?_)
  obtain ⟨⟨hx, hb, hml, hown, hts⟩, hK, hQ⟩ := id X
  have hl : lv_has ls 4 [(0, .ref (G.2.2.2 + 159)), (1, .int x1), (2, .int x2), (3, .int x3)] := hl
  unfold T_X12_give at hT
  refine lv_aload_n hx hb dX12_give_0 rfl (lv_at hl 0 rfl) ?_
  refine lv_iconst (v := 0) hx hb dX12_give_1 (by decide) ?_
  refine fx_putI X h (k := 159) (j := 0) sh_159 rfl fl_RX12_134 dX12_give_2 (fun H locs h => ?_)
  obtain ⟨M1, eM1⟩ : ∃ z : Mm, z = m_up M 159 0 (0 : Int32) := ⟨_, rfl⟩
  have hT := hT M1 eM1
  rw [← eM1] at h
  refine lv_aload_n hx hb dX12_give_5 rfl (lv_at hl 0 rfl) ?_
  refine lv_iload_n hx hb dX12_give_6 rfl (lv_at hl 1 rfl) ?_
  refine fx_vi X h ym_X12_isBidder yi_X12_isBidder ys_X12_isBidder (fx_s7 (List.mem_of_getElem? (i := 93) rfl) rfl) sh_159 rfl (c_X12_isBidder l G hT) (As := [.int x1]) (rest := []) rfl rfl ⟨Nat.le_of_ble_eq_true rfl, Nat.le_of_ble_eq_true rfl⟩ ⟨Nat.le_refl _, Nat.le_refl _⟩ hl.1 (Nat.le_of_ble_eq_true rfl) dX12_give_7 (fun r4 M3 H locs hT h => ?_)
  refine lv_if_eq (tgt := 46) hx hb dX12_give_10 (by decide) (fun hc5 => ?_) (fun hc5 => ?_)
  · have hT := hT.1 hc5
    refine lv_iconst (v := 0) hx hb dX12_give_46 (by decide) ?_
    exact fx_zret X hr hk h (Or.inl rfl) hT dX12_give_47
  · have hT := hT.2 hc5
    refine lv_aload_n hx hb dX12_give_13 rfl (lv_at hl 0 rfl) ?_
    refine lv_iload_n hx hb dX12_give_14 rfl (lv_at hl 2 rfl) ?_
    refine fx_vi X h ym_X12_isBidder yi_X12_isBidder ys_X12_isBidder (fx_s7 (List.mem_of_getElem? (i := 93) rfl) rfl) sh_159 rfl (c_X12_isBidder l G hT) (As := [.int x2]) (rest := []) rfl rfl ⟨Nat.le_of_ble_eq_true rfl, Nat.le_of_ble_eq_true rfl⟩ ⟨Nat.le_refl _, Nat.le_refl _⟩ hl.1 (Nat.le_of_ble_eq_true rfl) dX12_give_15 (fun r8 M7 H locs hT h => ?_)
    refine lv_if_eq (tgt := 46) hx hb dX12_give_18 (by decide) (fun hc9 => ?_) (fun hc9 => ?_)
    · have hT := hT.1 hc9
      refine lv_iconst (v := 0) hx hb dX12_give_46 (by decide) ?_
      exact fx_zret X hr hk h (Or.inl rfl) hT dX12_give_47
    · have hT := hT.2 hc9
      refine lv_iload_n hx hb dX12_give_21 rfl (lv_at hl 1 rfl) ?_
      refine lv_iload_n hx hb dX12_give_22 rfl (lv_at hl 2 rfl) ?_
      refine lv_icmp_eq (tgt := 46) hx hb dX12_give_23 (by decide) (fun hc10 => ?_) (fun hc10 => ?_)
      · have hT := hT.1 hc10
        refine lv_iconst (v := 0) hx hb dX12_give_46 (by decide) ?_
        exact fx_zret X hr hk h (Or.inl rfl) hT dX12_give_47
      · have hT := hT.2 hc10
        refine lv_aload_n hx hb dX12_give_26 rfl (lv_at hl 0 rfl) ?_
        refine lv_iload_n hx hb dX12_give_27 rfl (lv_at hl 3 rfl) ?_
        refine lv_iconst (v := 1) hx hb dX12_give_28 (by decide) ?_
        refine lv_bipush (v := 7) hx hb dX12_give_29 (by decide) ?_
        refine fx_vi X h ym_X12_isIn yi_X12_isIn ys_X12_isIn (fx_s7 (List.mem_of_getElem? (i := 77) rfl) rfl) sh_159 rfl (c_X12_isIn l G hT) (As := [.int x3, .int (1 : Int32), .int (7 : Int32)]) (rest := []) rfl rfl ⟨Nat.le_of_ble_eq_true rfl, Nat.le_of_ble_eq_true rfl⟩ ⟨Nat.le_refl _, Nat.le_refl _⟩ hl.1 (Nat.le_of_ble_eq_true rfl) dX12_give_31 (fun r13 M12 H locs hT h => ?_)
        refine lv_if_eq (tgt := 46) hx hb dX12_give_34 (by decide) (fun hc14 => ?_) (fun hc14 => ?_)
        · have hT := hT.1 hc14
          refine lv_iconst (v := 0) hx hb dX12_give_46 (by decide) ?_
          exact fx_zret X hr hk h (Or.inl rfl) hT dX12_give_47
        · have hT := hT.2 hc14
          refine lv_aload_n hx hb dX12_give_37 rfl (lv_at hl 0 rfl) ?_
          refine lv_iload_n hx hb dX12_give_38 rfl (lv_at hl 1 rfl) ?_
          refine lv_iload_n hx hb dX12_give_39 rfl (lv_at hl 3 rfl) ?_
          refine fx_vi X h ym_X12_hasOf yi_X12_hasOf ys_X12_hasOf (fx_s8 (List.mem_of_getElem? (i := 49) rfl) rfl) sh_159 rfl (c_X12_hasOf l G hT) (As := [.int x1, .int x3]) (rest := []) rfl rfl ⟨Nat.le_of_ble_eq_true rfl, Nat.le_of_ble_eq_true rfl⟩ ⟨Nat.le_refl _, Nat.le_refl _⟩ hl.1 (Nat.le_of_ble_eq_true rfl) dX12_give_40 (fun r17 M16 H locs hT h => ?_)
          refine lv_if_ne (tgt := 48) hx hb dX12_give_43 (by decide) (fun hc18 => ?_) (fun hc18 => ?_)
          · have hT := hT.2 hc18
            refine lv_aload_n hx hb dX12_give_48 rfl (lv_at hl 0 rfl) ?_
            refine fx_vv X h ym_X12_keepsAhead yi_X12_keepsAhead ys_X12_keepsAhead (fx_s8 (List.mem_of_getElem? (i := 21) rfl) rfl) sh_159 rfl (c_X12_keepsAhead l G hT) (As := []) (rest := []) rfl rfl ⟨Nat.le_of_ble_eq_true rfl, Nat.le_of_ble_eq_true rfl⟩ ⟨Nat.le_refl _, Nat.le_refl _⟩ hl.1 (Nat.le_of_ble_eq_true rfl) dX12_give_49 (fun M20 H locs hT h => ?_)
            refine lv_aload_n hx hb dX12_give_52 rfl (lv_at hl 0 rfl) ?_
            refine lv_iload_n hx hb dX12_give_53 rfl (lv_at hl 1 rfl) ?_
            refine lv_iload_n hx hb dX12_give_54 rfl (lv_at hl 3 rfl) ?_
            refine lv_iconst (v := -1) hx hb dX12_give_55 (by decide) ?_
            refine fx_vv X h ym_X12_hasMore yi_X12_hasMore ys_X12_hasMore (fx_s8 (List.mem_of_getElem? (i := 95) rfl) rfl) sh_159 rfl (c_X12_hasMore l G hT) (As := [.int x1, .int x3, .int (-1 : Int32)]) (rest := []) rfl rfl ⟨Nat.le_of_ble_eq_true rfl, Nat.le_of_ble_eq_true rfl⟩ ⟨Nat.le_refl _, Nat.le_refl _⟩ hl.1 (Nat.le_of_ble_eq_true rfl) dX12_give_56 (fun M22 H locs hT h => ?_)
            refine lv_aload_n hx hb dX12_give_59 rfl (lv_at hl 0 rfl) ?_
            refine lv_iload_n hx hb dX12_give_60 rfl (lv_at hl 2 rfl) ?_
            refine lv_iload_n hx hb dX12_give_61 rfl (lv_at hl 3 rfl) ?_
            refine lv_iconst (v := 1) hx hb dX12_give_62 (by decide) ?_
            refine fx_vv X h ym_X12_hasMore yi_X12_hasMore ys_X12_hasMore (fx_s8 (List.mem_of_getElem? (i := 95) rfl) rfl) sh_159 rfl (c_X12_hasMore l G hT) (As := [.int x2, .int x3, .int (1 : Int32)]) (rest := []) rfl rfl ⟨Nat.le_of_ble_eq_true rfl, Nat.le_of_ble_eq_true rfl⟩ ⟨Nat.le_refl _, Nat.le_refl _⟩ hl.1 (Nat.le_of_ble_eq_true rfl) dX12_give_63 (fun M24 H locs hT h => ?_)
            refine lv_aload_n hx hb dX12_give_66 rfl (lv_at hl 0 rfl) ?_
            refine lv_iconst (v := 4) hx hb dX12_give_67 (by decide) ?_
            refine lv_iload_n hx hb dX12_give_68 rfl (lv_at hl 1 rfl) ?_
            refine lv_iload_n hx hb dX12_give_69 rfl (lv_at hl 3 rfl) ?_
            refine fx_vv X h ym_X12_notes yi_X12_notes ys_X12_notes (fx_s8 (List.mem_of_getElem? (i := 83) rfl) rfl) sh_159 rfl (c_X12_notes l G hT) (As := [.int (4 : Int32), .int x1, .int x3]) (rest := []) rfl rfl ⟨Nat.le_of_ble_eq_true rfl, Nat.le_of_ble_eq_true rfl⟩ ⟨Nat.le_refl _, Nat.le_refl _⟩ hl.1 (Nat.le_of_ble_eq_true rfl) dX12_give_70 (fun M26 H locs hT h => ?_)
            refine lv_iconst (v := 1) hx hb dX12_give_73 (by decide) ?_
            exact fx_zret X hr hk h (Or.inr rfl) hT dX12_give_74
          · have hT := hT.1 hc18
            refine lv_iconst (v := 0) hx hb dX12_give_46 (by decide) ?_
            exact fx_zret X hr hk h (Or.inl rfl) hT dX12_give_47
/-! MockParcelsModel.settle(I)I -/
theorem dX12_settle_0 : decode cX12_settle 0 = .ok (.aload_n 0, 1) := by decide +kernel
theorem dX12_settle_1 : decode cX12_settle 1 = .ok (.iconst 0, 1) := by decide +kernel
theorem dX12_settle_2 : decode cX12_settle 2 = .ok (.putfield 134, 3) := by decide +kernel
theorem dX12_settle_5 : decode cX12_settle 5 = .ok (.aload_n 0, 1) := by decide +kernel
theorem dX12_settle_6 : decode cX12_settle 6 = .ok (.iload_n 1, 1) := by decide +kernel
theorem dX12_settle_7 : decode cX12_settle 7 = .ok (.invokevirtual 161, 3) := by decide +kernel
theorem dX12_settle_10 : decode cX12_settle 10 = .ok (.ifCond .eq 15, 3) := by decide +kernel
theorem dX12_settle_13 : decode cX12_settle 13 = .ok (.aload_n 0, 1) := by decide +kernel
theorem dX12_settle_14 : decode cX12_settle 14 = .ok (.getfield 7, 3) := by decide +kernel
theorem dX12_settle_17 : decode cX12_settle 17 = .ok (.bipush 63, 2) := by decide +kernel
theorem dX12_settle_19 : decode cX12_settle 19 = .ok (.iload_n 1, 1) := by decide +kernel
theorem dX12_settle_20 : decode cX12_settle 20 = .ok (.iadd, 1) := by decide +kernel
theorem dX12_settle_21 : decode cX12_settle 21 = .ok (.iaload, 1) := by decide +kernel
theorem dX12_settle_22 : decode cX12_settle 22 = .ok (.ifCond .ne 5, 3) := by decide +kernel
theorem dX12_settle_25 : decode cX12_settle 25 = .ok (.iconst (-1), 1) := by decide +kernel
theorem dX12_settle_26 : decode cX12_settle 26 = .ok (.ireturn, 1) := by decide +kernel
theorem dX12_settle_27 : decode cX12_settle 27 = .ok (.aload_n 0, 1) := by decide +kernel
theorem dX12_settle_28 : decode cX12_settle 28 = .ok (.invokevirtual 387, 3) := by decide +kernel
theorem dX12_settle_31 : decode cX12_settle 31 = .ok (.aload_n 0, 1) := by decide +kernel
theorem dX12_settle_32 : decode cX12_settle 32 = .ok (.aload_n 0, 1) := by decide +kernel
theorem dX12_settle_33 : decode cX12_settle 33 = .ok (.getfield 7, 3) := by decide +kernel
theorem dX12_settle_36 : decode cX12_settle 36 = .ok (.bipush 63, 2) := by decide +kernel
theorem dX12_settle_38 : decode cX12_settle 38 = .ok (.iload_n 1, 1) := by decide +kernel
theorem dX12_settle_39 : decode cX12_settle 39 = .ok (.iadd, 1) := by decide +kernel
theorem dX12_settle_40 : decode cX12_settle 40 = .ok (.iaload, 1) := by decide +kernel
theorem dX12_settle_41 : decode cX12_settle 41 = .ok (.aload_n 0, 1) := by decide +kernel
theorem dX12_settle_42 : decode cX12_settle 42 = .ok (.getfield 7, 3) := by decide +kernel
theorem dX12_settle_45 : decode cX12_settle 45 = .ok (.bipush 55, 2) := by decide +kernel
theorem dX12_settle_47 : decode cX12_settle 47 = .ok (.iload_n 1, 1) := by decide +kernel
theorem dX12_settle_48 : decode cX12_settle 48 = .ok (.iadd, 1) := by decide +kernel
theorem dX12_settle_49 : decode cX12_settle 49 = .ok (.iaload, 1) := by decide +kernel
theorem dX12_settle_50 : decode cX12_settle 50 = .ok (.invokevirtual 393, 3) := by decide +kernel
theorem dX12_settle_53 : decode cX12_settle 53 = .ok (.istore_n 2, 1) := by decide +kernel
theorem dX12_settle_54 : decode cX12_settle 54 = .ok (.aload_n 0, 1) := by decide +kernel
theorem dX12_settle_55 : decode cX12_settle 55 = .ok (.getfield 7, 3) := by decide +kernel
theorem dX12_settle_58 : decode cX12_settle 58 = .ok (.bipush 63, 2) := by decide +kernel
theorem dX12_settle_60 : decode cX12_settle 60 = .ok (.iload_n 1, 1) := by decide +kernel
theorem dX12_settle_61 : decode cX12_settle 61 = .ok (.iadd, 1) := by decide +kernel
theorem dX12_settle_62 : decode cX12_settle 62 = .ok (.aload_n 0, 1) := by decide +kernel
theorem dX12_settle_63 : decode cX12_settle 63 = .ok (.getfield 7, 3) := by decide +kernel
theorem dX12_settle_66 : decode cX12_settle 66 = .ok (.bipush 63, 2) := by decide +kernel
theorem dX12_settle_68 : decode cX12_settle 68 = .ok (.iload_n 1, 1) := by decide +kernel
theorem dX12_settle_69 : decode cX12_settle 69 = .ok (.iadd, 1) := by decide +kernel
theorem dX12_settle_70 : decode cX12_settle 70 = .ok (.iaload, 1) := by decide +kernel
theorem dX12_settle_71 : decode cX12_settle 71 = .ok (.iload_n 2, 1) := by decide +kernel
theorem dX12_settle_72 : decode cX12_settle 72 = .ok (.isub, 1) := by decide +kernel
theorem dX12_settle_73 : decode cX12_settle 73 = .ok (.iastore, 1) := by decide +kernel
theorem dX12_settle_74 : decode cX12_settle 74 = .ok (.aload_n 0, 1) := by decide +kernel
theorem dX12_settle_75 : decode cX12_settle 75 = .ok (.getfield 7, 3) := by decide +kernel
theorem dX12_settle_78 : decode cX12_settle 78 = .ok (.bipush 55, 2) := by decide +kernel
theorem dX12_settle_80 : decode cX12_settle 80 = .ok (.iload_n 1, 1) := by decide +kernel
theorem dX12_settle_81 : decode cX12_settle 81 = .ok (.iadd, 1) := by decide +kernel
theorem dX12_settle_82 : decode cX12_settle 82 = .ok (.aload_n 0, 1) := by decide +kernel
theorem dX12_settle_83 : decode cX12_settle 83 = .ok (.getfield 7, 3) := by decide +kernel
theorem dX12_settle_86 : decode cX12_settle 86 = .ok (.bipush 55, 2) := by decide +kernel
theorem dX12_settle_88 : decode cX12_settle 88 = .ok (.iload_n 1, 1) := by decide +kernel
theorem dX12_settle_89 : decode cX12_settle 89 = .ok (.iadd, 1) := by decide +kernel
theorem dX12_settle_90 : decode cX12_settle 90 = .ok (.iaload, 1) := by decide +kernel
theorem dX12_settle_91 : decode cX12_settle 91 = .ok (.iload_n 2, 1) := by decide +kernel
theorem dX12_settle_92 : decode cX12_settle 92 = .ok (.isub, 1) := by decide +kernel
theorem dX12_settle_93 : decode cX12_settle 93 = .ok (.iastore, 1) := by decide +kernel
theorem dX12_settle_94 : decode cX12_settle 94 = .ok (.aload_n 0, 1) := by decide +kernel
theorem dX12_settle_95 : decode cX12_settle 95 = .ok (.getfield 7, 3) := by decide +kernel
theorem dX12_settle_98 : decode cX12_settle 98 = .ok (.iconst 3, 1) := by decide +kernel
theorem dX12_settle_99 : decode cX12_settle 99 = .ok (.aload_n 0, 1) := by decide +kernel
theorem dX12_settle_100 : decode cX12_settle 100 = .ok (.getfield 7, 3) := by decide +kernel
theorem dX12_settle_103 : decode cX12_settle 103 = .ok (.iconst 3, 1) := by decide +kernel
theorem dX12_settle_104 : decode cX12_settle 104 = .ok (.iaload, 1) := by decide +kernel
theorem dX12_settle_105 : decode cX12_settle 105 = .ok (.iload_n 2, 1) := by decide +kernel
theorem dX12_settle_106 : decode cX12_settle 106 = .ok (.iadd, 1) := by decide +kernel
theorem dX12_settle_107 : decode cX12_settle 107 = .ok (.iastore, 1) := by decide +kernel
theorem dX12_settle_108 : decode cX12_settle 108 = .ok (.aload_n 0, 1) := by decide +kernel
theorem dX12_settle_109 : decode cX12_settle 109 = .ok (.iconst 5, 1) := by decide +kernel
theorem dX12_settle_110 : decode cX12_settle 110 = .ok (.iload_n 1, 1) := by decide +kernel
theorem dX12_settle_111 : decode cX12_settle 111 = .ok (.iload_n 2, 1) := by decide +kernel
theorem dX12_settle_112 : decode cX12_settle 112 = .ok (.invokevirtual 365, 3) := by decide +kernel
theorem dX12_settle_115 : decode cX12_settle 115 = .ok (.iload_n 2, 1) := by decide +kernel
theorem dX12_settle_116 : decode cX12_settle 116 = .ok (.ireturn, 1) := by decide +kernel
def T_X12_settle (x1 : Int32) (M : Mm) (K : Int32 → Mm → Prop) : Prop := (∀ M1 : Mm, M1 = m_up M 159 0 (0 : Int32) → (T_X12_isBidder x1 M1 (fun r4 M3 => ((r4 = 0 → (K (-1 : Int32) M3)) ∧ (¬ r4 = 0 → (vp_in ((63 : Int32) + x1) 135 ∧ (((M3 160 (((63 : Int32) + x1)).toNatClampNeg) = 0 → (K (-1 : Int32) M3)) ∧ (¬ (M3 160 (((63 : Int32) + x1)).toNatClampNeg) = 0 → (T_X12_keepsAhead M3 (fun M9 => (vp_in ((63 : Int32) + x1) 135 ∧ (vp_in ((55 : Int32) + x1) 135 ∧ (T_X12_lesser (M9 160 (((63 : Int32) + x1)).toNatClampNeg) (M9 160 (((55 : Int32) + x1)).toNatClampNeg) M9 (fun r14 M13 => (vp_in ((63 : Int32) + x1) 135 ∧ (vp_in ((63 : Int32) + x1) 135 ∧ (∀ M16 : Mm, M16 = m_up M13 160 (((63 : Int32) + x1)).toNatClampNeg ((M13 160 (((63 : Int32) + x1)).toNatClampNeg) - r14) → (vp_in ((55 : Int32) + x1) 135 ∧ (vp_in ((55 : Int32) + x1) 135 ∧ (∀ M19 : Mm, M19 = m_up M16 160 (((55 : Int32) + x1)).toNatClampNeg ((M16 160 (((55 : Int32) + x1)).toNatClampNeg) - r14) → (∀ M21 : Mm, M21 = m_up M19 160 3 ((M19 160 3) + r14) → (T_X12_notes (5 : Int32) x1 r14 M21 (fun M23 => (K r14 M23))))))))))))))))))))))))
set_option maxHeartbeats 4000000 in
set_option maxRecDepth 100000 in
theorem c_X12_settle (l : Launch) (G : fx_G) {x1 : Int32} {M : Mm} {K : Int32 → Mm → Prop} (hT : T_X12_settle x1 M K) : Met l yX12_settle (fx_ws yX12_settle cX12_settle 3 (some .int)) (fx_rm (1)) (va_Pc [.ref (G.2.2.2 + 159), .int x1] (fx_P G SH M)) (va_Qi K (fx_R G SH) (fx_A G)) 0 0 (fx_A G) := by
  refine fx_met (own := RX12) (by decide +kernel) rfl (Nat.le_of_ble_eq_true rfl) (fun p e s m below meth c X hr hk h ls hl => ?_)
  obtain ⟨⟨hx, hb, hml, hown, hts⟩, hK, hQ⟩ := id X
  have hl : lv_has ls 3 [(0, .ref (G.2.2.2 + 159)), (1, .int x1)] := hl
  unfold T_X12_settle at hT
  refine lv_aload_n hx hb dX12_settle_0 rfl (lv_at hl 0 rfl) ?_
  refine lv_iconst (v := 0) hx hb dX12_settle_1 (by decide) ?_
  refine fx_putI X h (k := 159) (j := 0) sh_159 rfl fl_RX12_134 dX12_settle_2 (fun H locs h => ?_)
  obtain ⟨M1, eM1⟩ : ∃ z : Mm, z = m_up M 159 0 (0 : Int32) := ⟨_, rfl⟩
  have hT := hT M1 eM1
  rw [← eM1] at h
  refine lv_aload_n hx hb dX12_settle_5 rfl (lv_at hl 0 rfl) ?_
  refine lv_iload_n hx hb dX12_settle_6 rfl (lv_at hl 1 rfl) ?_
  refine fx_vi X h ym_X12_isBidder yi_X12_isBidder ys_X12_isBidder (fx_s7 (List.mem_of_getElem? (i := 93) rfl) rfl) sh_159 rfl (c_X12_isBidder l G hT) (As := [.int x1]) (rest := []) rfl rfl ⟨Nat.le_of_ble_eq_true rfl, Nat.le_of_ble_eq_true rfl⟩ ⟨Nat.le_refl _, Nat.le_refl _⟩ hl.1 (Nat.le_of_ble_eq_true rfl) dX12_settle_7 (fun r4 M3 H locs hT h => ?_)
  refine lv_if_eq (tgt := 25) hx hb dX12_settle_10 (by decide) (fun hc5 => ?_) (fun hc5 => ?_)
  · have hT := hT.1 hc5
    refine lv_iconst (v := -1) hx hb dX12_settle_25 (by decide) ?_
    exact fx_iret X hr hk h hT dX12_settle_26
  · have hT := hT.2 hc5
    refine lv_aload_n hx hb dX12_settle_13 rfl (lv_at hl 0 rfl) ?_
    refine fx_getR X h (k := 159) (j := 1) (r := 160) sh_159 rfl fl_RX12_7 dX12_settle_14 ?_
    refine lv_bipush (v := 63) hx hb dX12_settle_17 (by decide) ?_
    refine lv_iload_n hx hb dX12_settle_19 rfl (lv_at hl 1 rfl) ?_
    refine lv_iadd hx hb dX12_settle_20 ?_
    obtain ⟨hi6, hT⟩ := hT
    refine fx_iald X h (k := 160) sh_160 hi6 dX12_settle_21 ?_
    refine lv_if_ne (tgt := 27) hx hb dX12_settle_22 (by decide) (fun hc7 => ?_) (fun hc7 => ?_)
    · have hT := hT.2 hc7
      refine lv_aload_n hx hb dX12_settle_27 rfl (lv_at hl 0 rfl) ?_
      refine fx_vv X h ym_X12_keepsAhead yi_X12_keepsAhead ys_X12_keepsAhead (fx_s8 (List.mem_of_getElem? (i := 21) rfl) rfl) sh_159 rfl (c_X12_keepsAhead l G hT) (As := []) (rest := []) rfl rfl ⟨Nat.le_of_ble_eq_true rfl, Nat.le_of_ble_eq_true rfl⟩ ⟨Nat.le_refl _, Nat.le_refl _⟩ hl.1 (Nat.le_of_ble_eq_true rfl) dX12_settle_28 (fun M9 H locs hT h => ?_)
      refine lv_aload_n hx hb dX12_settle_31 rfl (lv_at hl 0 rfl) ?_
      refine lv_aload_n hx hb dX12_settle_32 rfl (lv_at hl 0 rfl) ?_
      refine fx_getR X h (k := 159) (j := 1) (r := 160) sh_159 rfl fl_RX12_7 dX12_settle_33 ?_
      refine lv_bipush (v := 63) hx hb dX12_settle_36 (by decide) ?_
      refine lv_iload_n hx hb dX12_settle_38 rfl (lv_at hl 1 rfl) ?_
      refine lv_iadd hx hb dX12_settle_39 ?_
      obtain ⟨hi10, hT⟩ := hT
      refine fx_iald X h (k := 160) sh_160 hi10 dX12_settle_40 ?_
      refine lv_aload_n hx hb dX12_settle_41 rfl (lv_at hl 0 rfl) ?_
      refine fx_getR X h (k := 159) (j := 1) (r := 160) sh_159 rfl fl_RX12_7 dX12_settle_42 ?_
      refine lv_bipush (v := 55) hx hb dX12_settle_45 (by decide) ?_
      refine lv_iload_n hx hb dX12_settle_47 rfl (lv_at hl 1 rfl) ?_
      refine lv_iadd hx hb dX12_settle_48 ?_
      obtain ⟨hi11, hT⟩ := hT
      refine fx_iald X h (k := 160) sh_160 hi11 dX12_settle_49 ?_
      refine fx_vi X h ym_X12_lesser yi_X12_lesser ys_X12_lesser (fx_s8 (List.mem_of_getElem? (i := 107) rfl) rfl) sh_159 rfl (c_X12_lesser l G hT) (As := [.int (M9 160 (((63 : Int32) + x1)).toNatClampNeg), .int (M9 160 (((55 : Int32) + x1)).toNatClampNeg)]) (rest := []) rfl rfl ⟨Nat.le_of_ble_eq_true rfl, Nat.le_of_ble_eq_true rfl⟩ ⟨Nat.le_refl _, Nat.le_refl _⟩ hl.1 (Nat.le_of_ble_eq_true rfl) dX12_settle_50 (fun r14 M13 H locs hT h => ?_)
      refine lv_istore_n (lv' := [(2, .int r14), (0, .ref (G.2.2.2 + 159)), (1, .int x1)]) hx hb dX12_settle_53 rfl hl (by decide) rfl (fun ls hl => ?_)
      refine lv_aload_n hx hb dX12_settle_54 rfl (lv_at hl 1 rfl) ?_
      refine fx_getR X h (k := 159) (j := 1) (r := 160) sh_159 rfl fl_RX12_7 dX12_settle_55 ?_
      refine lv_bipush (v := 63) hx hb dX12_settle_58 (by decide) ?_
      refine lv_iload_n hx hb dX12_settle_60 rfl (lv_at hl 2 rfl) ?_
      refine lv_iadd hx hb dX12_settle_61 ?_
      refine lv_aload_n hx hb dX12_settle_62 rfl (lv_at hl 1 rfl) ?_
      refine fx_getR X h (k := 159) (j := 1) (r := 160) sh_159 rfl fl_RX12_7 dX12_settle_63 ?_
      refine lv_bipush (v := 63) hx hb dX12_settle_66 (by decide) ?_
      refine lv_iload_n hx hb dX12_settle_68 rfl (lv_at hl 2 rfl) ?_
      refine lv_iadd hx hb dX12_settle_69 ?_
      obtain ⟨hi15, hT⟩ := hT
      refine fx_iald X h (k := 160) sh_160 hi15 dX12_settle_70 ?_
      refine lv_iload_n hx hb dX12_settle_71 rfl (lv_at hl 0 rfl) ?_
      refine lv_isub hx hb dX12_settle_72 ?_
      obtain ⟨hi17, hT⟩ := hT
      refine fx_iast X h (k := 160) sh_160 hi17 dX12_settle_73 (fun H locs h => ?_)
      obtain ⟨M16, eM16⟩ : ∃ z : Mm, z = m_up M13 160 (((63 : Int32) + x1)).toNatClampNeg ((M13 160 (((63 : Int32) + x1)).toNatClampNeg) - r14) := ⟨_, rfl⟩
      have hT := hT M16 eM16
      rw [← eM16] at h
      refine lv_aload_n hx hb dX12_settle_74 rfl (lv_at hl 1 rfl) ?_
      refine fx_getR X h (k := 159) (j := 1) (r := 160) sh_159 rfl fl_RX12_7 dX12_settle_75 ?_
      refine lv_bipush (v := 55) hx hb dX12_settle_78 (by decide) ?_
      refine lv_iload_n hx hb dX12_settle_80 rfl (lv_at hl 2 rfl) ?_
      refine lv_iadd hx hb dX12_settle_81 ?_
      refine lv_aload_n hx hb dX12_settle_82 rfl (lv_at hl 1 rfl) ?_
      refine fx_getR X h (k := 159) (j := 1) (r := 160) sh_159 rfl fl_RX12_7 dX12_settle_83 ?_
      refine lv_bipush (v := 55) hx hb dX12_settle_86 (by decide) ?_
      refine lv_iload_n hx hb dX12_settle_88 rfl (lv_at hl 2 rfl) ?_
      refine lv_iadd hx hb dX12_settle_89 ?_
      obtain ⟨hi18, hT⟩ := hT
      refine fx_iald X h (k := 160) sh_160 hi18 dX12_settle_90 ?_
      refine lv_iload_n hx hb dX12_settle_91 rfl (lv_at hl 0 rfl) ?_
      refine lv_isub hx hb dX12_settle_92 ?_
      obtain ⟨hi20, hT⟩ := hT
      refine fx_iast X h (k := 160) sh_160 hi20 dX12_settle_93 (fun H locs h => ?_)
      obtain ⟨M19, eM19⟩ : ∃ z : Mm, z = m_up M16 160 (((55 : Int32) + x1)).toNatClampNeg ((M16 160 (((55 : Int32) + x1)).toNatClampNeg) - r14) := ⟨_, rfl⟩
      have hT := hT M19 eM19
      rw [← eM19] at h
      refine lv_aload_n hx hb dX12_settle_94 rfl (lv_at hl 1 rfl) ?_
      refine fx_getR X h (k := 159) (j := 1) (r := 160) sh_159 rfl fl_RX12_7 dX12_settle_95 ?_
      refine lv_iconst (v := 3) hx hb dX12_settle_98 (by decide) ?_
      refine lv_aload_n hx hb dX12_settle_99 rfl (lv_at hl 1 rfl) ?_
      refine fx_getR X h (k := 159) (j := 1) (r := 160) sh_159 rfl fl_RX12_7 dX12_settle_100 ?_
      refine lv_iconst (v := 3) hx hb dX12_settle_103 (by decide) ?_
      refine fx_iald X h (k := 160) sh_160 (by unfold vp_in; decide) dX12_settle_104 ?_
      rw [show ((3 : Int32)).toNatClampNeg = 3 by decide]
      refine lv_iload_n hx hb dX12_settle_105 rfl (lv_at hl 0 rfl) ?_
      refine lv_iadd hx hb dX12_settle_106 ?_
      refine fx_iast X h (k := 160) sh_160 (by unfold vp_in; decide) dX12_settle_107 (fun H locs h => ?_)
      rw [show ((3 : Int32)).toNatClampNeg = 3 by decide] at h
      obtain ⟨M21, eM21⟩ : ∃ z : Mm, z = m_up M19 160 3 ((M19 160 3) + r14) := ⟨_, rfl⟩
      have hT := hT M21 eM21
      rw [← eM21] at h
      refine lv_aload_n hx hb dX12_settle_108 rfl (lv_at hl 1 rfl) ?_
      refine lv_iconst (v := 5) hx hb dX12_settle_109 (by decide) ?_
      refine lv_iload_n hx hb dX12_settle_110 rfl (lv_at hl 2 rfl) ?_
      refine lv_iload_n hx hb dX12_settle_111 rfl (lv_at hl 0 rfl) ?_
      refine fx_vv X h ym_X12_notes yi_X12_notes ys_X12_notes (fx_s8 (List.mem_of_getElem? (i := 83) rfl) rfl) sh_159 rfl (c_X12_notes l G hT) (As := [.int (5 : Int32), .int x1, .int r14]) (rest := []) rfl rfl ⟨Nat.le_of_ble_eq_true rfl, Nat.le_of_ble_eq_true rfl⟩ ⟨Nat.le_refl _, Nat.le_refl _⟩ hl.1 (Nat.le_of_ble_eq_true rfl) dX12_settle_112 (fun M23 H locs hT h => ?_)
      refine lv_iload_n hx hb dX12_settle_115 rfl (lv_at hl 0 rfl) ?_
      exact fx_iret X hr hk h hT dX12_settle_116
    · have hT := hT.1 hc7
      refine lv_iconst (v := -1) hx hb dX12_settle_25 (by decide) ?_
      exact fx_iret X hr hk h hT dX12_settle_26
/-! MockParcelsModel.policeTake()V -/
theorem dX12_policeTake_0 : decode cX12_policeTake 0 = .ok (.iconst (-1), 1) := by decide +kernel
theorem dX12_policeTake_1 : decode cX12_policeTake 1 = .ok (.istore_n 1, 1) := by decide +kernel
theorem dX12_policeTake_2 : decode cX12_policeTake 2 = .ok (.iconst 0, 1) := by decide +kernel
theorem dX12_policeTake_3 : decode cX12_policeTake 3 = .ok (.istore_n 2, 1) := by decide +kernel
theorem dX12_policeTake_4 : decode cX12_policeTake 4 = .ok (.iload_n 2, 1) := by decide +kernel
theorem dX12_policeTake_5 : decode cX12_policeTake 5 = .ok (.aload_n 0, 1) := by decide +kernel
theorem dX12_policeTake_6 : decode cX12_policeTake 6 = .ok (.getfield 150, 3) := by decide +kernel
theorem dX12_policeTake_9 : decode cX12_policeTake 9 = .ok (.if_icmp .ge 46, 3) := by decide +kernel
theorem dX12_policeTake_12 : decode cX12_policeTake 12 = .ok (.aload_n 0, 1) := by decide +kernel
theorem dX12_policeTake_13 : decode cX12_policeTake 13 = .ok (.getfield 31, 3) := by decide +kernel
theorem dX12_policeTake_16 : decode cX12_policeTake 16 = .ok (.iload_n 2, 1) := by decide +kernel
theorem dX12_policeTake_17 : decode cX12_policeTake 17 = .ok (.iaload, 1) := by decide +kernel
theorem dX12_policeTake_18 : decode cX12_policeTake 18 = .ok (.ifCond .ne 31, 3) := by decide +kernel
theorem dX12_policeTake_21 : decode cX12_policeTake 21 = .ok (.aload_n 0, 1) := by decide +kernel
theorem dX12_policeTake_22 : decode cX12_policeTake 22 = .ok (.iload_n 2, 1) := by decide +kernel
theorem dX12_policeTake_23 : decode cX12_policeTake 23 = .ok (.invokevirtual 333, 3) := by decide +kernel
theorem dX12_policeTake_26 : decode cX12_policeTake 26 = .ok (.ifCond .le 23, 3) := by decide +kernel
theorem dX12_policeTake_29 : decode cX12_policeTake 29 = .ok (.iload_n 1, 1) := by decide +kernel
theorem dX12_policeTake_30 : decode cX12_policeTake 30 = .ok (.iconst (-1), 1) := by decide +kernel
theorem dX12_policeTake_31 : decode cX12_policeTake 31 = .ok (.if_icmp .eq 16, 3) := by decide +kernel
theorem dX12_policeTake_34 : decode cX12_policeTake 34 = .ok (.aload_n 0, 1) := by decide +kernel
theorem dX12_policeTake_35 : decode cX12_policeTake 35 = .ok (.iload_n 2, 1) := by decide +kernel
theorem dX12_policeTake_36 : decode cX12_policeTake 36 = .ok (.invokevirtual 333, 3) := by decide +kernel
theorem dX12_policeTake_39 : decode cX12_policeTake 39 = .ok (.aload_n 0, 1) := by decide +kernel
theorem dX12_policeTake_40 : decode cX12_policeTake 40 = .ok (.iload_n 1, 1) := by decide +kernel
theorem dX12_policeTake_41 : decode cX12_policeTake 41 = .ok (.invokevirtual 333, 3) := by decide +kernel
theorem dX12_policeTake_44 : decode cX12_policeTake 44 = .ok (.if_icmp .le 5, 3) := by decide +kernel
theorem dX12_policeTake_47 : decode cX12_policeTake 47 = .ok (.iload_n 2, 1) := by decide +kernel
theorem dX12_policeTake_48 : decode cX12_policeTake 48 = .ok (.istore_n 1, 1) := by decide +kernel
theorem dX12_policeTake_49 : decode cX12_policeTake 49 = .ok (.iinc 2 1, 3) := by decide +kernel
theorem dX12_policeTake_52 : decode cX12_policeTake 52 = .ok (.goto (-48), 3) := by decide +kernel
theorem dX12_policeTake_55 : decode cX12_policeTake 55 = .ok (.iload_n 1, 1) := by decide +kernel
theorem dX12_policeTake_56 : decode cX12_policeTake 56 = .ok (.iconst (-1), 1) := by decide +kernel
theorem dX12_policeTake_57 : decode cX12_policeTake 57 = .ok (.if_icmp .ne 4, 3) := by decide +kernel
theorem dX12_policeTake_60 : decode cX12_policeTake 60 = .ok (.return_, 1) := by decide +kernel
theorem dX12_policeTake_61 : decode cX12_policeTake 61 = .ok (.iconst 1, 1) := by decide +kernel
theorem dX12_policeTake_62 : decode cX12_policeTake 62 = .ok (.istore_n 2, 1) := by decide +kernel
theorem dX12_policeTake_63 : decode cX12_policeTake 63 = .ok (.aload_n 0, 1) := by decide +kernel
theorem dX12_policeTake_64 : decode cX12_policeTake 64 = .ok (.iload_n 1, 1) := by decide +kernel
theorem dX12_policeTake_65 : decode cX12_policeTake 65 = .ok (.iload_n 2, 1) := by decide +kernel
theorem dX12_policeTake_66 : decode cX12_policeTake 66 = .ok (.invokevirtual 153, 3) := by decide +kernel
theorem dX12_policeTake_69 : decode cX12_policeTake 69 = .ok (.ifCond .ne 10, 3) := by decide +kernel
theorem dX12_policeTake_72 : decode cX12_policeTake 72 = .ok (.iload_n 2, 1) := by decide +kernel
theorem dX12_policeTake_73 : decode cX12_policeTake 73 = .ok (.iconst 1, 1) := by decide +kernel
theorem dX12_policeTake_74 : decode cX12_policeTake 74 = .ok (.iadd, 1) := by decide +kernel
theorem dX12_policeTake_75 : decode cX12_policeTake 75 = .ok (.istore_n 2, 1) := by decide +kernel
theorem dX12_policeTake_76 : decode cX12_policeTake 76 = .ok (.goto (-13), 3) := by decide +kernel
theorem dX12_policeTake_79 : decode cX12_policeTake 79 = .ok (.aload_n 0, 1) := by decide +kernel
theorem dX12_policeTake_80 : decode cX12_policeTake 80 = .ok (.iload_n 1, 1) := by decide +kernel
theorem dX12_policeTake_81 : decode cX12_policeTake 81 = .ok (.iload_n 2, 1) := by decide +kernel
theorem dX12_policeTake_82 : decode cX12_policeTake 82 = .ok (.iconst (-1), 1) := by decide +kernel
theorem dX12_policeTake_83 : decode cX12_policeTake 83 = .ok (.invokevirtual 384, 3) := by decide +kernel
theorem dX12_policeTake_86 : decode cX12_policeTake 86 = .ok (.aload_n 0, 1) := by decide +kernel
theorem dX12_policeTake_87 : decode cX12_policeTake 87 = .ok (.getfield 7, 3) := by decide +kernel
theorem dX12_policeTake_90 : decode cX12_policeTake 90 = .ok (.bipush 6, 2) := by decide +kernel
theorem dX12_policeTake_92 : decode cX12_policeTake 92 = .ok (.aload_n 0, 1) := by decide +kernel
theorem dX12_policeTake_93 : decode cX12_policeTake 93 = .ok (.getfield 7, 3) := by decide +kernel
theorem dX12_policeTake_96 : decode cX12_policeTake 96 = .ok (.bipush 6, 2) := by decide +kernel
theorem dX12_policeTake_98 : decode cX12_policeTake 98 = .ok (.iaload, 1) := by decide +kernel
theorem dX12_policeTake_99 : decode cX12_policeTake 99 = .ok (.iconst 1, 1) := by decide +kernel
theorem dX12_policeTake_100 : decode cX12_policeTake 100 = .ok (.iadd, 1) := by decide +kernel
theorem dX12_policeTake_101 : decode cX12_policeTake 101 = .ok (.iastore, 1) := by decide +kernel
theorem dX12_policeTake_102 : decode cX12_policeTake 102 = .ok (.aload_n 0, 1) := by decide +kernel
theorem dX12_policeTake_103 : decode cX12_policeTake 103 = .ok (.iconst 3, 1) := by decide +kernel
theorem dX12_policeTake_104 : decode cX12_policeTake 104 = .ok (.iload_n 1, 1) := by decide +kernel
theorem dX12_policeTake_105 : decode cX12_policeTake 105 = .ok (.iload_n 2, 1) := by decide +kernel
theorem dX12_policeTake_106 : decode cX12_policeTake 106 = .ok (.invokevirtual 365, 3) := by decide +kernel
theorem dX12_policeTake_109 : decode cX12_policeTake 109 = .ok (.return_, 1) := by decide +kernel
def T_X12_policeTake_63 : Nat → Int32 → Int32 → Mm → (Mm → Prop) → Prop
  | 0, _, _, _, _ => False
  | n + 1, x1, x2, M, K => (T_X12_hasOf x1 x2 M (fun r3 M2 => ((r3 = 0 → (∀ y10 : Int32, y10 = (x2 + (1 : Int32)) → (T_X12_policeTake_63 n x1 y10 M2 K))) ∧ (¬ r3 = 0 → (T_X12_hasMore x1 x2 (-1 : Int32) M2 (fun M6 => (∀ M7 : Mm, M7 = m_up M6 160 6 ((M6 160 6) + (1 : Int32)) → (T_X12_notes (3 : Int32) x1 x2 M7 (fun M9 => (K M9))))))))))
set_option maxHeartbeats 4000000 in
set_option maxRecDepth 100000 in
theorem w_X12_policeTake_63 {p : Program} {l : Launch} {e : Env} {s : State} {m : MethodId} {args : Array Value} {below : List Frame} {meth : Method} {c : Code} {G : fx_G} {K : Mm → Prop} (X : fx_C G p s m c args cX12_policeTake 3 RX12) (hr : meth.sig.returnType = none) (hk : meth.locks = false) : ∀ (n : Nat) (x1 : Int32) (x2 : Int32) (M : Mm) (H : Heap) (locs : List Loc) (ls : Array Slot), T_X12_policeTake_63 n x1 x2 M K → fx_H G SH M s H locs → lv_has ls 3 [(0, .ref (G.2.2.2 + 159)), (1, .int x1), (2, .int x2)] → W p l e (fx_rm (2)) s m args below meth c H locs 0 0 (MQ below (va_Qv K (fx_R G SH) (fx_A G)) args s 0 0 (fx_A G)) (F0 m 63 ls []) := by
  obtain ⟨⟨hx, hb, hml, hown, hts⟩, hK, hQ⟩ := id X
  intro n
  induction n with
  | zero =>
    intro x1 x2 M H locs ls hT
    exact hT.elim
  | succ n ih =>
    intro x1 x2 M H locs ls hT h hl
    rw [T_X12_policeTake_63] at hT
    refine lv_aload_n hx hb dX12_policeTake_63 rfl (lv_at hl 0 rfl) ?_
    refine lv_iload_n hx hb dX12_policeTake_64 rfl (lv_at hl 1 rfl) ?_
    refine lv_iload_n hx hb dX12_policeTake_65 rfl (lv_at hl 2 rfl) ?_
    refine fx_vi X h ym_X12_hasOf yi_X12_hasOf ys_X12_hasOf (fx_s8 (List.mem_of_getElem? (i := 49) rfl) rfl) sh_159 rfl (c_X12_hasOf l G hT) (As := [.int x1, .int x2]) (rest := []) rfl rfl ⟨Nat.le_of_ble_eq_true rfl, Nat.le_of_ble_eq_true rfl⟩ ⟨Nat.le_refl _, Nat.le_refl _⟩ hl.1 (Nat.le_of_ble_eq_true rfl) dX12_policeTake_66 (fun r3 M2 H locs hT h => ?_)
    refine lv_if_ne (tgt := 79) hx hb dX12_policeTake_69 (by decide) (fun hc4 => ?_) (fun hc4 => ?_)
    · have hT := hT.2 hc4
      refine lv_aload_n hx hb dX12_policeTake_79 rfl (lv_at hl 0 rfl) ?_
      refine lv_iload_n hx hb dX12_policeTake_80 rfl (lv_at hl 1 rfl) ?_
      refine lv_iload_n hx hb dX12_policeTake_81 rfl (lv_at hl 2 rfl) ?_
      refine lv_iconst (v := -1) hx hb dX12_policeTake_82 (by decide) ?_
      refine fx_vv X h ym_X12_hasMore yi_X12_hasMore ys_X12_hasMore (fx_s8 (List.mem_of_getElem? (i := 95) rfl) rfl) sh_159 rfl (c_X12_hasMore l G hT) (As := [.int x1, .int x2, .int (-1 : Int32)]) (rest := []) rfl rfl ⟨Nat.le_of_ble_eq_true rfl, Nat.le_of_ble_eq_true rfl⟩ ⟨Nat.le_refl _, Nat.le_refl _⟩ hl.1 (Nat.le_of_ble_eq_true rfl) dX12_policeTake_83 (fun M6 H locs hT h => ?_)
      refine lv_aload_n hx hb dX12_policeTake_86 rfl (lv_at hl 0 rfl) ?_
      refine fx_getR X h (k := 159) (j := 1) (r := 160) sh_159 rfl fl_RX12_7 dX12_policeTake_87 ?_
      refine lv_bipush (v := 6) hx hb dX12_policeTake_90 (by decide) ?_
      refine lv_aload_n hx hb dX12_policeTake_92 rfl (lv_at hl 0 rfl) ?_
      refine fx_getR X h (k := 159) (j := 1) (r := 160) sh_159 rfl fl_RX12_7 dX12_policeTake_93 ?_
      refine lv_bipush (v := 6) hx hb dX12_policeTake_96 (by decide) ?_
      refine fx_iald X h (k := 160) sh_160 (by unfold vp_in; decide) dX12_policeTake_98 ?_
      rw [show ((6 : Int32)).toNatClampNeg = 6 by decide]
      refine lv_iconst (v := 1) hx hb dX12_policeTake_99 (by decide) ?_
      refine lv_iadd hx hb dX12_policeTake_100 ?_
      refine fx_iast X h (k := 160) sh_160 (by unfold vp_in; decide) dX12_policeTake_101 (fun H locs h => ?_)
      rw [show ((6 : Int32)).toNatClampNeg = 6 by decide] at h
      obtain ⟨M7, eM7⟩ : ∃ z : Mm, z = m_up M6 160 6 ((M6 160 6) + (1 : Int32)) := ⟨_, rfl⟩
      have hT := hT M7 eM7
      rw [← eM7] at h
      refine lv_aload_n hx hb dX12_policeTake_102 rfl (lv_at hl 0 rfl) ?_
      refine lv_iconst (v := 3) hx hb dX12_policeTake_103 (by decide) ?_
      refine lv_iload_n hx hb dX12_policeTake_104 rfl (lv_at hl 1 rfl) ?_
      refine lv_iload_n hx hb dX12_policeTake_105 rfl (lv_at hl 2 rfl) ?_
      refine fx_vv X h ym_X12_notes yi_X12_notes ys_X12_notes (fx_s8 (List.mem_of_getElem? (i := 83) rfl) rfl) sh_159 rfl (c_X12_notes l G hT) (As := [.int (3 : Int32), .int x1, .int x2]) (rest := []) rfl rfl ⟨Nat.le_of_ble_eq_true rfl, Nat.le_of_ble_eq_true rfl⟩ ⟨Nat.le_refl _, Nat.le_refl _⟩ hl.1 (Nat.le_of_ble_eq_true rfl) dX12_policeTake_106 (fun M9 H locs hT h => ?_)
      exact fx_vret X hr hk h hT dX12_policeTake_109
    · have hT := hT.1 hc4
      refine lv_iload_n hx hb dX12_policeTake_72 rfl (lv_at hl 2 rfl) ?_
      refine lv_iconst (v := 1) hx hb dX12_policeTake_73 (by decide) ?_
      refine lv_iadd hx hb dX12_policeTake_74 ?_
      refine lv_topi (fun y10 ey10 => ?_)
      have hT := hT y10 ey10
      refine lv_istore_n (lv' := [(2, .int y10), (0, .ref (G.2.2.2 + 159)), (1, .int x1)]) hx hb dX12_policeTake_75 rfl hl (by decide) rfl (fun ls hl => ?_)
      refine lv_goto (tgt := 63) hx hb dX12_policeTake_76 (by decide) ?_
      exact ih x1 y10 M2 _ _ ls hT h (lv_sub hl [1, 2, 0] rfl)
def T_X12_policeTake_49 (B4 : Int32 → Int32 → Mm → Prop) (x1 : Int32) (x2 : Int32) (M : Mm) (K : Mm → Prop) : Prop := (∀ y11 : Int32, y11 = x2 + (1 : Int32) → (B4 x1 y11 M))
set_option maxHeartbeats 4000000 in
set_option maxRecDepth 100000 in
theorem w_X12_policeTake_49 {p : Program} {l : Launch} {e : Env} {s : State} {m : MethodId} {args : Array Value} {below : List Frame} {meth : Method} {c : Code} {G : fx_G} {K : Mm → Prop} {B4 : Int32 → Int32 → Mm → Prop} (X : fx_C G p s m c args cX12_policeTake 3 RX12) (hr : meth.sig.returnType = none) (hk : meth.locks = false) (hB4 : ∀ (x1 : Int32) (x2 : Int32) (M : Mm) (H : Heap) (locs : List Loc) (ls : Array Slot), B4 x1 x2 M → fx_H G SH M s H locs → lv_has ls 3 [(0, .ref (G.2.2.2 + 159)), (1, .int x1), (2, .int x2)] → W p l e (fx_rm (2)) s m args below meth c H locs 0 0 (MQ below (va_Qv K (fx_R G SH) (fx_A G)) args s 0 0 (fx_A G)) (F0 m 4 ls [])) : ∀ (x1 : Int32) (x2 : Int32) (M : Mm) (H : Heap) (locs : List Loc) (ls : Array Slot), T_X12_policeTake_49 B4 x1 x2 M K → fx_H G SH M s H locs → lv_has ls 3 [(0, .ref (G.2.2.2 + 159)), (1, .int x1), (2, .int x2)] → W p l e (fx_rm (2)) s m args below meth c H locs 0 0 (MQ below (va_Qv K (fx_R G SH) (fx_A G)) args s 0 0 (fx_A G)) (F0 m 49 ls []) := by
  obtain ⟨⟨hx, hb, hml, hown, hts⟩, hK, hQ⟩ := id X
  intro x1 x2 M H locs ls hT h hl
  unfold T_X12_policeTake_49 at hT
  obtain ⟨y11, ey11⟩ : ∃ z : Int32, z = x2 + (1 : Int32) := ⟨_, rfl⟩
  have hT := hT y11 ey11
  refine lv_iinc (v := y11) (lv' := [(2, .int y11), (0, .ref (G.2.2.2 + 159)), (1, .int x1)]) hx hb dX12_policeTake_49 hl (k := 2) rfl (by rw [ey11]; rfl) (by decide) rfl (fun ls hl => ?_)
  refine lv_goto (tgt := 4) hx hb dX12_policeTake_52 (by decide) ?_
  exact hB4 x1 y11 M _ _ ls hT h (lv_sub hl [1, 2, 0] rfl)
def T_X12_policeTake_47 (B4 : Int32 → Int32 → Mm → Prop) (x2 : Int32) (M : Mm) (K : Mm → Prop) : Prop := (T_X12_policeTake_49 B4 x2 x2 M K)
set_option maxHeartbeats 4000000 in
set_option maxRecDepth 100000 in
theorem w_X12_policeTake_47 {p : Program} {l : Launch} {e : Env} {s : State} {m : MethodId} {args : Array Value} {below : List Frame} {meth : Method} {c : Code} {G : fx_G} {K : Mm → Prop} {B4 : Int32 → Int32 → Mm → Prop} (X : fx_C G p s m c args cX12_policeTake 3 RX12) (hr : meth.sig.returnType = none) (hk : meth.locks = false) (hB4 : ∀ (x1 : Int32) (x2 : Int32) (M : Mm) (H : Heap) (locs : List Loc) (ls : Array Slot), B4 x1 x2 M → fx_H G SH M s H locs → lv_has ls 3 [(0, .ref (G.2.2.2 + 159)), (1, .int x1), (2, .int x2)] → W p l e (fx_rm (2)) s m args below meth c H locs 0 0 (MQ below (va_Qv K (fx_R G SH) (fx_A G)) args s 0 0 (fx_A G)) (F0 m 4 ls [])) : ∀ (x2 : Int32) (M : Mm) (H : Heap) (locs : List Loc) (ls : Array Slot), T_X12_policeTake_47 B4 x2 M K → fx_H G SH M s H locs → lv_has ls 3 [(0, .ref (G.2.2.2 + 159)), (2, .int x2)] → W p l e (fx_rm (2)) s m args below meth c H locs 0 0 (MQ below (va_Qv K (fx_R G SH) (fx_A G)) args s 0 0 (fx_A G)) (F0 m 47 ls []) := by
  obtain ⟨⟨hx, hb, hml, hown, hts⟩, hK, hQ⟩ := id X
  intro x2 M H locs ls hT h hl
  unfold T_X12_policeTake_47 at hT
  refine lv_iload_n hx hb dX12_policeTake_47 rfl (lv_at hl 1 rfl) ?_
  refine lv_istore_n (lv' := [(1, .int x2), (0, .ref (G.2.2.2 + 159)), (2, .int x2)]) hx hb dX12_policeTake_48 rfl hl (by decide) rfl (fun ls hl => ?_)
  exact w_X12_policeTake_49 X hr hk (B4 := B4) hB4 x2 x2 M _ _ ls hT h (lv_sub hl [1, 0, 2] rfl)
def T_X12_policeTake_4 : Nat → Int32 → Int32 → Mm → (Mm → Prop) → Prop
  | 0, _, _, _, _ => False
  | n + 1, x1, x2, M, K => (((M 159 7) ≤ x2 → ((x1 = (-1 : Int32) → (K M)) ∧ (¬ x1 = (-1 : Int32) → (T_X12_policeTake_63 5000 x1 (1 : Int32) M K)))) ∧ (¬ (M 159 7) ≤ x2 → (vp_in x2 8 ∧ (((M 167 (x2).toNatClampNeg) = 0 → (T_X12_thingsOf x2 M (fun r18 M17 => ((r18 ≤ 0 → (T_X12_policeTake_49 (fun x1 x2 M => T_X12_policeTake_4 n x1 x2 M K) x1 x2 M17 K)) ∧ (¬ r18 ≤ 0 → ((x1 = (-1 : Int32) → (T_X12_policeTake_47 (fun x1 x2 M => T_X12_policeTake_4 n x1 x2 M K) x2 M17 K)) ∧ (¬ x1 = (-1 : Int32) → (T_X12_thingsOf x2 M17 (fun r23 M22 => (T_X12_thingsOf x1 M22 (fun r26 M25 => ((r23 ≤ r26 → (T_X12_policeTake_49 (fun x1 x2 M => T_X12_policeTake_4 n x1 x2 M K) x1 x2 M25 K)) ∧ (¬ r23 ≤ r26 → (T_X12_policeTake_47 (fun x1 x2 M => T_X12_policeTake_4 n x1 x2 M K) x2 M25 K)))))))))))))) ∧ (¬ (M 167 (x2).toNatClampNeg) = 0 → (T_X12_policeTake_49 (fun x1 x2 M => T_X12_policeTake_4 n x1 x2 M K) x1 x2 M K))))))
set_option maxHeartbeats 4000000 in
set_option maxRecDepth 100000 in
theorem w_X12_policeTake_4 {p : Program} {l : Launch} {e : Env} {s : State} {m : MethodId} {args : Array Value} {below : List Frame} {meth : Method} {c : Code} {G : fx_G} {K : Mm → Prop} (X : fx_C G p s m c args cX12_policeTake 3 RX12) (hr : meth.sig.returnType = none) (hk : meth.locks = false) : ∀ (n : Nat) (x1 : Int32) (x2 : Int32) (M : Mm) (H : Heap) (locs : List Loc) (ls : Array Slot), T_X12_policeTake_4 n x1 x2 M K → fx_H G SH M s H locs → lv_has ls 3 [(0, .ref (G.2.2.2 + 159)), (1, .int x1), (2, .int x2)] → W p l e (fx_rm (2)) s m args below meth c H locs 0 0 (MQ below (va_Qv K (fx_R G SH) (fx_A G)) args s 0 0 (fx_A G)) (F0 m 4 ls []) := by
  obtain ⟨⟨hx, hb, hml, hown, hts⟩, hK, hQ⟩ := id X
  intro n
  induction n with
  | zero =>
    intro x1 x2 M H locs ls hT
    exact hT.elim
  | succ n ih =>
    intro x1 x2 M H locs ls hT h hl
    rw [T_X12_policeTake_4] at hT
    refine lv_iload_n hx hb dX12_policeTake_4 rfl (lv_at hl 2 rfl) ?_
    refine lv_aload_n hx hb dX12_policeTake_5 rfl (lv_at hl 0 rfl) ?_
    refine fx_getI X h (k := 159) (j := 7) sh_159 rfl fl_RX12_150 dX12_policeTake_6 ?_
    refine lv_icmp_ge (tgt := 55) hx hb dX12_policeTake_9 (by decide) (fun hc12 => ?_) (fun hc12 => ?_)
    · have hT := hT.1 hc12
      refine lv_iload_n hx hb dX12_policeTake_55 rfl (lv_at hl 1 rfl) ?_
      refine lv_iconst (v := -1) hx hb dX12_policeTake_56 (by decide) ?_
      refine lv_icmp_ne (tgt := 61) hx hb dX12_policeTake_57 (by decide) (fun hc13 => ?_) (fun hc13 => ?_)
      · have hT := hT.2 hc13
        refine lv_iconst (v := 1) hx hb dX12_policeTake_61 (by decide) ?_
        refine lv_istore_n (lv' := [(2, .int (1 : Int32)), (0, .ref (G.2.2.2 + 159)), (1, .int x1)]) hx hb dX12_policeTake_62 rfl hl (by decide) rfl (fun ls hl => ?_)
        exact w_X12_policeTake_63 X hr hk 5000 x1 (1 : Int32) M _ _ ls hT h (lv_sub hl [1, 2, 0] rfl)
      · have hT := hT.1 hc13
        exact fx_vret X hr hk h hT dX12_policeTake_60
    · have hT := hT.2 hc12
      refine lv_aload_n hx hb dX12_policeTake_12 rfl (lv_at hl 0 rfl) ?_
      refine fx_getR X h (k := 159) (j := 12) (r := 167) sh_159 rfl fl_RX12_31 dX12_policeTake_13 ?_
      refine lv_iload_n hx hb dX12_policeTake_16 rfl (lv_at hl 2 rfl) ?_
      obtain ⟨hi14, hT⟩ := hT
      refine fx_iald X h (k := 167) sh_167 hi14 dX12_policeTake_17 ?_
      refine lv_if_ne (tgt := 49) hx hb dX12_policeTake_18 (by decide) (fun hc15 => ?_) (fun hc15 => ?_)
      · have hT := hT.2 hc15
        exact w_X12_policeTake_49 X hr hk (B4 := (fun x1 x2 M => T_X12_policeTake_4 n x1 x2 M K)) ih x1 x2 M _ _ ls hT h (lv_sub hl [0, 1, 2] rfl)
      · have hT := hT.1 hc15
        refine lv_aload_n hx hb dX12_policeTake_21 rfl (lv_at hl 0 rfl) ?_
        refine lv_iload_n hx hb dX12_policeTake_22 rfl (lv_at hl 2 rfl) ?_
        refine fx_vi X h ym_X12_thingsOf yi_X12_thingsOf ys_X12_thingsOf (fx_s8 (List.mem_of_getElem? (i := 45) rfl) rfl) sh_159 rfl (c_X12_thingsOf l G hT) (As := [.int x2]) (rest := []) rfl rfl ⟨Nat.le_of_ble_eq_true rfl, Nat.le_of_ble_eq_true rfl⟩ ⟨Nat.le_refl _, Nat.le_refl _⟩ hl.1 (Nat.le_of_ble_eq_true rfl) dX12_policeTake_23 (fun r18 M17 H locs hT h => ?_)
        refine lv_if_le (tgt := 49) hx hb dX12_policeTake_26 (by decide) (fun hc19 => ?_) (fun hc19 => ?_)
        · have hT := hT.1 hc19
          exact w_X12_policeTake_49 X hr hk (B4 := (fun x1 x2 M => T_X12_policeTake_4 n x1 x2 M K)) ih x1 x2 M17 _ _ ls hT h (lv_sub hl [0, 1, 2] rfl)
        · have hT := hT.2 hc19
          refine lv_iload_n hx hb dX12_policeTake_29 rfl (lv_at hl 1 rfl) ?_
          refine lv_iconst (v := -1) hx hb dX12_policeTake_30 (by decide) ?_
          refine lv_icmp_eq (tgt := 47) hx hb dX12_policeTake_31 (by decide) (fun hc20 => ?_) (fun hc20 => ?_)
          · have hT := hT.1 hc20
            exact w_X12_policeTake_47 X hr hk (B4 := (fun x1 x2 M => T_X12_policeTake_4 n x1 x2 M K)) ih x2 M17 _ _ ls hT h (lv_sub hl [0, 2] rfl)
          · have hT := hT.2 hc20
            refine lv_aload_n hx hb dX12_policeTake_34 rfl (lv_at hl 0 rfl) ?_
            refine lv_iload_n hx hb dX12_policeTake_35 rfl (lv_at hl 2 rfl) ?_
            refine fx_vi X h ym_X12_thingsOf yi_X12_thingsOf ys_X12_thingsOf (fx_s8 (List.mem_of_getElem? (i := 45) rfl) rfl) sh_159 rfl (c_X12_thingsOf l G hT) (As := [.int x2]) (rest := []) rfl rfl ⟨Nat.le_of_ble_eq_true rfl, Nat.le_of_ble_eq_true rfl⟩ ⟨Nat.le_refl _, Nat.le_refl _⟩ hl.1 (Nat.le_of_ble_eq_true rfl) dX12_policeTake_36 (fun r23 M22 H locs hT h => ?_)
            refine lv_aload_n hx hb dX12_policeTake_39 rfl (lv_at hl 0 rfl) ?_
            refine lv_iload_n hx hb dX12_policeTake_40 rfl (lv_at hl 1 rfl) ?_
            refine fx_vi X h ym_X12_thingsOf yi_X12_thingsOf ys_X12_thingsOf (fx_s8 (List.mem_of_getElem? (i := 45) rfl) rfl) sh_159 rfl (c_X12_thingsOf l G hT) (As := [.int x1]) (rest := [.int r23]) rfl rfl ⟨Nat.le_of_ble_eq_true rfl, Nat.le_of_ble_eq_true rfl⟩ ⟨Nat.le_refl _, Nat.le_refl _⟩ hl.1 (Nat.le_of_ble_eq_true rfl) dX12_policeTake_41 (fun r26 M25 H locs hT h => ?_)
            refine lv_icmp_le (tgt := 49) hx hb dX12_policeTake_44 (by decide) (fun hc27 => ?_) (fun hc27 => ?_)
            · have hT := hT.1 hc27
              exact w_X12_policeTake_49 X hr hk (B4 := (fun x1 x2 M => T_X12_policeTake_4 n x1 x2 M K)) ih x1 x2 M25 _ _ ls hT h (lv_sub hl [0, 1, 2] rfl)
            · have hT := hT.2 hc27
              exact w_X12_policeTake_47 X hr hk (B4 := (fun x1 x2 M => T_X12_policeTake_4 n x1 x2 M K)) ih x2 M25 _ _ ls hT h (lv_sub hl [0, 2] rfl)
def T_X12_policeTake (M : Mm) (K : Mm → Prop) : Prop := (T_X12_policeTake_4 5000 (-1 : Int32) (0 : Int32) M K)
set_option maxHeartbeats 4000000 in
set_option maxRecDepth 100000 in
theorem c_X12_policeTake (l : Launch) (G : fx_G) {M : Mm} {K : Mm → Prop} (hT : T_X12_policeTake M K) : Met l yX12_policeTake (fx_ws yX12_policeTake cX12_policeTake 3 none) (fx_rm (2)) (va_Pc [.ref (G.2.2.2 + 159)] (fx_P G SH M)) (va_Qv K (fx_R G SH) (fx_A G)) 0 0 (fx_A G) := by
  refine fx_met (own := RX12) (by decide +kernel) rfl (Nat.le_of_ble_eq_true rfl) (fun p e s m below meth c X hr hk h ls hl => ?_)
  obtain ⟨⟨hx, hb, hml, hown, hts⟩, hK, hQ⟩ := id X
  have hl : lv_has ls 3 [(0, .ref (G.2.2.2 + 159))] := hl
  unfold T_X12_policeTake at hT
  refine lv_iconst (v := -1) hx hb dX12_policeTake_0 (by decide) ?_
  refine lv_istore_n (lv' := [(1, .int (-1 : Int32)), (0, .ref (G.2.2.2 + 159))]) hx hb dX12_policeTake_1 rfl hl (by decide) rfl (fun ls hl => ?_)
  refine lv_iconst (v := 0) hx hb dX12_policeTake_2 (by decide) ?_
  refine lv_istore_n (lv' := [(2, .int (0 : Int32)), (1, .int (-1 : Int32)), (0, .ref (G.2.2.2 + 159))]) hx hb dX12_policeTake_3 rfl hl (by decide) rfl (fun ls hl => ?_)
  exact w_X12_policeTake_4 X hr hk 5000 (-1 : Int32) (0 : Int32) M _ _ ls hT h (lv_sub hl [2, 1, 0] rfl)
/-! MockParcelsModel.does(I)Z -/
theorem dX12_does_0 : decode cX12_does 0 = .ok (.aload_n 0, 1) := by decide +kernel
theorem dX12_does_1 : decode cX12_does 1 = .ok (.getfield 74, 3) := by decide +kernel
theorem dX12_does_4 : decode cX12_does 4 = .ok (.iload_n 1, 1) := by decide +kernel
theorem dX12_does_5 : decode cX12_does 5 = .ok (.iconst 1, 1) := by decide +kernel
theorem dX12_does_6 : decode cX12_does 6 = .ok (.iadd, 1) := by decide +kernel
theorem dX12_does_7 : decode cX12_does 7 = .ok (.iaload, 1) := by decide +kernel
theorem dX12_does_8 : decode cX12_does 8 = .ok (.istore_n 2, 1) := by decide +kernel
theorem dX12_does_9 : decode cX12_does 9 = .ok (.aload_n 0, 1) := by decide +kernel
theorem dX12_does_10 : decode cX12_does 10 = .ok (.getfield 74, 3) := by decide +kernel
theorem dX12_does_13 : decode cX12_does 13 = .ok (.iload_n 1, 1) := by decide +kernel
theorem dX12_does_14 : decode cX12_does 14 = .ok (.iconst 2, 1) := by decide +kernel
theorem dX12_does_15 : decode cX12_does 15 = .ok (.iadd, 1) := by decide +kernel
theorem dX12_does_16 : decode cX12_does 16 = .ok (.iaload, 1) := by decide +kernel
theorem dX12_does_17 : decode cX12_does 17 = .ok (.istore_n 3, 1) := by decide +kernel
theorem dX12_does_18 : decode cX12_does 18 = .ok (.iload_n 2, 1) := by decide +kernel
theorem dX12_does_19 : decode cX12_does 19 = .ok (.iconst 1, 1) := by decide +kernel
theorem dX12_does_20 : decode cX12_does 20 = .ok (.if_icmp .ne 10, 3) := by decide +kernel
theorem dX12_does_23 : decode cX12_does 23 = .ok (.aload_n 0, 1) := by decide +kernel
theorem dX12_does_24 : decode cX12_does 24 = .ok (.getfield 7, 3) := by decide +kernel
theorem dX12_does_27 : decode cX12_does 27 = .ok (.iconst 5, 1) := by decide +kernel
theorem dX12_does_28 : decode cX12_does 28 = .ok (.iload_n 3, 1) := by decide +kernel
theorem dX12_does_29 : decode cX12_does 29 = .ok (.iastore, 1) := by decide +kernel
theorem dX12_does_30 : decode cX12_does 30 = .ok (.iload_n 2, 1) := by decide +kernel
theorem dX12_does_31 : decode cX12_does 31 = .ok (.iconst 2, 1) := by decide +kernel
theorem dX12_does_32 : decode cX12_does 32 = .ok (.if_icmp .ne 10, 3) := by decide +kernel
theorem dX12_does_35 : decode cX12_does 35 = .ok (.aload_n 0, 1) := by decide +kernel
theorem dX12_does_36 : decode cX12_does 36 = .ok (.getfield 7, 3) := by decide +kernel
theorem dX12_does_39 : decode cX12_does 39 = .ok (.iconst 4, 1) := by decide +kernel
theorem dX12_does_40 : decode cX12_does 40 = .ok (.iload_n 3, 1) := by decide +kernel
theorem dX12_does_41 : decode cX12_does 41 = .ok (.iastore, 1) := by decide +kernel
theorem dX12_does_42 : decode cX12_does 42 = .ok (.iload_n 2, 1) := by decide +kernel
theorem dX12_does_43 : decode cX12_does 43 = .ok (.iconst 3, 1) := by decide +kernel
theorem dX12_does_44 : decode cX12_does 44 = .ok (.if_icmp .ne 7, 3) := by decide +kernel
theorem dX12_does_47 : decode cX12_does 47 = .ok (.aload_n 0, 1) := by decide +kernel
theorem dX12_does_48 : decode cX12_does 48 = .ok (.invokevirtual 399, 3) := by decide +kernel
theorem dX12_does_51 : decode cX12_does 51 = .ok (.iload_n 2, 1) := by decide +kernel
theorem dX12_does_52 : decode cX12_does 52 = .ok (.iconst 4, 1) := by decide +kernel
theorem dX12_does_53 : decode cX12_does 53 = .ok (.if_icmp .ne 32, 3) := by decide +kernel
theorem dX12_does_56 : decode cX12_does 56 = .ok (.aload_n 0, 1) := by decide +kernel
theorem dX12_does_57 : decode cX12_does 57 = .ok (.getfield 7, 3) := by decide +kernel
theorem dX12_does_60 : decode cX12_does 60 = .ok (.bipush 7, 2) := by decide +kernel
theorem dX12_does_62 : decode cX12_does 62 = .ok (.iload_n 3, 1) := by decide +kernel
theorem dX12_does_63 : decode cX12_does 63 = .ok (.iadd, 1) := by decide +kernel
theorem dX12_does_64 : decode cX12_does 64 = .ok (.iaload, 1) := by decide +kernel
theorem dX12_does_65 : decode cX12_does 65 = .ok (.ifCond .ne 20, 3) := by decide +kernel
theorem dX12_does_68 : decode cX12_does 68 = .ok (.aload_n 0, 1) := by decide +kernel
theorem dX12_does_69 : decode cX12_does 69 = .ok (.getfield 7, 3) := by decide +kernel
theorem dX12_does_72 : decode cX12_does 72 = .ok (.bipush 39, 2) := by decide +kernel
theorem dX12_does_74 : decode cX12_does 74 = .ok (.iload_n 3, 1) := by decide +kernel
theorem dX12_does_75 : decode cX12_does 75 = .ok (.iadd, 1) := by decide +kernel
theorem dX12_does_76 : decode cX12_does 76 = .ok (.aload_n 0, 1) := by decide +kernel
theorem dX12_does_77 : decode cX12_does 77 = .ok (.getfield 74, 3) := by decide +kernel
theorem dX12_does_80 : decode cX12_does 80 = .ok (.iload_n 1, 1) := by decide +kernel
theorem dX12_does_81 : decode cX12_does 81 = .ok (.iconst 3, 1) := by decide +kernel
theorem dX12_does_82 : decode cX12_does 82 = .ok (.iadd, 1) := by decide +kernel
theorem dX12_does_83 : decode cX12_does 83 = .ok (.iaload, 1) := by decide +kernel
theorem dX12_does_84 : decode cX12_does 84 = .ok (.iastore, 1) := by decide +kernel
theorem dX12_does_85 : decode cX12_does 85 = .ok (.iload_n 2, 1) := by decide +kernel
theorem dX12_does_86 : decode cX12_does 86 = .ok (.iconst 5, 1) := by decide +kernel
theorem dX12_does_87 : decode cX12_does 87 = .ok (.if_icmp .ne 16, 3) := by decide +kernel
theorem dX12_does_90 : decode cX12_does 90 = .ok (.aload_n 0, 1) := by decide +kernel
theorem dX12_does_91 : decode cX12_does 91 = .ok (.iload_n 3, 1) := by decide +kernel
theorem dX12_does_92 : decode cX12_does 92 = .ok (.aload_n 0, 1) := by decide +kernel
theorem dX12_does_93 : decode cX12_does 93 = .ok (.getfield 74, 3) := by decide +kernel
theorem dX12_does_96 : decode cX12_does 96 = .ok (.iload_n 1, 1) := by decide +kernel
theorem dX12_does_97 : decode cX12_does 97 = .ok (.iconst 3, 1) := by decide +kernel
theorem dX12_does_98 : decode cX12_does 98 = .ok (.iadd, 1) := by decide +kernel
theorem dX12_does_99 : decode cX12_does 99 = .ok (.iaload, 1) := by decide +kernel
theorem dX12_does_100 : decode cX12_does 100 = .ok (.invokevirtual 396, 3) := by decide +kernel
theorem dX12_does_103 : decode cX12_does 103 = .ok (.iload_n 2, 1) := by decide +kernel
theorem dX12_does_104 : decode cX12_does 104 = .ok (.ifCond .ne 27, 3) := by decide +kernel
theorem dX12_does_107 : decode cX12_does 107 = .ok (.aload_n 0, 1) := by decide +kernel
theorem dX12_does_108 : decode cX12_does 108 = .ok (.getfield 7, 3) := by decide +kernel
theorem dX12_does_111 : decode cX12_does 111 = .ok (.bipush 7, 2) := by decide +kernel
theorem dX12_does_113 : decode cX12_does 113 = .ok (.iload_n 3, 1) := by decide +kernel
theorem dX12_does_114 : decode cX12_does 114 = .ok (.iadd, 1) := by decide +kernel
theorem dX12_does_115 : decode cX12_does 115 = .ok (.iaload, 1) := by decide +kernel
theorem dX12_does_116 : decode cX12_does 116 = .ok (.ifCond .ne 15, 3) := by decide +kernel
theorem dX12_does_119 : decode cX12_does 119 = .ok (.aload_n 0, 1) := by decide +kernel
theorem dX12_does_120 : decode cX12_does 120 = .ok (.iload_n 3, 1) := by decide +kernel
theorem dX12_does_121 : decode cX12_does 121 = .ok (.invokevirtual 390, 3) := by decide +kernel
theorem dX12_does_124 : decode cX12_does 124 = .ok (.ifCond .le 7, 3) := by decide +kernel
theorem dX12_does_127 : decode cX12_does 127 = .ok (.iconst 1, 1) := by decide +kernel
theorem dX12_does_128 : decode cX12_does 128 = .ok (.goto 4, 3) := by decide +kernel
theorem dX12_does_131 : decode cX12_does 131 = .ok (.iconst 0, 1) := by decide +kernel
theorem dX12_does_132 : decode cX12_does 132 = .ok (.ireturn, 1) := by decide +kernel
def T_X12_does_103 (x2 : Int32) (x3 : Int32) (M : Mm) (K : Int32 → Mm → Prop) : Prop := ((x2 = 0 → (vp_in ((7 : Int32) + x3) 135 ∧ (((M 160 (((7 : Int32) + x3)).toNatClampNeg) = 0 → (T_X12_sells x3 M (fun r6 M5 => ((r6 ≤ 0 → (K (0 : Int32) M5)) ∧ (¬ r6 ≤ 0 → (K (1 : Int32) M5)))))) ∧ (¬ (M 160 (((7 : Int32) + x3)).toNatClampNeg) = 0 → (K (0 : Int32) M))))) ∧ (¬ x2 = 0 → (K (0 : Int32) M)))
set_option maxHeartbeats 4000000 in
set_option maxRecDepth 100000 in
theorem w_X12_does_103 {p : Program} {l : Launch} {e : Env} {s : State} {m : MethodId} {args : Array Value} {below : List Frame} {meth : Method} {c : Code} {G : fx_G} {K : Int32 → Mm → Prop} (X : fx_C G p s m c args cX12_does 4 RX12) (hr : meth.sig.returnType = (some .boolean)) (hk : meth.locks = false) : ∀ (x2 : Int32) (x3 : Int32) (M : Mm) (H : Heap) (locs : List Loc) (ls : Array Slot), T_X12_does_103 x2 x3 M K → fx_H G SH M s H locs → lv_has ls 4 [(0, .ref (G.2.2.2 + 159)), (2, .int x2), (3, .int x3)] → W p l e (fx_rm (8)) s m args below meth c H locs 0 0 (MQ below (va_Qi K (fx_R G SH) (fx_A G)) args s 0 0 (fx_A G)) (F0 m 103 ls []) := by
  obtain ⟨⟨hx, hb, hml, hown, hts⟩, hK, hQ⟩ := id X
  intro x2 x3 M H locs ls hT h hl
  unfold T_X12_does_103 at hT
  refine lv_iload_n hx hb dX12_does_103 rfl (lv_at hl 1 rfl) ?_
  refine lv_if_ne (tgt := 131) hx hb dX12_does_104 (by decide) (fun hc1 => ?_) (fun hc1 => ?_)
  · have hT := hT.2 hc1
    refine lv_iconst (v := 0) hx hb dX12_does_131 (by decide) ?_
    exact fx_zret X hr hk h (Or.inl rfl) hT dX12_does_132
  · have hT := hT.1 hc1
    refine lv_aload_n hx hb dX12_does_107 rfl (lv_at hl 0 rfl) ?_
    refine fx_getR X h (k := 159) (j := 1) (r := 160) sh_159 rfl fl_RX12_7 dX12_does_108 ?_
    refine lv_bipush (v := 7) hx hb dX12_does_111 (by decide) ?_
    refine lv_iload_n hx hb dX12_does_113 rfl (lv_at hl 2 rfl) ?_
    refine lv_iadd hx hb dX12_does_114 ?_
    obtain ⟨hi2, hT⟩ := hT
    refine fx_iald X h (k := 160) sh_160 hi2 dX12_does_115 ?_
    refine lv_if_ne (tgt := 131) hx hb dX12_does_116 (by decide) (fun hc3 => ?_) (fun hc3 => ?_)
    · have hT := hT.2 hc3
      refine lv_iconst (v := 0) hx hb dX12_does_131 (by decide) ?_
      exact fx_zret X hr hk h (Or.inl rfl) hT dX12_does_132
    · have hT := hT.1 hc3
      refine lv_aload_n hx hb dX12_does_119 rfl (lv_at hl 0 rfl) ?_
      refine lv_iload_n hx hb dX12_does_120 rfl (lv_at hl 2 rfl) ?_
      refine fx_vi X h ym_X12_sells yi_X12_sells ys_X12_sells (fx_s8 (List.mem_of_getElem? (i := 25) rfl) rfl) sh_159 rfl (c_X12_sells l G hT) (As := [.int x3]) (rest := []) rfl rfl ⟨Nat.le_of_ble_eq_true rfl, Nat.le_of_ble_eq_true rfl⟩ ⟨Nat.le_refl _, Nat.le_refl _⟩ hl.1 (Nat.le_of_ble_eq_true rfl) dX12_does_121 (fun r6 M5 H locs hT h => ?_)
      refine lv_if_le (tgt := 131) hx hb dX12_does_124 (by decide) (fun hc7 => ?_) (fun hc7 => ?_)
      · have hT := hT.1 hc7
        refine lv_iconst (v := 0) hx hb dX12_does_131 (by decide) ?_
        exact fx_zret X hr hk h (Or.inl rfl) hT dX12_does_132
      · have hT := hT.2 hc7
        refine lv_iconst (v := 1) hx hb dX12_does_127 (by decide) ?_
        refine lv_goto (tgt := 132) hx hb dX12_does_128 (by decide) ?_
        exact fx_zret X hr hk h (Or.inr rfl) hT dX12_does_132
def T_X12_does_85 (x1 : Int32) (x2 : Int32) (x3 : Int32) (M : Mm) (K : Int32 → Mm → Prop) : Prop := ((x2 = (5 : Int32) → (vp_in (x1 + (3 : Int32)) 128 ∧ (T_X12_paysMore x3 (M 180 ((x1 + (3 : Int32))).toNatClampNeg) M (fun M11 => (T_X12_does_103 x2 x3 M11 K))))) ∧ (¬ x2 = (5 : Int32) → (T_X12_does_103 x2 x3 M K)))
set_option maxHeartbeats 4000000 in
set_option maxRecDepth 100000 in
theorem w_X12_does_85 {p : Program} {l : Launch} {e : Env} {s : State} {m : MethodId} {args : Array Value} {below : List Frame} {meth : Method} {c : Code} {G : fx_G} {K : Int32 → Mm → Prop} (X : fx_C G p s m c args cX12_does 4 RX12) (hr : meth.sig.returnType = (some .boolean)) (hk : meth.locks = false) : ∀ (x1 : Int32) (x2 : Int32) (x3 : Int32) (M : Mm) (H : Heap) (locs : List Loc) (ls : Array Slot), T_X12_does_85 x1 x2 x3 M K → fx_H G SH M s H locs → lv_has ls 4 [(0, .ref (G.2.2.2 + 159)), (1, .int x1), (2, .int x2), (3, .int x3)] → W p l e (fx_rm (8)) s m args below meth c H locs 0 0 (MQ below (va_Qi K (fx_R G SH) (fx_A G)) args s 0 0 (fx_A G)) (F0 m 85 ls []) := by
  obtain ⟨⟨hx, hb, hml, hown, hts⟩, hK, hQ⟩ := id X
  intro x1 x2 x3 M H locs ls hT h hl
  unfold T_X12_does_85 at hT
  refine lv_iload_n hx hb dX12_does_85 rfl (lv_at hl 2 rfl) ?_
  refine lv_iconst (v := 5) hx hb dX12_does_86 (by decide) ?_
  refine lv_icmp_ne (tgt := 103) hx hb dX12_does_87 (by decide) (fun hc8 => ?_) (fun hc8 => ?_)
  · have hT := hT.2 hc8
    exact w_X12_does_103 X hr hk x2 x3 M _ _ ls hT h (lv_sub hl [0, 2, 3] rfl)
  · have hT := hT.1 hc8
    refine lv_aload_n hx hb dX12_does_90 rfl (lv_at hl 0 rfl) ?_
    refine lv_iload_n hx hb dX12_does_91 rfl (lv_at hl 3 rfl) ?_
    refine lv_aload_n hx hb dX12_does_92 rfl (lv_at hl 0 rfl) ?_
    refine fx_getR X h (k := 159) (j := 40) (r := 180) sh_159 rfl fl_RX12_74 dX12_does_93 ?_
    refine lv_iload_n hx hb dX12_does_96 rfl (lv_at hl 1 rfl) ?_
    refine lv_iconst (v := 3) hx hb dX12_does_97 (by decide) ?_
    refine lv_iadd hx hb dX12_does_98 ?_
    obtain ⟨hi9, hT⟩ := hT
    refine fx_iald X h (k := 180) sh_180 hi9 dX12_does_99 ?_
    refine fx_vv X h ym_X12_paysMore yi_X12_paysMore ys_X12_paysMore (fx_s8 (List.mem_of_getElem? (i := 103) rfl) rfl) sh_159 rfl (c_X12_paysMore l G hT) (As := [.int x3, .int (M 180 ((x1 + (3 : Int32))).toNatClampNeg)]) (rest := []) rfl rfl ⟨Nat.le_of_ble_eq_true rfl, Nat.le_of_ble_eq_true rfl⟩ ⟨Nat.le_refl _, Nat.le_refl _⟩ hl.1 (Nat.le_of_ble_eq_true rfl) dX12_does_100 (fun M11 H locs hT h => ?_)
    exact w_X12_does_103 X hr hk x2 x3 M11 _ _ ls hT h (lv_sub hl [0, 2, 3] rfl)
def T_X12_does_51 (x1 : Int32) (x2 : Int32) (x3 : Int32) (M : Mm) (K : Int32 → Mm → Prop) : Prop := ((x2 = (4 : Int32) → (vp_in ((7 : Int32) + x3) 135 ∧ (((M 160 (((7 : Int32) + x3)).toNatClampNeg) = 0 → (vp_in (x1 + (3 : Int32)) 128 ∧ (vp_in ((39 : Int32) + x3) 135 ∧ (∀ M16 : Mm, M16 = m_up M 160 (((39 : Int32) + x3)).toNatClampNeg (M 180 ((x1 + (3 : Int32))).toNatClampNeg) → (T_X12_does_85 x1 x2 x3 M16 K))))) ∧ (¬ (M 160 (((7 : Int32) + x3)).toNatClampNeg) = 0 → (T_X12_does_85 x1 x2 x3 M K))))) ∧ (¬ x2 = (4 : Int32) → (T_X12_does_85 x1 x2 x3 M K)))
set_option maxHeartbeats 4000000 in
set_option maxRecDepth 100000 in
theorem w_X12_does_51 {p : Program} {l : Launch} {e : Env} {s : State} {m : MethodId} {args : Array Value} {below : List Frame} {meth : Method} {c : Code} {G : fx_G} {K : Int32 → Mm → Prop} (X : fx_C G p s m c args cX12_does 4 RX12) (hr : meth.sig.returnType = (some .boolean)) (hk : meth.locks = false) : ∀ (x1 : Int32) (x2 : Int32) (x3 : Int32) (M : Mm) (H : Heap) (locs : List Loc) (ls : Array Slot), T_X12_does_51 x1 x2 x3 M K → fx_H G SH M s H locs → lv_has ls 4 [(0, .ref (G.2.2.2 + 159)), (1, .int x1), (2, .int x2), (3, .int x3)] → W p l e (fx_rm (8)) s m args below meth c H locs 0 0 (MQ below (va_Qi K (fx_R G SH) (fx_A G)) args s 0 0 (fx_A G)) (F0 m 51 ls []) := by
  obtain ⟨⟨hx, hb, hml, hown, hts⟩, hK, hQ⟩ := id X
  intro x1 x2 x3 M H locs ls hT h hl
  unfold T_X12_does_51 at hT
  refine lv_iload_n hx hb dX12_does_51 rfl (lv_at hl 2 rfl) ?_
  refine lv_iconst (v := 4) hx hb dX12_does_52 (by decide) ?_
  refine lv_icmp_ne (tgt := 85) hx hb dX12_does_53 (by decide) (fun hc12 => ?_) (fun hc12 => ?_)
  · have hT := hT.2 hc12
    exact w_X12_does_85 X hr hk x1 x2 x3 M _ _ ls hT h (lv_sub hl [0, 1, 2, 3] rfl)
  · have hT := hT.1 hc12
    refine lv_aload_n hx hb dX12_does_56 rfl (lv_at hl 0 rfl) ?_
    refine fx_getR X h (k := 159) (j := 1) (r := 160) sh_159 rfl fl_RX12_7 dX12_does_57 ?_
    refine lv_bipush (v := 7) hx hb dX12_does_60 (by decide) ?_
    refine lv_iload_n hx hb dX12_does_62 rfl (lv_at hl 3 rfl) ?_
    refine lv_iadd hx hb dX12_does_63 ?_
    obtain ⟨hi13, hT⟩ := hT
    refine fx_iald X h (k := 160) sh_160 hi13 dX12_does_64 ?_
    refine lv_if_ne (tgt := 85) hx hb dX12_does_65 (by decide) (fun hc14 => ?_) (fun hc14 => ?_)
    · have hT := hT.2 hc14
      exact w_X12_does_85 X hr hk x1 x2 x3 M _ _ ls hT h (lv_sub hl [0, 1, 2, 3] rfl)
    · have hT := hT.1 hc14
      refine lv_aload_n hx hb dX12_does_68 rfl (lv_at hl 0 rfl) ?_
      refine fx_getR X h (k := 159) (j := 1) (r := 160) sh_159 rfl fl_RX12_7 dX12_does_69 ?_
      refine lv_bipush (v := 39) hx hb dX12_does_72 (by decide) ?_
      refine lv_iload_n hx hb dX12_does_74 rfl (lv_at hl 3 rfl) ?_
      refine lv_iadd hx hb dX12_does_75 ?_
      refine lv_aload_n hx hb dX12_does_76 rfl (lv_at hl 0 rfl) ?_
      refine fx_getR X h (k := 159) (j := 40) (r := 180) sh_159 rfl fl_RX12_74 dX12_does_77 ?_
      refine lv_iload_n hx hb dX12_does_80 rfl (lv_at hl 1 rfl) ?_
      refine lv_iconst (v := 3) hx hb dX12_does_81 (by decide) ?_
      refine lv_iadd hx hb dX12_does_82 ?_
      obtain ⟨hi15, hT⟩ := hT
      refine fx_iald X h (k := 180) sh_180 hi15 dX12_does_83 ?_
      obtain ⟨hi17, hT⟩ := hT
      refine fx_iast X h (k := 160) sh_160 hi17 dX12_does_84 (fun H locs h => ?_)
      obtain ⟨M16, eM16⟩ : ∃ z : Mm, z = m_up M 160 (((39 : Int32) + x3)).toNatClampNeg (M 180 ((x1 + (3 : Int32))).toNatClampNeg) := ⟨_, rfl⟩
      have hT := hT M16 eM16
      rw [← eM16] at h
      exact w_X12_does_85 X hr hk x1 x2 x3 M16 _ _ ls hT h (lv_sub hl [0, 1, 2, 3] rfl)
def T_X12_does_42 (x1 : Int32) (x2 : Int32) (x3 : Int32) (M : Mm) (K : Int32 → Mm → Prop) : Prop := ((x2 = (3 : Int32) → (T_X12_policeTake M (fun M20 => (T_X12_does_51 x1 x2 x3 M20 K)))) ∧ (¬ x2 = (3 : Int32) → (T_X12_does_51 x1 x2 x3 M K)))
set_option maxHeartbeats 4000000 in
set_option maxRecDepth 100000 in
theorem w_X12_does_42 {p : Program} {l : Launch} {e : Env} {s : State} {m : MethodId} {args : Array Value} {below : List Frame} {meth : Method} {c : Code} {G : fx_G} {K : Int32 → Mm → Prop} (X : fx_C G p s m c args cX12_does 4 RX12) (hr : meth.sig.returnType = (some .boolean)) (hk : meth.locks = false) : ∀ (x1 : Int32) (x2 : Int32) (x3 : Int32) (M : Mm) (H : Heap) (locs : List Loc) (ls : Array Slot), T_X12_does_42 x1 x2 x3 M K → fx_H G SH M s H locs → lv_has ls 4 [(0, .ref (G.2.2.2 + 159)), (1, .int x1), (2, .int x2), (3, .int x3)] → W p l e (fx_rm (8)) s m args below meth c H locs 0 0 (MQ below (va_Qi K (fx_R G SH) (fx_A G)) args s 0 0 (fx_A G)) (F0 m 42 ls []) := by
  obtain ⟨⟨hx, hb, hml, hown, hts⟩, hK, hQ⟩ := id X
  intro x1 x2 x3 M H locs ls hT h hl
  unfold T_X12_does_42 at hT
  refine lv_iload_n hx hb dX12_does_42 rfl (lv_at hl 2 rfl) ?_
  refine lv_iconst (v := 3) hx hb dX12_does_43 (by decide) ?_
  refine lv_icmp_ne (tgt := 51) hx hb dX12_does_44 (by decide) (fun hc18 => ?_) (fun hc18 => ?_)
  · have hT := hT.2 hc18
    exact w_X12_does_51 X hr hk x1 x2 x3 M _ _ ls hT h (lv_sub hl [0, 1, 2, 3] rfl)
  · have hT := hT.1 hc18
    refine lv_aload_n hx hb dX12_does_47 rfl (lv_at hl 0 rfl) ?_
    refine fx_vv X h ym_X12_policeTake yi_X12_policeTake ys_X12_policeTake (fx_s8 (List.mem_of_getElem? (i := 131) rfl) rfl) sh_159 rfl (c_X12_policeTake l G hT) (As := []) (rest := []) rfl rfl ⟨Nat.le_of_ble_eq_true rfl, Nat.le_of_ble_eq_true rfl⟩ ⟨Nat.le_refl _, Nat.le_refl _⟩ hl.1 (Nat.le_of_ble_eq_true rfl) dX12_does_48 (fun M20 H locs hT h => ?_)
    exact w_X12_does_51 X hr hk x1 x2 x3 M20 _ _ ls hT h (lv_sub hl [0, 1, 2, 3] rfl)
def T_X12_does_30 (x1 : Int32) (x2 : Int32) (x3 : Int32) (M : Mm) (K : Int32 → Mm → Prop) : Prop := ((x2 = (2 : Int32) → (∀ M22 : Mm, M22 = m_up M 160 4 x3 → (T_X12_does_42 x1 x2 x3 M22 K))) ∧ (¬ x2 = (2 : Int32) → (T_X12_does_42 x1 x2 x3 M K)))
set_option maxHeartbeats 4000000 in
set_option maxRecDepth 100000 in
theorem w_X12_does_30 {p : Program} {l : Launch} {e : Env} {s : State} {m : MethodId} {args : Array Value} {below : List Frame} {meth : Method} {c : Code} {G : fx_G} {K : Int32 → Mm → Prop} (X : fx_C G p s m c args cX12_does 4 RX12) (hr : meth.sig.returnType = (some .boolean)) (hk : meth.locks = false) : ∀ (x1 : Int32) (x2 : Int32) (x3 : Int32) (M : Mm) (H : Heap) (locs : List Loc) (ls : Array Slot), T_X12_does_30 x1 x2 x3 M K → fx_H G SH M s H locs → lv_has ls 4 [(0, .ref (G.2.2.2 + 159)), (1, .int x1), (2, .int x2), (3, .int x3)] → W p l e (fx_rm (8)) s m args below meth c H locs 0 0 (MQ below (va_Qi K (fx_R G SH) (fx_A G)) args s 0 0 (fx_A G)) (F0 m 30 ls []) := by
  obtain ⟨⟨hx, hb, hml, hown, hts⟩, hK, hQ⟩ := id X
  intro x1 x2 x3 M H locs ls hT h hl
  unfold T_X12_does_30 at hT
  refine lv_iload_n hx hb dX12_does_30 rfl (lv_at hl 2 rfl) ?_
  refine lv_iconst (v := 2) hx hb dX12_does_31 (by decide) ?_
  refine lv_icmp_ne (tgt := 42) hx hb dX12_does_32 (by decide) (fun hc21 => ?_) (fun hc21 => ?_)
  · have hT := hT.2 hc21
    exact w_X12_does_42 X hr hk x1 x2 x3 M _ _ ls hT h (lv_sub hl [0, 1, 2, 3] rfl)
  · have hT := hT.1 hc21
    refine lv_aload_n hx hb dX12_does_35 rfl (lv_at hl 0 rfl) ?_
    refine fx_getR X h (k := 159) (j := 1) (r := 160) sh_159 rfl fl_RX12_7 dX12_does_36 ?_
    refine lv_iconst (v := 4) hx hb dX12_does_39 (by decide) ?_
    refine lv_iload_n hx hb dX12_does_40 rfl (lv_at hl 3 rfl) ?_
    refine fx_iast X h (k := 160) sh_160 (by unfold vp_in; decide) dX12_does_41 (fun H locs h => ?_)
    rw [show ((4 : Int32)).toNatClampNeg = 4 by decide] at h
    obtain ⟨M22, eM22⟩ : ∃ z : Mm, z = m_up M 160 4 x3 := ⟨_, rfl⟩
    have hT := hT M22 eM22
    rw [← eM22] at h
    exact w_X12_does_42 X hr hk x1 x2 x3 M22 _ _ ls hT h (lv_sub hl [0, 1, 2, 3] rfl)
def T_X12_does (x1 : Int32) (M : Mm) (K : Int32 → Mm → Prop) : Prop := (vp_in (x1 + (1 : Int32)) 128 ∧ (∀ y24 : Int32, y24 = (M 180 ((x1 + (1 : Int32))).toNatClampNeg) → (vp_in (x1 + (2 : Int32)) 128 ∧ (∀ y26 : Int32, y26 = (M 180 ((x1 + (2 : Int32))).toNatClampNeg) → ((y24 = (1 : Int32) → (∀ M28 : Mm, M28 = m_up M 160 5 y26 → (T_X12_does_30 x1 y24 y26 M28 K))) ∧ (¬ y24 = (1 : Int32) → (T_X12_does_30 x1 y24 y26 M K)))))))
set_option maxHeartbeats 4000000 in
set_option maxRecDepth 100000 in
theorem c_X12_does (l : Launch) (G : fx_G) {x1 : Int32} {M : Mm} {K : Int32 → Mm → Prop} (hT : T_X12_does x1 M K) : Met l yX12_does (fx_ws yX12_does cX12_does 4 (some .boolean)) (fx_rm (8)) (va_Pc [.ref (G.2.2.2 + 159), .int x1] (fx_P G SH M)) (va_Qi K (fx_R G SH) (fx_A G)) 0 0 (fx_A G) := by
  refine fx_met (own := RX12) (by decide +kernel) rfl (Nat.le_of_ble_eq_true rfl) (fun p e s m below meth c X hr hk h ls hl => ?_)
  obtain ⟨⟨hx, hb, hml, hown, hts⟩, hK, hQ⟩ := id X
  have hl : lv_has ls 4 [(0, .ref (G.2.2.2 + 159)), (1, .int x1)] := hl
  unfold T_X12_does at hT
  refine lv_aload_n hx hb dX12_does_0 rfl (lv_at hl 0 rfl) ?_
  refine fx_getR X h (k := 159) (j := 40) (r := 180) sh_159 rfl fl_RX12_74 dX12_does_1 ?_
  refine lv_iload_n hx hb dX12_does_4 rfl (lv_at hl 1 rfl) ?_
  refine lv_iconst (v := 1) hx hb dX12_does_5 (by decide) ?_
  refine lv_iadd hx hb dX12_does_6 ?_
  obtain ⟨hi23, hT⟩ := hT
  refine fx_iald X h (k := 180) sh_180 hi23 dX12_does_7 ?_
  refine lv_topi (fun y24 ey24 => ?_)
  have hT := hT y24 ey24
  refine lv_istore_n (lv' := [(2, .int y24), (0, .ref (G.2.2.2 + 159)), (1, .int x1)]) hx hb dX12_does_8 rfl hl (by decide) rfl (fun ls hl => ?_)
  refine lv_aload_n hx hb dX12_does_9 rfl (lv_at hl 1 rfl) ?_
  refine fx_getR X h (k := 159) (j := 40) (r := 180) sh_159 rfl fl_RX12_74 dX12_does_10 ?_
  refine lv_iload_n hx hb dX12_does_13 rfl (lv_at hl 2 rfl) ?_
  refine lv_iconst (v := 2) hx hb dX12_does_14 (by decide) ?_
  refine lv_iadd hx hb dX12_does_15 ?_
  obtain ⟨hi25, hT⟩ := hT
  refine fx_iald X h (k := 180) sh_180 hi25 dX12_does_16 ?_
  refine lv_topi (fun y26 ey26 => ?_)
  have hT := hT y26 ey26
  refine lv_istore_n (lv' := [(3, .int y26), (2, .int y24), (0, .ref (G.2.2.2 + 159)), (1, .int x1)]) hx hb dX12_does_17 rfl hl (by decide) rfl (fun ls hl => ?_)
  refine lv_iload_n hx hb dX12_does_18 rfl (lv_at hl 1 rfl) ?_
  refine lv_iconst (v := 1) hx hb dX12_does_19 (by decide) ?_
  refine lv_icmp_ne (tgt := 30) hx hb dX12_does_20 (by decide) (fun hc27 => ?_) (fun hc27 => ?_)
  · have hT := hT.2 hc27
    exact w_X12_does_30 X hr hk x1 y24 y26 M _ _ ls hT h (lv_sub hl [2, 3, 1, 0] rfl)
  · have hT := hT.1 hc27
    refine lv_aload_n hx hb dX12_does_23 rfl (lv_at hl 2 rfl) ?_
    refine fx_getR X h (k := 159) (j := 1) (r := 160) sh_159 rfl fl_RX12_7 dX12_does_24 ?_
    refine lv_iconst (v := 5) hx hb dX12_does_27 (by decide) ?_
    refine lv_iload_n hx hb dX12_does_28 rfl (lv_at hl 0 rfl) ?_
    refine fx_iast X h (k := 160) sh_160 (by unfold vp_in; decide) dX12_does_29 (fun H locs h => ?_)
    rw [show ((5 : Int32)).toNatClampNeg = 5 by decide] at h
    obtain ⟨M28, eM28⟩ : ∃ z : Mm, z = m_up M 160 5 y26 := ⟨_, rfl⟩
    have hT := hT M28 eM28
    rw [← eM28] at h
    exact w_X12_does_30 X hr hk x1 y24 y26 M28 _ _ ls hT h (lv_sub hl [2, 3, 1, 0] rfl)
/-! MockParcelsModel.goesBy()I -/
theorem dX12_goesBy_0 : decode cX12_goesBy 0 = .ok (.iconst 0, 1) := by decide +kernel
theorem dX12_goesBy_1 : decode cX12_goesBy 1 = .ok (.istore_n 1, 1) := by decide +kernel
theorem dX12_goesBy_2 : decode cX12_goesBy 2 = .ok (.iconst 0, 1) := by decide +kernel
theorem dX12_goesBy_3 : decode cX12_goesBy 3 = .ok (.istore_n 2, 1) := by decide +kernel
theorem dX12_goesBy_4 : decode cX12_goesBy 4 = .ok (.iload_n 2, 1) := by decide +kernel
theorem dX12_goesBy_5 : decode cX12_goesBy 5 = .ok (.aload_n 0, 1) := by decide +kernel
theorem dX12_goesBy_6 : decode cX12_goesBy 6 = .ok (.getfield 312, 3) := by decide +kernel
theorem dX12_goesBy_9 : decode cX12_goesBy 9 = .ok (.if_icmp .ge 40, 3) := by decide +kernel
theorem dX12_goesBy_12 : decode cX12_goesBy 12 = .ok (.aload_n 0, 1) := by decide +kernel
theorem dX12_goesBy_13 : decode cX12_goesBy 13 = .ok (.getfield 74, 3) := by decide +kernel
theorem dX12_goesBy_16 : decode cX12_goesBy 16 = .ok (.iconst 4, 1) := by decide +kernel
theorem dX12_goesBy_17 : decode cX12_goesBy 17 = .ok (.iload_n 2, 1) := by decide +kernel
theorem dX12_goesBy_18 : decode cX12_goesBy 18 = .ok (.imul, 1) := by decide +kernel
theorem dX12_goesBy_19 : decode cX12_goesBy 19 = .ok (.iaload, 1) := by decide +kernel
theorem dX12_goesBy_20 : decode cX12_goesBy 20 = .ok (.aload_n 0, 1) := by decide +kernel
theorem dX12_goesBy_21 : decode cX12_goesBy 21 = .ok (.getfield 7, 3) := by decide +kernel
theorem dX12_goesBy_24 : decode cX12_goesBy 24 = .ok (.iconst 0, 1) := by decide +kernel
theorem dX12_goesBy_25 : decode cX12_goesBy 25 = .ok (.iaload, 1) := by decide +kernel
theorem dX12_goesBy_26 : decode cX12_goesBy 26 = .ok (.if_icmp .ne 17, 3) := by decide +kernel
theorem dX12_goesBy_29 : decode cX12_goesBy 29 = .ok (.aload_n 0, 1) := by decide +kernel
theorem dX12_goesBy_30 : decode cX12_goesBy 30 = .ok (.iconst 4, 1) := by decide +kernel
theorem dX12_goesBy_31 : decode cX12_goesBy 31 = .ok (.iload_n 2, 1) := by decide +kernel
theorem dX12_goesBy_32 : decode cX12_goesBy 32 = .ok (.imul, 1) := by decide +kernel
theorem dX12_goesBy_33 : decode cX12_goesBy 33 = .ok (.invokevirtual 402, 3) := by decide +kernel
theorem dX12_goesBy_36 : decode cX12_goesBy 36 = .ok (.ifCond .eq 7, 3) := by decide +kernel
theorem dX12_goesBy_39 : decode cX12_goesBy 39 = .ok (.iload_n 1, 1) := by decide +kernel
theorem dX12_goesBy_40 : decode cX12_goesBy 40 = .ok (.iconst 1, 1) := by decide +kernel
theorem dX12_goesBy_41 : decode cX12_goesBy 41 = .ok (.iadd, 1) := by decide +kernel
theorem dX12_goesBy_42 : decode cX12_goesBy 42 = .ok (.istore_n 1, 1) := by decide +kernel
theorem dX12_goesBy_43 : decode cX12_goesBy 43 = .ok (.iinc 2 1, 3) := by decide +kernel
theorem dX12_goesBy_46 : decode cX12_goesBy 46 = .ok (.goto (-42), 3) := by decide +kernel
theorem dX12_goesBy_49 : decode cX12_goesBy 49 = .ok (.aload_n 0, 1) := by decide +kernel
theorem dX12_goesBy_50 : decode cX12_goesBy 50 = .ok (.getfield 7, 3) := by decide +kernel
theorem dX12_goesBy_53 : decode cX12_goesBy 53 = .ok (.iconst 4, 1) := by decide +kernel
theorem dX12_goesBy_54 : decode cX12_goesBy 54 = .ok (.aload_n 0, 1) := by decide +kernel
theorem dX12_goesBy_55 : decode cX12_goesBy 55 = .ok (.iconst 0, 1) := by decide +kernel
theorem dX12_goesBy_56 : decode cX12_goesBy 56 = .ok (.aload_n 0, 1) := by decide +kernel
theorem dX12_goesBy_57 : decode cX12_goesBy 57 = .ok (.getfield 7, 3) := by decide +kernel
theorem dX12_goesBy_60 : decode cX12_goesBy 60 = .ok (.iconst 4, 1) := by decide +kernel
theorem dX12_goesBy_61 : decode cX12_goesBy 61 = .ok (.iaload, 1) := by decide +kernel
theorem dX12_goesBy_62 : decode cX12_goesBy 62 = .ok (.aload_n 0, 1) := by decide +kernel
theorem dX12_goesBy_63 : decode cX12_goesBy 63 = .ok (.getfield 7, 3) := by decide +kernel
theorem dX12_goesBy_66 : decode cX12_goesBy 66 = .ok (.iconst 5, 1) := by decide +kernel
theorem dX12_goesBy_67 : decode cX12_goesBy 67 = .ok (.iaload, 1) := by decide +kernel
theorem dX12_goesBy_68 : decode cX12_goesBy 68 = .ok (.isub, 1) := by decide +kernel
theorem dX12_goesBy_69 : decode cX12_goesBy 69 = .ok (.invokevirtual 405, 3) := by decide +kernel
theorem dX12_goesBy_72 : decode cX12_goesBy 72 = .ok (.iastore, 1) := by decide +kernel
theorem dX12_goesBy_73 : decode cX12_goesBy 73 = .ok (.aload_n 0, 1) := by decide +kernel
theorem dX12_goesBy_74 : decode cX12_goesBy 74 = .ok (.getfield 7, 3) := by decide +kernel
theorem dX12_goesBy_77 : decode cX12_goesBy 77 = .ok (.iconst 0, 1) := by decide +kernel
theorem dX12_goesBy_78 : decode cX12_goesBy 78 = .ok (.aload_n 0, 1) := by decide +kernel
theorem dX12_goesBy_79 : decode cX12_goesBy 79 = .ok (.getfield 7, 3) := by decide +kernel
theorem dX12_goesBy_82 : decode cX12_goesBy 82 = .ok (.iconst 0, 1) := by decide +kernel
theorem dX12_goesBy_83 : decode cX12_goesBy 83 = .ok (.iaload, 1) := by decide +kernel
theorem dX12_goesBy_84 : decode cX12_goesBy 84 = .ok (.iconst 1, 1) := by decide +kernel
theorem dX12_goesBy_85 : decode cX12_goesBy 85 = .ok (.iadd, 1) := by decide +kernel
theorem dX12_goesBy_86 : decode cX12_goesBy 86 = .ok (.iastore, 1) := by decide +kernel
theorem dX12_goesBy_87 : decode cX12_goesBy 87 = .ok (.iload_n 1, 1) := by decide +kernel
theorem dX12_goesBy_88 : decode cX12_goesBy 88 = .ok (.ireturn, 1) := by decide +kernel
def T_X12_goesBy_43 (B4 : Int32 → Int32 → Mm → Prop) (x1 : Int32) (x2 : Int32) (M : Mm) (K : Int32 → Mm → Prop) : Prop := (∀ y1 : Int32, y1 = x2 + (1 : Int32) → (B4 x1 y1 M))
set_option maxHeartbeats 4000000 in
set_option maxRecDepth 100000 in
theorem w_X12_goesBy_43 {p : Program} {l : Launch} {e : Env} {s : State} {m : MethodId} {args : Array Value} {below : List Frame} {meth : Method} {c : Code} {G : fx_G} {K : Int32 → Mm → Prop} {B4 : Int32 → Int32 → Mm → Prop} (X : fx_C G p s m c args cX12_goesBy 3 RX12) (hr : meth.sig.returnType = (some .int)) (hk : meth.locks = false) (hB4 : ∀ (x1 : Int32) (x2 : Int32) (M : Mm) (H : Heap) (locs : List Loc) (ls : Array Slot), B4 x1 x2 M → fx_H G SH M s H locs → lv_has ls 3 [(0, .ref (G.2.2.2 + 159)), (1, .int x1), (2, .int x2)] → W p l e (fx_rm (9)) s m args below meth c H locs 0 0 (MQ below (va_Qi K (fx_R G SH) (fx_A G)) args s 0 0 (fx_A G)) (F0 m 4 ls [])) : ∀ (x1 : Int32) (x2 : Int32) (M : Mm) (H : Heap) (locs : List Loc) (ls : Array Slot), T_X12_goesBy_43 B4 x1 x2 M K → fx_H G SH M s H locs → lv_has ls 3 [(0, .ref (G.2.2.2 + 159)), (1, .int x1), (2, .int x2)] → W p l e (fx_rm (9)) s m args below meth c H locs 0 0 (MQ below (va_Qi K (fx_R G SH) (fx_A G)) args s 0 0 (fx_A G)) (F0 m 43 ls []) := by
  obtain ⟨⟨hx, hb, hml, hown, hts⟩, hK, hQ⟩ := id X
  intro x1 x2 M H locs ls hT h hl
  unfold T_X12_goesBy_43 at hT
  obtain ⟨y1, ey1⟩ : ∃ z : Int32, z = x2 + (1 : Int32) := ⟨_, rfl⟩
  have hT := hT y1 ey1
  refine lv_iinc (v := y1) (lv' := [(2, .int y1), (0, .ref (G.2.2.2 + 159)), (1, .int x1)]) hx hb dX12_goesBy_43 hl (k := 2) rfl (by rw [ey1]; rfl) (by decide) rfl (fun ls hl => ?_)
  refine lv_goto (tgt := 4) hx hb dX12_goesBy_46 (by decide) ?_
  exact hB4 x1 y1 M _ _ ls hT h (lv_sub hl [1, 2, 0] rfl)
def T_X12_goesBy_4 : Nat → Int32 → Int32 → Mm → (Int32 → Mm → Prop) → Prop
  | 0, _, _, _, _ => False
  | n + 1, x1, x2, M, K => (((M 159 39) ≤ x2 → (T_X12_greater (0 : Int32) ((M 160 4) - (M 160 5)) M (fun r5 M4 => (∀ M6 : Mm, M6 = m_up M4 160 4 r5 → (∀ M7 : Mm, M7 = m_up M6 160 0 ((M6 160 0) + (1 : Int32)) → (K x1 M7)))))) ∧ (¬ (M 159 39) ≤ x2 → (vp_in ((4 : Int32) * x2) 128 ∧ (((M 180 (((4 : Int32) * x2)).toNatClampNeg) = (M 160 0) → (T_X12_does ((4 : Int32) * x2) M (fun r12 M11 => ((r12 = 0 → (T_X12_goesBy_43 (fun x1 x2 M => T_X12_goesBy_4 n x1 x2 M K) x1 x2 M11 K)) ∧ (¬ r12 = 0 → (∀ y14 : Int32, y14 = (x1 + (1 : Int32)) → (T_X12_goesBy_43 (fun x1 x2 M => T_X12_goesBy_4 n x1 x2 M K) y14 x2 M11 K))))))) ∧ (¬ (M 180 (((4 : Int32) * x2)).toNatClampNeg) = (M 160 0) → (T_X12_goesBy_43 (fun x1 x2 M => T_X12_goesBy_4 n x1 x2 M K) x1 x2 M K))))))
set_option maxHeartbeats 4000000 in
set_option maxRecDepth 100000 in
theorem w_X12_goesBy_4 {p : Program} {l : Launch} {e : Env} {s : State} {m : MethodId} {args : Array Value} {below : List Frame} {meth : Method} {c : Code} {G : fx_G} {K : Int32 → Mm → Prop} (X : fx_C G p s m c args cX12_goesBy 3 RX12) (hr : meth.sig.returnType = (some .int)) (hk : meth.locks = false) : ∀ (n : Nat) (x1 : Int32) (x2 : Int32) (M : Mm) (H : Heap) (locs : List Loc) (ls : Array Slot), T_X12_goesBy_4 n x1 x2 M K → fx_H G SH M s H locs → lv_has ls 3 [(0, .ref (G.2.2.2 + 159)), (1, .int x1), (2, .int x2)] → W p l e (fx_rm (9)) s m args below meth c H locs 0 0 (MQ below (va_Qi K (fx_R G SH) (fx_A G)) args s 0 0 (fx_A G)) (F0 m 4 ls []) := by
  obtain ⟨⟨hx, hb, hml, hown, hts⟩, hK, hQ⟩ := id X
  intro n
  induction n with
  | zero =>
    intro x1 x2 M H locs ls hT
    exact hT.elim
  | succ n ih =>
    intro x1 x2 M H locs ls hT h hl
    rw [T_X12_goesBy_4] at hT
    refine lv_iload_n hx hb dX12_goesBy_4 rfl (lv_at hl 2 rfl) ?_
    refine lv_aload_n hx hb dX12_goesBy_5 rfl (lv_at hl 0 rfl) ?_
    refine fx_getI X h (k := 159) (j := 39) sh_159 rfl fl_RX12_312 dX12_goesBy_6 ?_
    refine lv_icmp_ge (tgt := 49) hx hb dX12_goesBy_9 (by decide) (fun hc2 => ?_) (fun hc2 => ?_)
    · have hT := hT.1 hc2
      refine lv_aload_n hx hb dX12_goesBy_49 rfl (lv_at hl 0 rfl) ?_
      refine fx_getR X h (k := 159) (j := 1) (r := 160) sh_159 rfl fl_RX12_7 dX12_goesBy_50 ?_
      refine lv_iconst (v := 4) hx hb dX12_goesBy_53 (by decide) ?_
      refine lv_aload_n hx hb dX12_goesBy_54 rfl (lv_at hl 0 rfl) ?_
      refine lv_iconst (v := 0) hx hb dX12_goesBy_55 (by decide) ?_
      refine lv_aload_n hx hb dX12_goesBy_56 rfl (lv_at hl 0 rfl) ?_
      refine fx_getR X h (k := 159) (j := 1) (r := 160) sh_159 rfl fl_RX12_7 dX12_goesBy_57 ?_
      refine lv_iconst (v := 4) hx hb dX12_goesBy_60 (by decide) ?_
      refine fx_iald X h (k := 160) sh_160 (by unfold vp_in; decide) dX12_goesBy_61 ?_
      rw [show ((4 : Int32)).toNatClampNeg = 4 by decide]
      refine lv_aload_n hx hb dX12_goesBy_62 rfl (lv_at hl 0 rfl) ?_
      refine fx_getR X h (k := 159) (j := 1) (r := 160) sh_159 rfl fl_RX12_7 dX12_goesBy_63 ?_
      refine lv_iconst (v := 5) hx hb dX12_goesBy_66 (by decide) ?_
      refine fx_iald X h (k := 160) sh_160 (by unfold vp_in; decide) dX12_goesBy_67 ?_
      rw [show ((5 : Int32)).toNatClampNeg = 5 by decide]
      refine lv_isub hx hb dX12_goesBy_68 ?_
      refine fx_vi X h ym_X12_greater yi_X12_greater ys_X12_greater (fx_s8 (List.mem_of_getElem? (i := 135) rfl) rfl) sh_159 rfl (c_X12_greater l G hT) (As := [.int (0 : Int32), .int ((M 160 4) - (M 160 5))]) (rest := [.int (4 : Int32), .ref (G.2.2.2 + 160)]) rfl rfl ⟨Nat.le_of_ble_eq_true rfl, Nat.le_of_ble_eq_true rfl⟩ ⟨Nat.le_refl _, Nat.le_refl _⟩ hl.1 (Nat.le_of_ble_eq_true rfl) dX12_goesBy_69 (fun r5 M4 H locs hT h => ?_)
      refine fx_iast X h (k := 160) sh_160 (by unfold vp_in; decide) dX12_goesBy_72 (fun H locs h => ?_)
      rw [show ((4 : Int32)).toNatClampNeg = 4 by decide] at h
      obtain ⟨M6, eM6⟩ : ∃ z : Mm, z = m_up M4 160 4 r5 := ⟨_, rfl⟩
      have hT := hT M6 eM6
      rw [← eM6] at h
      refine lv_aload_n hx hb dX12_goesBy_73 rfl (lv_at hl 0 rfl) ?_
      refine fx_getR X h (k := 159) (j := 1) (r := 160) sh_159 rfl fl_RX12_7 dX12_goesBy_74 ?_
      refine lv_iconst (v := 0) hx hb dX12_goesBy_77 (by decide) ?_
      refine lv_aload_n hx hb dX12_goesBy_78 rfl (lv_at hl 0 rfl) ?_
      refine fx_getR X h (k := 159) (j := 1) (r := 160) sh_159 rfl fl_RX12_7 dX12_goesBy_79 ?_
      refine lv_iconst (v := 0) hx hb dX12_goesBy_82 (by decide) ?_
      refine fx_iald X h (k := 160) sh_160 (by unfold vp_in; decide) dX12_goesBy_83 ?_
      rw [show ((0 : Int32)).toNatClampNeg = 0 by decide]
      refine lv_iconst (v := 1) hx hb dX12_goesBy_84 (by decide) ?_
      refine lv_iadd hx hb dX12_goesBy_85 ?_
      refine fx_iast X h (k := 160) sh_160 (by unfold vp_in; decide) dX12_goesBy_86 (fun H locs h => ?_)
      rw [show ((0 : Int32)).toNatClampNeg = 0 by decide] at h
      obtain ⟨M7, eM7⟩ : ∃ z : Mm, z = m_up M6 160 0 ((M6 160 0) + (1 : Int32)) := ⟨_, rfl⟩
      have hT := hT M7 eM7
      rw [← eM7] at h
      refine lv_iload_n hx hb dX12_goesBy_87 rfl (lv_at hl 1 rfl) ?_
      exact fx_iret X hr hk h hT dX12_goesBy_88
    · have hT := hT.2 hc2
      refine lv_aload_n hx hb dX12_goesBy_12 rfl (lv_at hl 0 rfl) ?_
      refine fx_getR X h (k := 159) (j := 40) (r := 180) sh_159 rfl fl_RX12_74 dX12_goesBy_13 ?_
      refine lv_iconst (v := 4) hx hb dX12_goesBy_16 (by decide) ?_
      refine lv_iload_n hx hb dX12_goesBy_17 rfl (lv_at hl 2 rfl) ?_
      refine lv_imul hx hb dX12_goesBy_18 ?_
      obtain ⟨hi8, hT⟩ := hT
      refine fx_iald X h (k := 180) sh_180 hi8 dX12_goesBy_19 ?_
      refine lv_aload_n hx hb dX12_goesBy_20 rfl (lv_at hl 0 rfl) ?_
      refine fx_getR X h (k := 159) (j := 1) (r := 160) sh_159 rfl fl_RX12_7 dX12_goesBy_21 ?_
      refine lv_iconst (v := 0) hx hb dX12_goesBy_24 (by decide) ?_
      refine fx_iald X h (k := 160) sh_160 (by unfold vp_in; decide) dX12_goesBy_25 ?_
      rw [show ((0 : Int32)).toNatClampNeg = 0 by decide]
      refine lv_icmp_ne (tgt := 43) hx hb dX12_goesBy_26 (by decide) (fun hc9 => ?_) (fun hc9 => ?_)
      · have hT := hT.2 hc9
        exact w_X12_goesBy_43 X hr hk (B4 := (fun x1 x2 M => T_X12_goesBy_4 n x1 x2 M K)) ih x1 x2 M _ _ ls hT h (lv_sub hl [0, 1, 2] rfl)
      · have hT := hT.1 hc9
        refine lv_aload_n hx hb dX12_goesBy_29 rfl (lv_at hl 0 rfl) ?_
        refine lv_iconst (v := 4) hx hb dX12_goesBy_30 (by decide) ?_
        refine lv_iload_n hx hb dX12_goesBy_31 rfl (lv_at hl 2 rfl) ?_
        refine lv_imul hx hb dX12_goesBy_32 ?_
        refine fx_vi X h ym_X12_does yi_X12_does ys_X12_does (fx_s8 (List.mem_of_getElem? (i := 127) rfl) rfl) sh_159 rfl (c_X12_does l G hT) (As := [.int ((4 : Int32) * x2)]) (rest := []) rfl rfl ⟨Nat.le_of_ble_eq_true rfl, Nat.le_of_ble_eq_true rfl⟩ ⟨Nat.le_refl _, Nat.le_refl _⟩ hl.1 (Nat.le_of_ble_eq_true rfl) dX12_goesBy_33 (fun r12 M11 H locs hT h => ?_)
        refine lv_if_eq (tgt := 43) hx hb dX12_goesBy_36 (by decide) (fun hc13 => ?_) (fun hc13 => ?_)
        · have hT := hT.1 hc13
          exact w_X12_goesBy_43 X hr hk (B4 := (fun x1 x2 M => T_X12_goesBy_4 n x1 x2 M K)) ih x1 x2 M11 _ _ ls hT h (lv_sub hl [0, 1, 2] rfl)
        · have hT := hT.2 hc13
          refine lv_iload_n hx hb dX12_goesBy_39 rfl (lv_at hl 1 rfl) ?_
          refine lv_iconst (v := 1) hx hb dX12_goesBy_40 (by decide) ?_
          refine lv_iadd hx hb dX12_goesBy_41 ?_
          refine lv_topi (fun y14 ey14 => ?_)
          have hT := hT y14 ey14
          refine lv_istore_n (lv' := [(1, .int y14), (0, .ref (G.2.2.2 + 159)), (2, .int x2)]) hx hb dX12_goesBy_42 rfl hl (by decide) rfl (fun ls hl => ?_)
          exact w_X12_goesBy_43 X hr hk (B4 := (fun x1 x2 M => T_X12_goesBy_4 n x1 x2 M K)) ih y14 x2 M11 _ _ ls hT h (lv_sub hl [1, 0, 2] rfl)
def T_X12_goesBy (M : Mm) (K : Int32 → Mm → Prop) : Prop := (T_X12_goesBy_4 5000 (0 : Int32) (0 : Int32) M K)
set_option maxHeartbeats 4000000 in
set_option maxRecDepth 100000 in
theorem c_X12_goesBy (l : Launch) (G : fx_G) {M : Mm} {K : Int32 → Mm → Prop} (hT : T_X12_goesBy M K) : Met l yX12_goesBy (fx_ws yX12_goesBy cX12_goesBy 3 (some .int)) (fx_rm (9)) (va_Pc [.ref (G.2.2.2 + 159)] (fx_P G SH M)) (va_Qi K (fx_R G SH) (fx_A G)) 0 0 (fx_A G) := by
  refine fx_met (own := RX12) (by decide +kernel) rfl (Nat.le_of_ble_eq_true rfl) (fun p e s m below meth c X hr hk h ls hl => ?_)
  obtain ⟨⟨hx, hb, hml, hown, hts⟩, hK, hQ⟩ := id X
  have hl : lv_has ls 3 [(0, .ref (G.2.2.2 + 159))] := hl
  unfold T_X12_goesBy at hT
  refine lv_iconst (v := 0) hx hb dX12_goesBy_0 (by decide) ?_
  refine lv_istore_n (lv' := [(1, .int (0 : Int32)), (0, .ref (G.2.2.2 + 159))]) hx hb dX12_goesBy_1 rfl hl (by decide) rfl (fun ls hl => ?_)
  refine lv_iconst (v := 0) hx hb dX12_goesBy_2 (by decide) ?_
  refine lv_istore_n (lv' := [(2, .int (0 : Int32)), (1, .int (0 : Int32)), (0, .ref (G.2.2.2 + 159))]) hx hb dX12_goesBy_3 rfl hl (by decide) rfl (fun ls hl => ?_)
  exact w_X12_goesBy_4 X hr hk 5000 (0 : Int32) (0 : Int32) M _ _ ls hT h (lv_sub hl [2, 1, 0] rfl)
/-! MockParcelsModel.days(I)I -/
theorem dX12_days_0 : decode cX12_days 0 = .ok (.aload_n 0, 1) := by decide +kernel
theorem dX12_days_1 : decode cX12_days 1 = .ok (.iconst 0, 1) := by decide +kernel
theorem dX12_days_2 : decode cX12_days 2 = .ok (.putfield 134, 3) := by decide +kernel
theorem dX12_days_5 : decode cX12_days 5 = .ok (.aload_n 0, 1) := by decide +kernel
theorem dX12_days_6 : decode cX12_days 6 = .ok (.iload_n 1, 1) := by decide +kernel
theorem dX12_days_7 : decode cX12_days 7 = .ok (.iconst 1, 1) := by decide +kernel
theorem dX12_days_8 : decode cX12_days 8 = .ok (.bipush 60, 2) := by decide +kernel
theorem dX12_days_10 : decode cX12_days 10 = .ok (.invokevirtual 157, 3) := by decide +kernel
theorem dX12_days_13 : decode cX12_days 13 = .ok (.ifCond .eq 17, 3) := by decide +kernel
theorem dX12_days_16 : decode cX12_days 16 = .ok (.aload_n 0, 1) := by decide +kernel
theorem dX12_days_17 : decode cX12_days 17 = .ok (.getfield 7, 3) := by decide +kernel
theorem dX12_days_20 : decode cX12_days 20 = .ok (.iconst 0, 1) := by decide +kernel
theorem dX12_days_21 : decode cX12_days 21 = .ok (.iaload, 1) := by decide +kernel
theorem dX12_days_22 : decode cX12_days 22 = .ok (.iload_n 1, 1) := by decide +kernel
theorem dX12_days_23 : decode cX12_days 23 = .ok (.iadd, 1) := by decide +kernel
theorem dX12_days_24 : decode cX12_days 24 = .ok (.sipush 9999, 3) := by decide +kernel
theorem dX12_days_27 : decode cX12_days 27 = .ok (.if_icmp .le 5, 3) := by decide +kernel
theorem dX12_days_30 : decode cX12_days 30 = .ok (.iconst (-1), 1) := by decide +kernel
theorem dX12_days_31 : decode cX12_days 31 = .ok (.ireturn, 1) := by decide +kernel
theorem dX12_days_32 : decode cX12_days 32 = .ok (.iconst 0, 1) := by decide +kernel
theorem dX12_days_33 : decode cX12_days 33 = .ok (.istore_n 2, 1) := by decide +kernel
theorem dX12_days_34 : decode cX12_days 34 = .ok (.iconst 0, 1) := by decide +kernel
theorem dX12_days_35 : decode cX12_days 35 = .ok (.istore_n 3, 1) := by decide +kernel
theorem dX12_days_36 : decode cX12_days 36 = .ok (.iload_n 3, 1) := by decide +kernel
theorem dX12_days_37 : decode cX12_days 37 = .ok (.iload_n 1, 1) := by decide +kernel
theorem dX12_days_38 : decode cX12_days 38 = .ok (.if_icmp .ge 20, 3) := by decide +kernel
theorem dX12_days_41 : decode cX12_days 41 = .ok (.aload_n 0, 1) := by decide +kernel
theorem dX12_days_42 : decode cX12_days 42 = .ok (.invokevirtual 387, 3) := by decide +kernel
theorem dX12_days_45 : decode cX12_days 45 = .ok (.iload_n 2, 1) := by decide +kernel
theorem dX12_days_46 : decode cX12_days 46 = .ok (.aload_n 0, 1) := by decide +kernel
theorem dX12_days_47 : decode cX12_days 47 = .ok (.invokevirtual 408, 3) := by decide +kernel
theorem dX12_days_50 : decode cX12_days 50 = .ok (.iadd, 1) := by decide +kernel
theorem dX12_days_51 : decode cX12_days 51 = .ok (.istore_n 2, 1) := by decide +kernel
theorem dX12_days_52 : decode cX12_days 52 = .ok (.iinc 3 1, 3) := by decide +kernel
theorem dX12_days_55 : decode cX12_days 55 = .ok (.goto (-19), 3) := by decide +kernel
theorem dX12_days_58 : decode cX12_days 58 = .ok (.iload_n 2, 1) := by decide +kernel
theorem dX12_days_59 : decode cX12_days 59 = .ok (.ireturn, 1) := by decide +kernel
def T_X12_days_36 : Nat → Int32 → Int32 → Int32 → Mm → (Int32 → Mm → Prop) → Prop
  | 0, _, _, _, _, _ => False
  | n + 1, x1, x2, x3, M, K => ((x1 ≤ x3 → (K x2 M)) ∧ (¬ x1 ≤ x3 → (T_X12_keepsAhead M (fun M3 => (T_X12_goesBy M3 (fun r6 M5 => (∀ y7 : Int32, y7 = (x2 + r6) → (∀ y8 : Int32, y8 = x3 + (1 : Int32) → (T_X12_days_36 n x1 y7 y8 M5 K)))))))))
set_option maxHeartbeats 4000000 in
set_option maxRecDepth 100000 in
theorem w_X12_days_36 {p : Program} {l : Launch} {e : Env} {s : State} {m : MethodId} {args : Array Value} {below : List Frame} {meth : Method} {c : Code} {G : fx_G} {K : Int32 → Mm → Prop} (X : fx_C G p s m c args cX12_days 4 RX12) (hr : meth.sig.returnType = (some .int)) (hk : meth.locks = false) : ∀ (n : Nat) (x1 : Int32) (x2 : Int32) (x3 : Int32) (M : Mm) (H : Heap) (locs : List Loc) (ls : Array Slot), T_X12_days_36 n x1 x2 x3 M K → fx_H G SH M s H locs → lv_has ls 4 [(0, .ref (G.2.2.2 + 159)), (1, .int x1), (2, .int x2), (3, .int x3)] → W p l e (fx_rm (10)) s m args below meth c H locs 0 0 (MQ below (va_Qi K (fx_R G SH) (fx_A G)) args s 0 0 (fx_A G)) (F0 m 36 ls []) := by
  obtain ⟨⟨hx, hb, hml, hown, hts⟩, hK, hQ⟩ := id X
  intro n
  induction n with
  | zero =>
    intro x1 x2 x3 M H locs ls hT
    exact hT.elim
  | succ n ih =>
    intro x1 x2 x3 M H locs ls hT h hl
    rw [T_X12_days_36] at hT
    refine lv_iload_n hx hb dX12_days_36 rfl (lv_at hl 3 rfl) ?_
    refine lv_iload_n hx hb dX12_days_37 rfl (lv_at hl 1 rfl) ?_
    refine lv_icmp_ge (tgt := 58) hx hb dX12_days_38 (by decide) (fun hc1 => ?_) (fun hc1 => ?_)
    · have hT := hT.1 hc1
      refine lv_iload_n hx hb dX12_days_58 rfl (lv_at hl 2 rfl) ?_
      exact fx_iret X hr hk h hT dX12_days_59
    · have hT := hT.2 hc1
      refine lv_aload_n hx hb dX12_days_41 rfl (lv_at hl 0 rfl) ?_
      refine fx_vv X h ym_X12_keepsAhead yi_X12_keepsAhead ys_X12_keepsAhead (fx_s8 (List.mem_of_getElem? (i := 21) rfl) rfl) sh_159 rfl (c_X12_keepsAhead l G hT) (As := []) (rest := []) rfl rfl ⟨Nat.le_of_ble_eq_true rfl, Nat.le_of_ble_eq_true rfl⟩ ⟨Nat.le_refl _, Nat.le_refl _⟩ hl.1 (Nat.le_of_ble_eq_true rfl) dX12_days_42 (fun M3 H locs hT h => ?_)
      refine lv_iload_n hx hb dX12_days_45 rfl (lv_at hl 2 rfl) ?_
      refine lv_aload_n hx hb dX12_days_46 rfl (lv_at hl 0 rfl) ?_
      refine fx_vi X h ym_X12_goesBy yi_X12_goesBy ys_X12_goesBy (fx_s8 (List.mem_of_getElem? (i := 123) rfl) rfl) sh_159 rfl (c_X12_goesBy l G hT) (As := []) (rest := [.int x2]) rfl rfl ⟨Nat.le_of_ble_eq_true rfl, Nat.le_of_ble_eq_true rfl⟩ ⟨Nat.le_refl _, Nat.le_refl _⟩ hl.1 (Nat.le_of_ble_eq_true rfl) dX12_days_47 (fun r6 M5 H locs hT h => ?_)
      refine lv_iadd hx hb dX12_days_50 ?_
      refine lv_topi (fun y7 ey7 => ?_)
      have hT := hT y7 ey7
      refine lv_istore_n (lv' := [(2, .int y7), (0, .ref (G.2.2.2 + 159)), (1, .int x1), (3, .int x3)]) hx hb dX12_days_51 rfl hl (by decide) rfl (fun ls hl => ?_)
      obtain ⟨y8, ey8⟩ : ∃ z : Int32, z = x3 + (1 : Int32) := ⟨_, rfl⟩
      have hT := hT y8 ey8
      refine lv_iinc (v := y8) (lv' := [(3, .int y8), (2, .int y7), (0, .ref (G.2.2.2 + 159)), (1, .int x1)]) hx hb dX12_days_52 hl (k := 3) rfl (by rw [ey8]; rfl) (by decide) rfl (fun ls hl => ?_)
      refine lv_goto (tgt := 36) hx hb dX12_days_55 (by decide) ?_
      exact ih x1 y7 y8 M5 _ _ ls hT h (lv_sub hl [2, 3, 1, 0] rfl)
def T_X12_days (x1 : Int32) (M : Mm) (K : Int32 → Mm → Prop) : Prop := (∀ M9 : Mm, M9 = m_up M 159 0 (0 : Int32) → (T_X12_isIn x1 (1 : Int32) (60 : Int32) M9 (fun r12 M11 => ((r12 = 0 → (K (-1 : Int32) M11)) ∧ (¬ r12 = 0 → ((((M11 160 0) + x1) ≤ (9999 : Int32) → (T_X12_days_36 5000 x1 (0 : Int32) (0 : Int32) M11 K)) ∧ (¬ ((M11 160 0) + x1) ≤ (9999 : Int32) → (K (-1 : Int32) M11))))))))
set_option maxHeartbeats 4000000 in
set_option maxRecDepth 100000 in
theorem c_X12_days (l : Launch) (G : fx_G) {x1 : Int32} {M : Mm} {K : Int32 → Mm → Prop} (hT : T_X12_days x1 M K) : Met l yX12_days (fx_ws yX12_days cX12_days 4 (some .int)) (fx_rm (10)) (va_Pc [.ref (G.2.2.2 + 159), .int x1] (fx_P G SH M)) (va_Qi K (fx_R G SH) (fx_A G)) 0 0 (fx_A G) := by
  refine fx_met (own := RX12) (by decide +kernel) rfl (Nat.le_of_ble_eq_true rfl) (fun p e s m below meth c X hr hk h ls hl => ?_)
  obtain ⟨⟨hx, hb, hml, hown, hts⟩, hK, hQ⟩ := id X
  have hl : lv_has ls 4 [(0, .ref (G.2.2.2 + 159)), (1, .int x1)] := hl
  unfold T_X12_days at hT
  refine lv_aload_n hx hb dX12_days_0 rfl (lv_at hl 0 rfl) ?_
  refine lv_iconst (v := 0) hx hb dX12_days_1 (by decide) ?_
  refine fx_putI X h (k := 159) (j := 0) sh_159 rfl fl_RX12_134 dX12_days_2 (fun H locs h => ?_)
  obtain ⟨M9, eM9⟩ : ∃ z : Mm, z = m_up M 159 0 (0 : Int32) := ⟨_, rfl⟩
  have hT := hT M9 eM9
  rw [← eM9] at h
  refine lv_aload_n hx hb dX12_days_5 rfl (lv_at hl 0 rfl) ?_
  refine lv_iload_n hx hb dX12_days_6 rfl (lv_at hl 1 rfl) ?_
  refine lv_iconst (v := 1) hx hb dX12_days_7 (by decide) ?_
  refine lv_bipush (v := 60) hx hb dX12_days_8 (by decide) ?_
  refine fx_vi X h ym_X12_isIn yi_X12_isIn ys_X12_isIn (fx_s7 (List.mem_of_getElem? (i := 77) rfl) rfl) sh_159 rfl (c_X12_isIn l G hT) (As := [.int x1, .int (1 : Int32), .int (60 : Int32)]) (rest := []) rfl rfl ⟨Nat.le_of_ble_eq_true rfl, Nat.le_of_ble_eq_true rfl⟩ ⟨Nat.le_refl _, Nat.le_refl _⟩ hl.1 (Nat.le_of_ble_eq_true rfl) dX12_days_10 (fun r12 M11 H locs hT h => ?_)
  refine lv_if_eq (tgt := 30) hx hb dX12_days_13 (by decide) (fun hc13 => ?_) (fun hc13 => ?_)
  · have hT := hT.1 hc13
    refine lv_iconst (v := -1) hx hb dX12_days_30 (by decide) ?_
    exact fx_iret X hr hk h hT dX12_days_31
  · have hT := hT.2 hc13
    refine lv_aload_n hx hb dX12_days_16 rfl (lv_at hl 0 rfl) ?_
    refine fx_getR X h (k := 159) (j := 1) (r := 160) sh_159 rfl fl_RX12_7 dX12_days_17 ?_
    refine lv_iconst (v := 0) hx hb dX12_days_20 (by decide) ?_
    refine fx_iald X h (k := 160) sh_160 (by unfold vp_in; decide) dX12_days_21 ?_
    rw [show ((0 : Int32)).toNatClampNeg = 0 by decide]
    refine lv_iload_n hx hb dX12_days_22 rfl (lv_at hl 1 rfl) ?_
    refine lv_iadd hx hb dX12_days_23 ?_
    refine lv_sipush (v := 9999) hx hb dX12_days_24 (by decide) ?_
    refine lv_icmp_le (tgt := 32) hx hb dX12_days_27 (by decide) (fun hc14 => ?_) (fun hc14 => ?_)
    · have hT := hT.1 hc14
      refine lv_iconst (v := 0) hx hb dX12_days_32 (by decide) ?_
      refine lv_istore_n (lv' := [(2, .int (0 : Int32)), (0, .ref (G.2.2.2 + 159)), (1, .int x1)]) hx hb dX12_days_33 rfl hl (by decide) rfl (fun ls hl => ?_)
      refine lv_iconst (v := 0) hx hb dX12_days_34 (by decide) ?_
      refine lv_istore_n (lv' := [(3, .int (0 : Int32)), (2, .int (0 : Int32)), (0, .ref (G.2.2.2 + 159)), (1, .int x1)]) hx hb dX12_days_35 rfl hl (by decide) rfl (fun ls hl => ?_)
      exact w_X12_days_36 X hr hk 5000 x1 (0 : Int32) (0 : Int32) M11 _ _ ls hT h (lv_sub hl [2, 3, 1, 0] rfl)
    · have hT := hT.2 hc14
      refine lv_iconst (v := -1) hx hb dX12_days_30 (by decide) ?_
      exact fx_iret X hr hk h hT dX12_days_31
/-! MockParcelsModel.of(II)I -/
theorem dX12_of_0 : decode cX12_of 0 = .ok (.aload_n 0, 1) := by decide +kernel
theorem dX12_of_1 : decode cX12_of 1 = .ok (.iconst 0, 1) := by decide +kernel
theorem dX12_of_2 : decode cX12_of 2 = .ok (.putfield 134, 3) := by decide +kernel
theorem dX12_of_5 : decode cX12_of 5 = .ok (.aload_n 0, 1) := by decide +kernel
theorem dX12_of_6 : decode cX12_of 6 = .ok (.iload_n 1, 1) := by decide +kernel
theorem dX12_of_7 : decode cX12_of 7 = .ok (.invokevirtual 165, 3) := by decide +kernel
theorem dX12_of_10 : decode cX12_of 10 = .ok (.ifCond .ne 6, 3) := by decide +kernel
theorem dX12_of_13 : decode cX12_of 13 = .ok (.bipush (-2), 2) := by decide +kernel
theorem dX12_of_15 : decode cX12_of 15 = .ok (.ireturn, 1) := by decide +kernel
theorem dX12_of_16 : decode cX12_of 16 = .ok (.aload_n 0, 1) := by decide +kernel
theorem dX12_of_17 : decode cX12_of 17 = .ok (.iload_n 2, 1) := by decide +kernel
theorem dX12_of_18 : decode cX12_of 18 = .ok (.bipush 10, 2) := by decide +kernel
theorem dX12_of_20 : decode cX12_of 20 = .ok (.bipush 9, 2) := by decide +kernel
theorem dX12_of_22 : decode cX12_of 22 = .ok (.aload_n 0, 1) := by decide +kernel
theorem dX12_of_23 : decode cX12_of 23 = .ok (.getfield 150, 3) := by decide +kernel
theorem dX12_of_26 : decode cX12_of 26 = .ok (.iadd, 1) := by decide +kernel
theorem dX12_of_27 : decode cX12_of 27 = .ok (.invokevirtual 157, 3) := by decide +kernel
theorem dX12_of_30 : decode cX12_of 30 = .ok (.ifCond .eq 15, 3) := by decide +kernel
theorem dX12_of_33 : decode cX12_of 33 = .ok (.aload_n 0, 1) := by decide +kernel
theorem dX12_of_34 : decode cX12_of 34 = .ok (.iload_n 1, 1) := by decide +kernel
theorem dX12_of_35 : decode cX12_of 35 = .ok (.iload_n 2, 1) := by decide +kernel
theorem dX12_of_36 : decode cX12_of 36 = .ok (.bipush 10, 2) := by decide +kernel
theorem dX12_of_38 : decode cX12_of 38 = .ok (.isub, 1) := by decide +kernel
theorem dX12_of_39 : decode cX12_of 39 = .ok (.iconst 0, 1) := by decide +kernel
theorem dX12_of_40 : decode cX12_of 40 = .ok (.iconst 0, 1) := by decide +kernel
theorem dX12_of_41 : decode cX12_of 41 = .ok (.invokevirtual 356, 3) := by decide +kernel
theorem dX12_of_44 : decode cX12_of 44 = .ok (.ireturn, 1) := by decide +kernel
theorem dX12_of_45 : decode cX12_of 45 = .ok (.aload_n 0, 1) := by decide +kernel
theorem dX12_of_46 : decode cX12_of 46 = .ok (.iload_n 2, 1) := by decide +kernel
theorem dX12_of_47 : decode cX12_of 47 = .ok (.bipush 20, 2) := by decide +kernel
theorem dX12_of_49 : decode cX12_of 49 = .ok (.bipush 19, 2) := by decide +kernel
theorem dX12_of_51 : decode cX12_of 51 = .ok (.aload_n 0, 1) := by decide +kernel
theorem dX12_of_52 : decode cX12_of 52 = .ok (.getfield 150, 3) := by decide +kernel
theorem dX12_of_55 : decode cX12_of 55 = .ok (.iadd, 1) := by decide +kernel
theorem dX12_of_56 : decode cX12_of 56 = .ok (.invokevirtual 157, 3) := by decide +kernel
theorem dX12_of_59 : decode cX12_of 59 = .ok (.ifCond .eq 15, 3) := by decide +kernel
theorem dX12_of_62 : decode cX12_of 62 = .ok (.aload_n 0, 1) := by decide +kernel
theorem dX12_of_63 : decode cX12_of 63 = .ok (.iload_n 1, 1) := by decide +kernel
theorem dX12_of_64 : decode cX12_of 64 = .ok (.iload_n 2, 1) := by decide +kernel
theorem dX12_of_65 : decode cX12_of 65 = .ok (.bipush 20, 2) := by decide +kernel
theorem dX12_of_67 : decode cX12_of 67 = .ok (.isub, 1) := by decide +kernel
theorem dX12_of_68 : decode cX12_of 68 = .ok (.iconst 0, 1) := by decide +kernel
theorem dX12_of_69 : decode cX12_of 69 = .ok (.iconst 0, 1) := by decide +kernel
theorem dX12_of_70 : decode cX12_of 70 = .ok (.invokevirtual 362, 3) := by decide +kernel
theorem dX12_of_73 : decode cX12_of 73 = .ok (.ireturn, 1) := by decide +kernel
theorem dX12_of_74 : decode cX12_of 74 = .ok (.aload_n 0, 1) := by decide +kernel
theorem dX12_of_75 : decode cX12_of 75 = .ok (.iload_n 2, 1) := by decide +kernel
theorem dX12_of_76 : decode cX12_of 76 = .ok (.bipush 30, 2) := by decide +kernel
theorem dX12_of_78 : decode cX12_of 78 = .ok (.bipush 29, 2) := by decide +kernel
theorem dX12_of_80 : decode cX12_of 80 = .ok (.aload_n 0, 1) := by decide +kernel
theorem dX12_of_81 : decode cX12_of 81 = .ok (.getfield 150, 3) := by decide +kernel
theorem dX12_of_84 : decode cX12_of 84 = .ok (.iadd, 1) := by decide +kernel
theorem dX12_of_85 : decode cX12_of 85 = .ok (.invokevirtual 157, 3) := by decide +kernel
theorem dX12_of_88 : decode cX12_of 88 = .ok (.ifCond .eq 15, 3) := by decide +kernel
theorem dX12_of_91 : decode cX12_of 91 = .ok (.aload_n 0, 1) := by decide +kernel
theorem dX12_of_92 : decode cX12_of 92 = .ok (.iload_n 1, 1) := by decide +kernel
theorem dX12_of_93 : decode cX12_of 93 = .ok (.iload_n 2, 1) := by decide +kernel
theorem dX12_of_94 : decode cX12_of 94 = .ok (.bipush 30, 2) := by decide +kernel
theorem dX12_of_96 : decode cX12_of 96 = .ok (.isub, 1) := by decide +kernel
theorem dX12_of_97 : decode cX12_of 97 = .ok (.iconst 0, 1) := by decide +kernel
theorem dX12_of_98 : decode cX12_of 98 = .ok (.iconst 0, 1) := by decide +kernel
theorem dX12_of_99 : decode cX12_of 99 = .ok (.invokevirtual 375, 3) := by decide +kernel
theorem dX12_of_102 : decode cX12_of 102 = .ok (.ireturn, 1) := by decide +kernel
theorem dX12_of_103 : decode cX12_of 103 = .ok (.iload_n 2, 1) := by decide +kernel
theorem dX12_of_104 : decode cX12_of 104 = .ok (.ifCond .ne 10, 3) := by decide +kernel
theorem dX12_of_107 : decode cX12_of 107 = .ok (.aload_n 0, 1) := by decide +kernel
theorem dX12_of_108 : decode cX12_of 108 = .ok (.getfield 19, 3) := by decide +kernel
theorem dX12_of_111 : decode cX12_of 111 = .ok (.iload_n 1, 1) := by decide +kernel
theorem dX12_of_112 : decode cX12_of 112 = .ok (.iaload, 1) := by decide +kernel
theorem dX12_of_113 : decode cX12_of 113 = .ok (.ireturn, 1) := by decide +kernel
theorem dX12_of_114 : decode cX12_of 114 = .ok (.iload_n 2, 1) := by decide +kernel
theorem dX12_of_115 : decode cX12_of 115 = .ok (.iconst 1, 1) := by decide +kernel
theorem dX12_of_116 : decode cX12_of 116 = .ok (.if_icmp .ne 10, 3) := by decide +kernel
theorem dX12_of_119 : decode cX12_of 119 = .ok (.aload_n 0, 1) := by decide +kernel
theorem dX12_of_120 : decode cX12_of 120 = .ok (.getfield 22, 3) := by decide +kernel
theorem dX12_of_123 : decode cX12_of 123 = .ok (.iload_n 1, 1) := by decide +kernel
theorem dX12_of_124 : decode cX12_of 124 = .ok (.iaload, 1) := by decide +kernel
theorem dX12_of_125 : decode cX12_of 125 = .ok (.ireturn, 1) := by decide +kernel
theorem dX12_of_126 : decode cX12_of 126 = .ok (.iload_n 2, 1) := by decide +kernel
theorem dX12_of_127 : decode cX12_of 127 = .ok (.iconst 2, 1) := by decide +kernel
theorem dX12_of_128 : decode cX12_of 128 = .ok (.if_icmp .ne 10, 3) := by decide +kernel
theorem dX12_of_131 : decode cX12_of 131 = .ok (.aload_n 0, 1) := by decide +kernel
theorem dX12_of_132 : decode cX12_of 132 = .ok (.getfield 25, 3) := by decide +kernel
theorem dX12_of_135 : decode cX12_of 135 = .ok (.iload_n 1, 1) := by decide +kernel
theorem dX12_of_136 : decode cX12_of 136 = .ok (.iaload, 1) := by decide +kernel
theorem dX12_of_137 : decode cX12_of 137 = .ok (.ireturn, 1) := by decide +kernel
theorem dX12_of_138 : decode cX12_of 138 = .ok (.iload_n 2, 1) := by decide +kernel
theorem dX12_of_139 : decode cX12_of 139 = .ok (.iconst 3, 1) := by decide +kernel
theorem dX12_of_140 : decode cX12_of 140 = .ok (.if_icmp .ne 15, 3) := by decide +kernel
theorem dX12_of_143 : decode cX12_of 143 = .ok (.aload_n 0, 1) := by decide +kernel
theorem dX12_of_144 : decode cX12_of 144 = .ok (.getfield 7, 3) := by decide +kernel
theorem dX12_of_147 : decode cX12_of 147 = .ok (.bipush 7, 2) := by decide +kernel
theorem dX12_of_149 : decode cX12_of 149 = .ok (.iload_n 1, 1) := by decide +kernel
theorem dX12_of_150 : decode cX12_of 150 = .ok (.iadd, 1) := by decide +kernel
theorem dX12_of_151 : decode cX12_of 151 = .ok (.iaload, 1) := by decide +kernel
theorem dX12_of_152 : decode cX12_of 152 = .ok (.iconst 1, 1) := by decide +kernel
theorem dX12_of_153 : decode cX12_of 153 = .ok (.isub, 1) := by decide +kernel
theorem dX12_of_154 : decode cX12_of 154 = .ok (.ireturn, 1) := by decide +kernel
theorem dX12_of_155 : decode cX12_of 155 = .ok (.iload_n 2, 1) := by decide +kernel
theorem dX12_of_156 : decode cX12_of 156 = .ok (.iconst 4, 1) := by decide +kernel
theorem dX12_of_157 : decode cX12_of 157 = .ok (.if_icmp .ne 17, 3) := by decide +kernel
theorem dX12_of_160 : decode cX12_of 160 = .ok (.aload_n 0, 1) := by decide +kernel
theorem dX12_of_161 : decode cX12_of 161 = .ok (.getfield 7, 3) := by decide +kernel
theorem dX12_of_164 : decode cX12_of 164 = .ok (.bipush 23, 2) := by decide +kernel
theorem dX12_of_166 : decode cX12_of 166 = .ok (.iload_n 1, 1) := by decide +kernel
theorem dX12_of_167 : decode cX12_of 167 = .ok (.iadd, 1) := by decide +kernel
theorem dX12_of_168 : decode cX12_of 168 = .ok (.iaload, 1) := by decide +kernel
theorem dX12_of_169 : decode cX12_of 169 = .ok (.iconst 1, 1) := by decide +kernel
theorem dX12_of_170 : decode cX12_of 170 = .ok (.isub, 1) := by decide +kernel
theorem dX12_of_171 : decode cX12_of 171 = .ok (.goto 22, 3) := by decide +kernel
theorem dX12_of_174 : decode cX12_of 174 = .ok (.iload_n 2, 1) := by decide +kernel
theorem dX12_of_175 : decode cX12_of 175 = .ok (.iconst 5, 1) := by decide +kernel
theorem dX12_of_176 : decode cX12_of 176 = .ok (.if_icmp .ne 15, 3) := by decide +kernel
theorem dX12_of_179 : decode cX12_of 179 = .ok (.aload_n 0, 1) := by decide +kernel
theorem dX12_of_180 : decode cX12_of 180 = .ok (.getfield 7, 3) := by decide +kernel
theorem dX12_of_183 : decode cX12_of 183 = .ok (.bipush 39, 2) := by decide +kernel
theorem dX12_of_185 : decode cX12_of 185 = .ok (.iload_n 1, 1) := by decide +kernel
theorem dX12_of_186 : decode cX12_of 186 = .ok (.iadd, 1) := by decide +kernel
theorem dX12_of_187 : decode cX12_of 187 = .ok (.iaload, 1) := by decide +kernel
theorem dX12_of_188 : decode cX12_of 188 = .ok (.goto 5, 3) := by decide +kernel
theorem dX12_of_191 : decode cX12_of 191 = .ok (.bipush (-2), 2) := by decide +kernel
theorem dX12_of_193 : decode cX12_of 193 = .ok (.ireturn, 1) := by decide +kernel
def T_X12_of (x1 : Int32) (x2 : Int32) (M : Mm) (K : Int32 → Mm → Prop) : Prop := (∀ M1 : Mm, M1 = m_up M 159 0 (0 : Int32) → (T_X12_isParcel x1 M1 (fun r4 M3 => ((r4 = 0 → (K (-2 : Int32) M3)) ∧ (¬ r4 = 0 → (T_X12_isIn x2 (10 : Int32) ((9 : Int32) + (M3 159 7)) M3 (fun r8 M7 => ((r8 = 0 → (T_X12_isIn x2 (20 : Int32) ((19 : Int32) + (M7 159 7)) M7 (fun r12 M11 => ((r12 = 0 → (T_X12_isIn x2 (30 : Int32) ((29 : Int32) + (M11 159 7)) M11 (fun r16 M15 => ((r16 = 0 → ((x2 = 0 → (vp_in x1 16 ∧ (K (M15 163 (x1).toNatClampNeg) M15))) ∧ (¬ x2 = 0 → ((x2 = (1 : Int32) → (vp_in x1 16 ∧ (K (M15 164 (x1).toNatClampNeg) M15))) ∧ (¬ x2 = (1 : Int32) → ((x2 = (2 : Int32) → (vp_in x1 16 ∧ (K (M15 165 (x1).toNatClampNeg) M15))) ∧ (¬ x2 = (2 : Int32) → ((x2 = (3 : Int32) → (vp_in ((7 : Int32) + x1) 135 ∧ (K ((M15 160 (((7 : Int32) + x1)).toNatClampNeg) - (1 : Int32)) M15))) ∧ (¬ x2 = (3 : Int32) → ((x2 = (4 : Int32) → (vp_in ((23 : Int32) + x1) 135 ∧ (K ((M15 160 (((23 : Int32) + x1)).toNatClampNeg) - (1 : Int32)) M15))) ∧ (¬ x2 = (4 : Int32) → ((x2 = (5 : Int32) → (vp_in ((39 : Int32) + x1) 135 ∧ (K (M15 160 (((39 : Int32) + x1)).toNatClampNeg) M15))) ∧ (¬ x2 = (5 : Int32) → (K (-2 : Int32) M15)))))))))))))) ∧ (¬ r16 = 0 → (T_X12_fullOf x1 (x2 - (30 : Int32)) (0 : Int32) (0 : Int32) M15 (fun r32 M31 => (K r32 M31)))))))) ∧ (¬ r12 = 0 → (T_X12_stepOf x1 (x2 - (20 : Int32)) (0 : Int32) (0 : Int32) M11 (fun r35 M34 => (K r35 M34)))))))) ∧ (¬ r8 = 0 → (T_X12_bidsOf x1 (x2 - (10 : Int32)) (0 : Int32) (0 : Int32) M7 (fun r38 M37 => (K r38 M37))))))))))))
set_option maxHeartbeats 4000000 in
set_option maxRecDepth 100000 in
theorem c_X12_of (l : Launch) (G : fx_G) {x1 : Int32} {x2 : Int32} {M : Mm} {K : Int32 → Mm → Prop} (hT : T_X12_of x1 x2 M K) : Met l yX12_of (fx_ws yX12_of cX12_of 3 (some .int)) (fx_rm (5)) (va_Pc [.ref (G.2.2.2 + 159), .int x1, .int x2] (fx_P G SH M)) (va_Qi K (fx_R G SH) (fx_A G)) 0 0 (fx_A G) := by
  refine fx_met (own := RX12) (by decide +kernel) rfl (Nat.le_of_ble_eq_true rfl) (fun p e s m below meth c X hr hk h ls hl => ?_)
  obtain ⟨⟨hx, hb, hml, hown, hts⟩, hK, hQ⟩ := id X
  have hl : lv_has ls 3 [(0, .ref (G.2.2.2 + 159)), (1, .int x1), (2, .int x2)] := hl
  unfold T_X12_of at hT
  refine lv_aload_n hx hb dX12_of_0 rfl (lv_at hl 0 rfl) ?_
  refine lv_iconst (v := 0) hx hb dX12_of_1 (by decide) ?_
  refine fx_putI X h (k := 159) (j := 0) sh_159 rfl fl_RX12_134 dX12_of_2 (fun H locs h => ?_)
  obtain ⟨M1, eM1⟩ : ∃ z : Mm, z = m_up M 159 0 (0 : Int32) := ⟨_, rfl⟩
  have hT := hT M1 eM1
  rw [← eM1] at h
  refine lv_aload_n hx hb dX12_of_5 rfl (lv_at hl 0 rfl) ?_
  refine lv_iload_n hx hb dX12_of_6 rfl (lv_at hl 1 rfl) ?_
  refine fx_vi X h ym_X12_isParcel yi_X12_isParcel ys_X12_isParcel (fx_s7 (List.mem_of_getElem? (i := 97) rfl) rfl) sh_159 rfl (c_X12_isParcel l G hT) (As := [.int x1]) (rest := []) rfl rfl ⟨Nat.le_of_ble_eq_true rfl, Nat.le_of_ble_eq_true rfl⟩ ⟨Nat.le_refl _, Nat.le_refl _⟩ hl.1 (Nat.le_of_ble_eq_true rfl) dX12_of_7 (fun r4 M3 H locs hT h => ?_)
  refine lv_if_ne (tgt := 16) hx hb dX12_of_10 (by decide) (fun hc5 => ?_) (fun hc5 => ?_)
  · have hT := hT.2 hc5
    refine lv_aload_n hx hb dX12_of_16 rfl (lv_at hl 0 rfl) ?_
    refine lv_iload_n hx hb dX12_of_17 rfl (lv_at hl 2 rfl) ?_
    refine lv_bipush (v := 10) hx hb dX12_of_18 (by decide) ?_
    refine lv_bipush (v := 9) hx hb dX12_of_20 (by decide) ?_
    refine lv_aload_n hx hb dX12_of_22 rfl (lv_at hl 0 rfl) ?_
    refine fx_getI X h (k := 159) (j := 7) sh_159 rfl fl_RX12_150 dX12_of_23 ?_
    refine lv_iadd hx hb dX12_of_26 ?_
    refine fx_vi X h ym_X12_isIn yi_X12_isIn ys_X12_isIn (fx_s7 (List.mem_of_getElem? (i := 77) rfl) rfl) sh_159 rfl (c_X12_isIn l G hT) (As := [.int x2, .int (10 : Int32), .int ((9 : Int32) + (M3 159 7))]) (rest := []) rfl rfl ⟨Nat.le_of_ble_eq_true rfl, Nat.le_of_ble_eq_true rfl⟩ ⟨Nat.le_refl _, Nat.le_refl _⟩ hl.1 (Nat.le_of_ble_eq_true rfl) dX12_of_27 (fun r8 M7 H locs hT h => ?_)
    refine lv_if_eq (tgt := 45) hx hb dX12_of_30 (by decide) (fun hc9 => ?_) (fun hc9 => ?_)
    · have hT := hT.1 hc9
      refine lv_aload_n hx hb dX12_of_45 rfl (lv_at hl 0 rfl) ?_
      refine lv_iload_n hx hb dX12_of_46 rfl (lv_at hl 2 rfl) ?_
      refine lv_bipush (v := 20) hx hb dX12_of_47 (by decide) ?_
      refine lv_bipush (v := 19) hx hb dX12_of_49 (by decide) ?_
      refine lv_aload_n hx hb dX12_of_51 rfl (lv_at hl 0 rfl) ?_
      refine fx_getI X h (k := 159) (j := 7) sh_159 rfl fl_RX12_150 dX12_of_52 ?_
      refine lv_iadd hx hb dX12_of_55 ?_
      refine fx_vi X h ym_X12_isIn yi_X12_isIn ys_X12_isIn (fx_s7 (List.mem_of_getElem? (i := 77) rfl) rfl) sh_159 rfl (c_X12_isIn l G hT) (As := [.int x2, .int (20 : Int32), .int ((19 : Int32) + (M7 159 7))]) (rest := []) rfl rfl ⟨Nat.le_of_ble_eq_true rfl, Nat.le_of_ble_eq_true rfl⟩ ⟨Nat.le_refl _, Nat.le_refl _⟩ hl.1 (Nat.le_of_ble_eq_true rfl) dX12_of_56 (fun r12 M11 H locs hT h => ?_)
      refine lv_if_eq (tgt := 74) hx hb dX12_of_59 (by decide) (fun hc13 => ?_) (fun hc13 => ?_)
      · have hT := hT.1 hc13
        refine lv_aload_n hx hb dX12_of_74 rfl (lv_at hl 0 rfl) ?_
        refine lv_iload_n hx hb dX12_of_75 rfl (lv_at hl 2 rfl) ?_
        refine lv_bipush (v := 30) hx hb dX12_of_76 (by decide) ?_
        refine lv_bipush (v := 29) hx hb dX12_of_78 (by decide) ?_
        refine lv_aload_n hx hb dX12_of_80 rfl (lv_at hl 0 rfl) ?_
        refine fx_getI X h (k := 159) (j := 7) sh_159 rfl fl_RX12_150 dX12_of_81 ?_
        refine lv_iadd hx hb dX12_of_84 ?_
        refine fx_vi X h ym_X12_isIn yi_X12_isIn ys_X12_isIn (fx_s7 (List.mem_of_getElem? (i := 77) rfl) rfl) sh_159 rfl (c_X12_isIn l G hT) (As := [.int x2, .int (30 : Int32), .int ((29 : Int32) + (M11 159 7))]) (rest := []) rfl rfl ⟨Nat.le_of_ble_eq_true rfl, Nat.le_of_ble_eq_true rfl⟩ ⟨Nat.le_refl _, Nat.le_refl _⟩ hl.1 (Nat.le_of_ble_eq_true rfl) dX12_of_85 (fun r16 M15 H locs hT h => ?_)
        refine lv_if_eq (tgt := 103) hx hb dX12_of_88 (by decide) (fun hc17 => ?_) (fun hc17 => ?_)
        · have hT := hT.1 hc17
          refine lv_iload_n hx hb dX12_of_103 rfl (lv_at hl 2 rfl) ?_
          refine lv_if_ne (tgt := 114) hx hb dX12_of_104 (by decide) (fun hc18 => ?_) (fun hc18 => ?_)
          · have hT := hT.2 hc18
            refine lv_iload_n hx hb dX12_of_114 rfl (lv_at hl 2 rfl) ?_
            refine lv_iconst (v := 1) hx hb dX12_of_115 (by decide) ?_
            refine lv_icmp_ne (tgt := 126) hx hb dX12_of_116 (by decide) (fun hc19 => ?_) (fun hc19 => ?_)
            · have hT := hT.2 hc19
              refine lv_iload_n hx hb dX12_of_126 rfl (lv_at hl 2 rfl) ?_
              refine lv_iconst (v := 2) hx hb dX12_of_127 (by decide) ?_
              refine lv_icmp_ne (tgt := 138) hx hb dX12_of_128 (by decide) (fun hc20 => ?_) (fun hc20 => ?_)
              · have hT := hT.2 hc20
                refine lv_iload_n hx hb dX12_of_138 rfl (lv_at hl 2 rfl) ?_
                refine lv_iconst (v := 3) hx hb dX12_of_139 (by decide) ?_
                refine lv_icmp_ne (tgt := 155) hx hb dX12_of_140 (by decide) (fun hc21 => ?_) (fun hc21 => ?_)
                · have hT := hT.2 hc21
                  refine lv_iload_n hx hb dX12_of_155 rfl (lv_at hl 2 rfl) ?_
                  refine lv_iconst (v := 4) hx hb dX12_of_156 (by decide) ?_
                  refine lv_icmp_ne (tgt := 174) hx hb dX12_of_157 (by decide) (fun hc22 => ?_) (fun hc22 => ?_)
                  · have hT := hT.2 hc22
                    refine lv_iload_n hx hb dX12_of_174 rfl (lv_at hl 2 rfl) ?_
                    refine lv_iconst (v := 5) hx hb dX12_of_175 (by decide) ?_
                    refine lv_icmp_ne (tgt := 191) hx hb dX12_of_176 (by decide) (fun hc23 => ?_) (fun hc23 => ?_)
                    · have hT := hT.2 hc23
                      refine lv_bipush (v := -2) hx hb dX12_of_191 (by decide) ?_
                      exact fx_iret X hr hk h hT dX12_of_193
                    · have hT := hT.1 hc23
                      refine lv_aload_n hx hb dX12_of_179 rfl (lv_at hl 0 rfl) ?_
                      refine fx_getR X h (k := 159) (j := 1) (r := 160) sh_159 rfl fl_RX12_7 dX12_of_180 ?_
                      refine lv_bipush (v := 39) hx hb dX12_of_183 (by decide) ?_
                      refine lv_iload_n hx hb dX12_of_185 rfl (lv_at hl 1 rfl) ?_
                      refine lv_iadd hx hb dX12_of_186 ?_
                      obtain ⟨hi24, hT⟩ := hT
                      refine fx_iald X h (k := 160) sh_160 hi24 dX12_of_187 ?_
                      refine lv_goto (tgt := 193) hx hb dX12_of_188 (by decide) ?_
                      exact fx_iret X hr hk h hT dX12_of_193
                  · have hT := hT.1 hc22
                    refine lv_aload_n hx hb dX12_of_160 rfl (lv_at hl 0 rfl) ?_
                    refine fx_getR X h (k := 159) (j := 1) (r := 160) sh_159 rfl fl_RX12_7 dX12_of_161 ?_
                    refine lv_bipush (v := 23) hx hb dX12_of_164 (by decide) ?_
                    refine lv_iload_n hx hb dX12_of_166 rfl (lv_at hl 1 rfl) ?_
                    refine lv_iadd hx hb dX12_of_167 ?_
                    obtain ⟨hi25, hT⟩ := hT
                    refine fx_iald X h (k := 160) sh_160 hi25 dX12_of_168 ?_
                    refine lv_iconst (v := 1) hx hb dX12_of_169 (by decide) ?_
                    refine lv_isub hx hb dX12_of_170 ?_
                    refine lv_goto (tgt := 193) hx hb dX12_of_171 (by decide) ?_
                    exact fx_iret X hr hk h hT dX12_of_193
                · have hT := hT.1 hc21
                  refine lv_aload_n hx hb dX12_of_143 rfl (lv_at hl 0 rfl) ?_
                  refine fx_getR X h (k := 159) (j := 1) (r := 160) sh_159 rfl fl_RX12_7 dX12_of_144 ?_
                  refine lv_bipush (v := 7) hx hb dX12_of_147 (by decide) ?_
                  refine lv_iload_n hx hb dX12_of_149 rfl (lv_at hl 1 rfl) ?_
                  refine lv_iadd hx hb dX12_of_150 ?_
                  obtain ⟨hi26, hT⟩ := hT
                  refine fx_iald X h (k := 160) sh_160 hi26 dX12_of_151 ?_
                  refine lv_iconst (v := 1) hx hb dX12_of_152 (by decide) ?_
                  refine lv_isub hx hb dX12_of_153 ?_
                  exact fx_iret X hr hk h hT dX12_of_154
              · have hT := hT.1 hc20
                refine lv_aload_n hx hb dX12_of_131 rfl (lv_at hl 0 rfl) ?_
                refine fx_getR X h (k := 159) (j := 10) (r := 165) sh_159 rfl fl_RX12_25 dX12_of_132 ?_
                refine lv_iload_n hx hb dX12_of_135 rfl (lv_at hl 1 rfl) ?_
                obtain ⟨hi27, hT⟩ := hT
                refine fx_iald X h (k := 165) sh_165 hi27 dX12_of_136 ?_
                exact fx_iret X hr hk h hT dX12_of_137
            · have hT := hT.1 hc19
              refine lv_aload_n hx hb dX12_of_119 rfl (lv_at hl 0 rfl) ?_
              refine fx_getR X h (k := 159) (j := 9) (r := 164) sh_159 rfl fl_RX12_22 dX12_of_120 ?_
              refine lv_iload_n hx hb dX12_of_123 rfl (lv_at hl 1 rfl) ?_
              obtain ⟨hi28, hT⟩ := hT
              refine fx_iald X h (k := 164) sh_164 hi28 dX12_of_124 ?_
              exact fx_iret X hr hk h hT dX12_of_125
          · have hT := hT.1 hc18
            refine lv_aload_n hx hb dX12_of_107 rfl (lv_at hl 0 rfl) ?_
            refine fx_getR X h (k := 159) (j := 8) (r := 163) sh_159 rfl fl_RX12_19 dX12_of_108 ?_
            refine lv_iload_n hx hb dX12_of_111 rfl (lv_at hl 1 rfl) ?_
            obtain ⟨hi29, hT⟩ := hT
            refine fx_iald X h (k := 163) sh_163 hi29 dX12_of_112 ?_
            exact fx_iret X hr hk h hT dX12_of_113
        · have hT := hT.2 hc17
          refine lv_aload_n hx hb dX12_of_91 rfl (lv_at hl 0 rfl) ?_
          refine lv_iload_n hx hb dX12_of_92 rfl (lv_at hl 1 rfl) ?_
          refine lv_iload_n hx hb dX12_of_93 rfl (lv_at hl 2 rfl) ?_
          refine lv_bipush (v := 30) hx hb dX12_of_94 (by decide) ?_
          refine lv_isub hx hb dX12_of_96 ?_
          refine lv_iconst (v := 0) hx hb dX12_of_97 (by decide) ?_
          refine lv_iconst (v := 0) hx hb dX12_of_98 (by decide) ?_
          refine fx_vi X h ym_X12_fullOf yi_X12_fullOf ys_X12_fullOf (fx_s8 (List.mem_of_getElem? (i := 91) rfl) rfl) sh_159 rfl (c_X12_fullOf l G hT) (As := [.int x1, .int (x2 - (30 : Int32)), .int (0 : Int32), .int (0 : Int32)]) (rest := []) rfl rfl ⟨Nat.le_of_ble_eq_true rfl, Nat.le_of_ble_eq_true rfl⟩ ⟨Nat.le_refl _, Nat.le_refl _⟩ hl.1 (Nat.le_of_ble_eq_true rfl) dX12_of_99 (fun r32 M31 H locs hT h => ?_)
          exact fx_iret X hr hk h hT dX12_of_102
      · have hT := hT.2 hc13
        refine lv_aload_n hx hb dX12_of_62 rfl (lv_at hl 0 rfl) ?_
        refine lv_iload_n hx hb dX12_of_63 rfl (lv_at hl 1 rfl) ?_
        refine lv_iload_n hx hb dX12_of_64 rfl (lv_at hl 2 rfl) ?_
        refine lv_bipush (v := 20) hx hb dX12_of_65 (by decide) ?_
        refine lv_isub hx hb dX12_of_67 ?_
        refine lv_iconst (v := 0) hx hb dX12_of_68 (by decide) ?_
        refine lv_iconst (v := 0) hx hb dX12_of_69 (by decide) ?_
        refine fx_vi X h ym_X12_stepOf yi_X12_stepOf ys_X12_stepOf (fx_s8 (List.mem_of_getElem? (i := 79) rfl) rfl) sh_159 rfl (c_X12_stepOf l G hT) (As := [.int x1, .int (x2 - (20 : Int32)), .int (0 : Int32), .int (0 : Int32)]) (rest := []) rfl rfl ⟨Nat.le_of_ble_eq_true rfl, Nat.le_of_ble_eq_true rfl⟩ ⟨Nat.le_refl _, Nat.le_refl _⟩ hl.1 (Nat.le_of_ble_eq_true rfl) dX12_of_70 (fun r35 M34 H locs hT h => ?_)
        exact fx_iret X hr hk h hT dX12_of_73
    · have hT := hT.2 hc9
      refine lv_aload_n hx hb dX12_of_33 rfl (lv_at hl 0 rfl) ?_
      refine lv_iload_n hx hb dX12_of_34 rfl (lv_at hl 1 rfl) ?_
      refine lv_iload_n hx hb dX12_of_35 rfl (lv_at hl 2 rfl) ?_
      refine lv_bipush (v := 10) hx hb dX12_of_36 (by decide) ?_
      refine lv_isub hx hb dX12_of_38 ?_
      refine lv_iconst (v := 0) hx hb dX12_of_39 (by decide) ?_
      refine lv_iconst (v := 0) hx hb dX12_of_40 (by decide) ?_
      refine fx_vi X h ym_X12_bidsOf yi_X12_bidsOf ys_X12_bidsOf (fx_s8 (List.mem_of_getElem? (i := 37) rfl) rfl) sh_159 rfl (c_X12_bidsOf l G hT) (As := [.int x1, .int (x2 - (10 : Int32)), .int (0 : Int32), .int (0 : Int32)]) (rest := []) rfl rfl ⟨Nat.le_of_ble_eq_true rfl, Nat.le_of_ble_eq_true rfl⟩ ⟨Nat.le_refl _, Nat.le_refl _⟩ hl.1 (Nat.le_of_ble_eq_true rfl) dX12_of_41 (fun r38 M37 H locs hT h => ?_)
      exact fx_iret X hr hk h hT dX12_of_44
  · have hT := hT.1 hc5
    refine lv_bipush (v := -2) hx hb dX12_of_13 (by decide) ?_
    exact fx_iret X hr hk h hT dX12_of_15
/-! MockParcelsModel.who(II)I -/
theorem dX12_who_0 : decode cX12_who 0 = .ok (.aload_n 0, 1) := by decide +kernel
theorem dX12_who_1 : decode cX12_who 1 = .ok (.iconst 0, 1) := by decide +kernel
theorem dX12_who_2 : decode cX12_who 2 = .ok (.putfield 134, 3) := by decide +kernel
theorem dX12_who_5 : decode cX12_who 5 = .ok (.aload_n 0, 1) := by decide +kernel
theorem dX12_who_6 : decode cX12_who 6 = .ok (.iload_n 1, 1) := by decide +kernel
theorem dX12_who_7 : decode cX12_who 7 = .ok (.invokevirtual 161, 3) := by decide +kernel
theorem dX12_who_10 : decode cX12_who 10 = .ok (.ifCond .ne 6, 3) := by decide +kernel
theorem dX12_who_13 : decode cX12_who 13 = .ok (.bipush (-2), 2) := by decide +kernel
theorem dX12_who_15 : decode cX12_who 15 = .ok (.ireturn, 1) := by decide +kernel
theorem dX12_who_16 : decode cX12_who 16 = .ok (.iload_n 2, 1) := by decide +kernel
theorem dX12_who_17 : decode cX12_who 17 = .ok (.ifCond .ne 13, 3) := by decide +kernel
theorem dX12_who_20 : decode cX12_who 20 = .ok (.aload_n 0, 1) := by decide +kernel
theorem dX12_who_21 : decode cX12_who 21 = .ok (.getfield 7, 3) := by decide +kernel
theorem dX12_who_24 : decode cX12_who 24 = .ok (.bipush 55, 2) := by decide +kernel
theorem dX12_who_26 : decode cX12_who 26 = .ok (.iload_n 1, 1) := by decide +kernel
theorem dX12_who_27 : decode cX12_who 27 = .ok (.iadd, 1) := by decide +kernel
theorem dX12_who_28 : decode cX12_who 28 = .ok (.iaload, 1) := by decide +kernel
theorem dX12_who_29 : decode cX12_who 29 = .ok (.ireturn, 1) := by decide +kernel
theorem dX12_who_30 : decode cX12_who 30 = .ok (.iload_n 2, 1) := by decide +kernel
theorem dX12_who_31 : decode cX12_who 31 = .ok (.iconst 1, 1) := by decide +kernel
theorem dX12_who_32 : decode cX12_who 32 = .ok (.if_icmp .ne 10, 3) := by decide +kernel
theorem dX12_who_35 : decode cX12_who 35 = .ok (.aload_n 0, 1) := by decide +kernel
theorem dX12_who_36 : decode cX12_who 36 = .ok (.getfield 28, 3) := by decide +kernel
theorem dX12_who_39 : decode cX12_who 39 = .ok (.iload_n 1, 1) := by decide +kernel
theorem dX12_who_40 : decode cX12_who 40 = .ok (.iaload, 1) := by decide +kernel
theorem dX12_who_41 : decode cX12_who 41 = .ok (.ireturn, 1) := by decide +kernel
theorem dX12_who_42 : decode cX12_who 42 = .ok (.iload_n 2, 1) := by decide +kernel
theorem dX12_who_43 : decode cX12_who 43 = .ok (.iconst 2, 1) := by decide +kernel
theorem dX12_who_44 : decode cX12_who 44 = .ok (.if_icmp .ne 10, 3) := by decide +kernel
theorem dX12_who_47 : decode cX12_who 47 = .ok (.aload_n 0, 1) := by decide +kernel
theorem dX12_who_48 : decode cX12_who 48 = .ok (.getfield 31, 3) := by decide +kernel
theorem dX12_who_51 : decode cX12_who 51 = .ok (.iload_n 1, 1) := by decide +kernel
theorem dX12_who_52 : decode cX12_who 52 = .ok (.iaload, 1) := by decide +kernel
theorem dX12_who_53 : decode cX12_who 53 = .ok (.ireturn, 1) := by decide +kernel
theorem dX12_who_54 : decode cX12_who 54 = .ok (.iload_n 2, 1) := by decide +kernel
theorem dX12_who_55 : decode cX12_who 55 = .ok (.iconst 3, 1) := by decide +kernel
theorem dX12_who_56 : decode cX12_who 56 = .ok (.if_icmp .ne 13, 3) := by decide +kernel
theorem dX12_who_59 : decode cX12_who 59 = .ok (.aload_n 0, 1) := by decide +kernel
theorem dX12_who_60 : decode cX12_who 60 = .ok (.getfield 7, 3) := by decide +kernel
theorem dX12_who_63 : decode cX12_who 63 = .ok (.bipush 63, 2) := by decide +kernel
theorem dX12_who_65 : decode cX12_who 65 = .ok (.iload_n 1, 1) := by decide +kernel
theorem dX12_who_66 : decode cX12_who 66 = .ok (.iadd, 1) := by decide +kernel
theorem dX12_who_67 : decode cX12_who 67 = .ok (.iaload, 1) := by decide +kernel
theorem dX12_who_68 : decode cX12_who 68 = .ok (.ireturn, 1) := by decide +kernel
theorem dX12_who_69 : decode cX12_who 69 = .ok (.iload_n 2, 1) := by decide +kernel
theorem dX12_who_70 : decode cX12_who 70 = .ok (.iconst 4, 1) := by decide +kernel
theorem dX12_who_71 : decode cX12_who 71 = .ok (.if_icmp .ne 12, 3) := by decide +kernel
theorem dX12_who_74 : decode cX12_who 74 = .ok (.aload_n 0, 1) := by decide +kernel
theorem dX12_who_75 : decode cX12_who 75 = .ok (.getfield 71, 3) := by decide +kernel
theorem dX12_who_78 : decode cX12_who 78 = .ok (.iload_n 1, 1) := by decide +kernel
theorem dX12_who_79 : decode cX12_who 79 = .ok (.iaload, 1) := by decide +kernel
theorem dX12_who_80 : decode cX12_who 80 = .ok (.iconst 1, 1) := by decide +kernel
theorem dX12_who_81 : decode cX12_who 81 = .ok (.isub, 1) := by decide +kernel
theorem dX12_who_82 : decode cX12_who 82 = .ok (.ireturn, 1) := by decide +kernel
theorem dX12_who_83 : decode cX12_who 83 = .ok (.aload_n 0, 1) := by decide +kernel
theorem dX12_who_84 : decode cX12_who 84 = .ok (.iload_n 2, 1) := by decide +kernel
theorem dX12_who_85 : decode cX12_who 85 = .ok (.bipush 11, 2) := by decide +kernel
theorem dX12_who_87 : decode cX12_who 87 = .ok (.bipush 17, 2) := by decide +kernel
theorem dX12_who_89 : decode cX12_who 89 = .ok (.invokevirtual 157, 3) := by decide +kernel
theorem dX12_who_92 : decode cX12_who 92 = .ok (.ifCond .eq 13, 3) := by decide +kernel
theorem dX12_who_95 : decode cX12_who 95 = .ok (.aload_n 0, 1) := by decide +kernel
theorem dX12_who_96 : decode cX12_who 96 = .ok (.iload_n 1, 1) := by decide +kernel
theorem dX12_who_97 : decode cX12_who 97 = .ok (.iload_n 2, 1) := by decide +kernel
theorem dX12_who_98 : decode cX12_who 98 = .ok (.bipush 10, 2) := by decide +kernel
theorem dX12_who_100 : decode cX12_who 100 = .ok (.isub, 1) := by decide +kernel
theorem dX12_who_101 : decode cX12_who 101 = .ok (.invokevirtual 153, 3) := by decide +kernel
theorem dX12_who_104 : decode cX12_who 104 = .ok (.ireturn, 1) := by decide +kernel
theorem dX12_who_105 : decode cX12_who 105 = .ok (.aload_n 0, 1) := by decide +kernel
theorem dX12_who_106 : decode cX12_who 106 = .ok (.iload_n 2, 1) := by decide +kernel
theorem dX12_who_107 : decode cX12_who 107 = .ok (.bipush 21, 2) := by decide +kernel
theorem dX12_who_109 : decode cX12_who 109 = .ok (.bipush 27, 2) := by decide +kernel
theorem dX12_who_111 : decode cX12_who 111 = .ok (.invokevirtual 157, 3) := by decide +kernel
theorem dX12_who_114 : decode cX12_who 114 = .ok (.ifCond .eq 20, 3) := by decide +kernel
theorem dX12_who_117 : decode cX12_who 117 = .ok (.aload_n 0, 1) := by decide +kernel
theorem dX12_who_118 : decode cX12_who 118 = .ok (.getfield 77, 3) := by decide +kernel
theorem dX12_who_121 : decode cX12_who 121 = .ok (.bipush 8, 2) := by decide +kernel
theorem dX12_who_123 : decode cX12_who 123 = .ok (.iload_n 1, 1) := by decide +kernel
theorem dX12_who_124 : decode cX12_who 124 = .ok (.imul, 1) := by decide +kernel
theorem dX12_who_125 : decode cX12_who 125 = .ok (.iload_n 2, 1) := by decide +kernel
theorem dX12_who_126 : decode cX12_who 126 = .ok (.iadd, 1) := by decide +kernel
theorem dX12_who_127 : decode cX12_who 127 = .ok (.bipush 20, 2) := by decide +kernel
theorem dX12_who_129 : decode cX12_who 129 = .ok (.isub, 1) := by decide +kernel
theorem dX12_who_130 : decode cX12_who 130 = .ok (.iaload, 1) := by decide +kernel
theorem dX12_who_131 : decode cX12_who 131 = .ok (.goto 5, 3) := by decide +kernel
theorem dX12_who_134 : decode cX12_who 134 = .ok (.bipush (-2), 2) := by decide +kernel
theorem dX12_who_136 : decode cX12_who 136 = .ok (.ireturn, 1) := by decide +kernel
def T_X12_who (x1 : Int32) (x2 : Int32) (M : Mm) (K : Int32 → Mm → Prop) : Prop := (∀ M1 : Mm, M1 = m_up M 159 0 (0 : Int32) → (T_X12_isBidder x1 M1 (fun r4 M3 => ((r4 = 0 → (K (-2 : Int32) M3)) ∧ (¬ r4 = 0 → ((x2 = 0 → (vp_in ((55 : Int32) + x1) 135 ∧ (K (M3 160 (((55 : Int32) + x1)).toNatClampNeg) M3))) ∧ (¬ x2 = 0 → ((x2 = (1 : Int32) → (vp_in x1 8 ∧ (K (M3 166 (x1).toNatClampNeg) M3))) ∧ (¬ x2 = (1 : Int32) → ((x2 = (2 : Int32) → (vp_in x1 8 ∧ (K (M3 167 (x1).toNatClampNeg) M3))) ∧ (¬ x2 = (2 : Int32) → ((x2 = (3 : Int32) → (vp_in ((63 : Int32) + x1) 135 ∧ (K (M3 160 (((63 : Int32) + x1)).toNatClampNeg) M3))) ∧ (¬ x2 = (3 : Int32) → ((x2 = (4 : Int32) → (vp_in x1 16 ∧ (K ((M3 179 (x1).toNatClampNeg) - (1 : Int32)) M3))) ∧ (¬ x2 = (4 : Int32) → (T_X12_isIn x2 (11 : Int32) (17 : Int32) M3 (fun r13 M12 => ((r13 = 0 → (T_X12_isIn x2 (21 : Int32) (27 : Int32) M12 (fun r17 M16 => ((r17 = 0 → (K (-2 : Int32) M16)) ∧ (¬ r17 = 0 → (vp_in ((((8 : Int32) * x1) + x2) - (20 : Int32)) 128 ∧ (K (M16 181 (((((8 : Int32) * x1) + x2) - (20 : Int32))).toNatClampNeg) M16))))))) ∧ (¬ r13 = 0 → (T_X12_hasOf x1 (x2 - (10 : Int32)) M12 (fun r22 M21 => (K r22 M21))))))))))))))))))))))
set_option maxHeartbeats 4000000 in
set_option maxRecDepth 100000 in
theorem c_X12_who (l : Launch) (G : fx_G) {x1 : Int32} {x2 : Int32} {M : Mm} {K : Int32 → Mm → Prop} (hT : T_X12_who x1 x2 M K) : Met l yX12_who (fx_ws yX12_who cX12_who 3 (some .int)) (fx_rm (1)) (va_Pc [.ref (G.2.2.2 + 159), .int x1, .int x2] (fx_P G SH M)) (va_Qi K (fx_R G SH) (fx_A G)) 0 0 (fx_A G) := by
  refine fx_met (own := RX12) (by decide +kernel) rfl (Nat.le_of_ble_eq_true rfl) (fun p e s m below meth c X hr hk h ls hl => ?_)
  obtain ⟨⟨hx, hb, hml, hown, hts⟩, hK, hQ⟩ := id X
  have hl : lv_has ls 3 [(0, .ref (G.2.2.2 + 159)), (1, .int x1), (2, .int x2)] := hl
  unfold T_X12_who at hT
  refine lv_aload_n hx hb dX12_who_0 rfl (lv_at hl 0 rfl) ?_
  refine lv_iconst (v := 0) hx hb dX12_who_1 (by decide) ?_
  refine fx_putI X h (k := 159) (j := 0) sh_159 rfl fl_RX12_134 dX12_who_2 (fun H locs h => ?_)
  obtain ⟨M1, eM1⟩ : ∃ z : Mm, z = m_up M 159 0 (0 : Int32) := ⟨_, rfl⟩
  have hT := hT M1 eM1
  rw [← eM1] at h
  refine lv_aload_n hx hb dX12_who_5 rfl (lv_at hl 0 rfl) ?_
  refine lv_iload_n hx hb dX12_who_6 rfl (lv_at hl 1 rfl) ?_
  refine fx_vi X h ym_X12_isBidder yi_X12_isBidder ys_X12_isBidder (fx_s7 (List.mem_of_getElem? (i := 93) rfl) rfl) sh_159 rfl (c_X12_isBidder l G hT) (As := [.int x1]) (rest := []) rfl rfl ⟨Nat.le_of_ble_eq_true rfl, Nat.le_of_ble_eq_true rfl⟩ ⟨Nat.le_refl _, Nat.le_refl _⟩ hl.1 (Nat.le_of_ble_eq_true rfl) dX12_who_7 (fun r4 M3 H locs hT h => ?_)
  refine lv_if_ne (tgt := 16) hx hb dX12_who_10 (by decide) (fun hc5 => ?_) (fun hc5 => ?_)
  · have hT := hT.2 hc5
    refine lv_iload_n hx hb dX12_who_16 rfl (lv_at hl 2 rfl) ?_
    refine lv_if_ne (tgt := 30) hx hb dX12_who_17 (by decide) (fun hc6 => ?_) (fun hc6 => ?_)
    · have hT := hT.2 hc6
      refine lv_iload_n hx hb dX12_who_30 rfl (lv_at hl 2 rfl) ?_
      refine lv_iconst (v := 1) hx hb dX12_who_31 (by decide) ?_
      refine lv_icmp_ne (tgt := 42) hx hb dX12_who_32 (by decide) (fun hc7 => ?_) (fun hc7 => ?_)
      · have hT := hT.2 hc7
        refine lv_iload_n hx hb dX12_who_42 rfl (lv_at hl 2 rfl) ?_
        refine lv_iconst (v := 2) hx hb dX12_who_43 (by decide) ?_
        refine lv_icmp_ne (tgt := 54) hx hb dX12_who_44 (by decide) (fun hc8 => ?_) (fun hc8 => ?_)
        · have hT := hT.2 hc8
          refine lv_iload_n hx hb dX12_who_54 rfl (lv_at hl 2 rfl) ?_
          refine lv_iconst (v := 3) hx hb dX12_who_55 (by decide) ?_
          refine lv_icmp_ne (tgt := 69) hx hb dX12_who_56 (by decide) (fun hc9 => ?_) (fun hc9 => ?_)
          · have hT := hT.2 hc9
            refine lv_iload_n hx hb dX12_who_69 rfl (lv_at hl 2 rfl) ?_
            refine lv_iconst (v := 4) hx hb dX12_who_70 (by decide) ?_
            refine lv_icmp_ne (tgt := 83) hx hb dX12_who_71 (by decide) (fun hc10 => ?_) (fun hc10 => ?_)
            · have hT := hT.2 hc10
              refine lv_aload_n hx hb dX12_who_83 rfl (lv_at hl 0 rfl) ?_
              refine lv_iload_n hx hb dX12_who_84 rfl (lv_at hl 2 rfl) ?_
              refine lv_bipush (v := 11) hx hb dX12_who_85 (by decide) ?_
              refine lv_bipush (v := 17) hx hb dX12_who_87 (by decide) ?_
              refine fx_vi X h ym_X12_isIn yi_X12_isIn ys_X12_isIn (fx_s7 (List.mem_of_getElem? (i := 77) rfl) rfl) sh_159 rfl (c_X12_isIn l G hT) (As := [.int x2, .int (11 : Int32), .int (17 : Int32)]) (rest := []) rfl rfl ⟨Nat.le_of_ble_eq_true rfl, Nat.le_of_ble_eq_true rfl⟩ ⟨Nat.le_refl _, Nat.le_refl _⟩ hl.1 (Nat.le_of_ble_eq_true rfl) dX12_who_89 (fun r13 M12 H locs hT h => ?_)
              refine lv_if_eq (tgt := 105) hx hb dX12_who_92 (by decide) (fun hc14 => ?_) (fun hc14 => ?_)
              · have hT := hT.1 hc14
                refine lv_aload_n hx hb dX12_who_105 rfl (lv_at hl 0 rfl) ?_
                refine lv_iload_n hx hb dX12_who_106 rfl (lv_at hl 2 rfl) ?_
                refine lv_bipush (v := 21) hx hb dX12_who_107 (by decide) ?_
                refine lv_bipush (v := 27) hx hb dX12_who_109 (by decide) ?_
                refine fx_vi X h ym_X12_isIn yi_X12_isIn ys_X12_isIn (fx_s7 (List.mem_of_getElem? (i := 77) rfl) rfl) sh_159 rfl (c_X12_isIn l G hT) (As := [.int x2, .int (21 : Int32), .int (27 : Int32)]) (rest := []) rfl rfl ⟨Nat.le_of_ble_eq_true rfl, Nat.le_of_ble_eq_true rfl⟩ ⟨Nat.le_refl _, Nat.le_refl _⟩ hl.1 (Nat.le_of_ble_eq_true rfl) dX12_who_111 (fun r17 M16 H locs hT h => ?_)
                refine lv_if_eq (tgt := 134) hx hb dX12_who_114 (by decide) (fun hc18 => ?_) (fun hc18 => ?_)
                · have hT := hT.1 hc18
                  refine lv_bipush (v := -2) hx hb dX12_who_134 (by decide) ?_
                  exact fx_iret X hr hk h hT dX12_who_136
                · have hT := hT.2 hc18
                  refine lv_aload_n hx hb dX12_who_117 rfl (lv_at hl 0 rfl) ?_
                  refine fx_getR X h (k := 159) (j := 42) (r := 181) sh_159 rfl fl_RX12_77 dX12_who_118 ?_
                  refine lv_bipush (v := 8) hx hb dX12_who_121 (by decide) ?_
                  refine lv_iload_n hx hb dX12_who_123 rfl (lv_at hl 1 rfl) ?_
                  refine lv_imul hx hb dX12_who_124 ?_
                  refine lv_iload_n hx hb dX12_who_125 rfl (lv_at hl 2 rfl) ?_
                  refine lv_iadd hx hb dX12_who_126 ?_
                  refine lv_bipush (v := 20) hx hb dX12_who_127 (by decide) ?_
                  refine lv_isub hx hb dX12_who_129 ?_
                  obtain ⟨hi19, hT⟩ := hT
                  refine fx_iald X h (k := 181) sh_181 hi19 dX12_who_130 ?_
                  refine lv_goto (tgt := 136) hx hb dX12_who_131 (by decide) ?_
                  exact fx_iret X hr hk h hT dX12_who_136
              · have hT := hT.2 hc14
                refine lv_aload_n hx hb dX12_who_95 rfl (lv_at hl 0 rfl) ?_
                refine lv_iload_n hx hb dX12_who_96 rfl (lv_at hl 1 rfl) ?_
                refine lv_iload_n hx hb dX12_who_97 rfl (lv_at hl 2 rfl) ?_
                refine lv_bipush (v := 10) hx hb dX12_who_98 (by decide) ?_
                refine lv_isub hx hb dX12_who_100 ?_
                refine fx_vi X h ym_X12_hasOf yi_X12_hasOf ys_X12_hasOf (fx_s8 (List.mem_of_getElem? (i := 49) rfl) rfl) sh_159 rfl (c_X12_hasOf l G hT) (As := [.int x1, .int (x2 - (10 : Int32))]) (rest := []) rfl rfl ⟨Nat.le_of_ble_eq_true rfl, Nat.le_of_ble_eq_true rfl⟩ ⟨Nat.le_refl _, Nat.le_refl _⟩ hl.1 (Nat.le_of_ble_eq_true rfl) dX12_who_101 (fun r22 M21 H locs hT h => ?_)
                exact fx_iret X hr hk h hT dX12_who_104
            · have hT := hT.1 hc10
              refine lv_aload_n hx hb dX12_who_74 rfl (lv_at hl 0 rfl) ?_
              refine fx_getR X h (k := 159) (j := 38) (r := 179) sh_159 rfl fl_RX12_71 dX12_who_75 ?_
              refine lv_iload_n hx hb dX12_who_78 rfl (lv_at hl 1 rfl) ?_
              obtain ⟨hi23, hT⟩ := hT
              refine fx_iald X h (k := 179) sh_179 hi23 dX12_who_79 ?_
              refine lv_iconst (v := 1) hx hb dX12_who_80 (by decide) ?_
              refine lv_isub hx hb dX12_who_81 ?_
              exact fx_iret X hr hk h hT dX12_who_82
          · have hT := hT.1 hc9
            refine lv_aload_n hx hb dX12_who_59 rfl (lv_at hl 0 rfl) ?_
            refine fx_getR X h (k := 159) (j := 1) (r := 160) sh_159 rfl fl_RX12_7 dX12_who_60 ?_
            refine lv_bipush (v := 63) hx hb dX12_who_63 (by decide) ?_
            refine lv_iload_n hx hb dX12_who_65 rfl (lv_at hl 1 rfl) ?_
            refine lv_iadd hx hb dX12_who_66 ?_
            obtain ⟨hi24, hT⟩ := hT
            refine fx_iald X h (k := 160) sh_160 hi24 dX12_who_67 ?_
            exact fx_iret X hr hk h hT dX12_who_68
        · have hT := hT.1 hc8
          refine lv_aload_n hx hb dX12_who_47 rfl (lv_at hl 0 rfl) ?_
          refine fx_getR X h (k := 159) (j := 12) (r := 167) sh_159 rfl fl_RX12_31 dX12_who_48 ?_
          refine lv_iload_n hx hb dX12_who_51 rfl (lv_at hl 1 rfl) ?_
          obtain ⟨hi25, hT⟩ := hT
          refine fx_iald X h (k := 167) sh_167 hi25 dX12_who_52 ?_
          exact fx_iret X hr hk h hT dX12_who_53
      · have hT := hT.1 hc7
        refine lv_aload_n hx hb dX12_who_35 rfl (lv_at hl 0 rfl) ?_
        refine fx_getR X h (k := 159) (j := 11) (r := 166) sh_159 rfl fl_RX12_28 dX12_who_36 ?_
        refine lv_iload_n hx hb dX12_who_39 rfl (lv_at hl 1 rfl) ?_
        obtain ⟨hi26, hT⟩ := hT
        refine fx_iald X h (k := 166) sh_166 hi26 dX12_who_40 ?_
        exact fx_iret X hr hk h hT dX12_who_41
    · have hT := hT.1 hc6
      refine lv_aload_n hx hb dX12_who_20 rfl (lv_at hl 0 rfl) ?_
      refine fx_getR X h (k := 159) (j := 1) (r := 160) sh_159 rfl fl_RX12_7 dX12_who_21 ?_
      refine lv_bipush (v := 55) hx hb dX12_who_24 (by decide) ?_
      refine lv_iload_n hx hb dX12_who_26 rfl (lv_at hl 1 rfl) ?_
      refine lv_iadd hx hb dX12_who_27 ?_
      obtain ⟨hi27, hT⟩ := hT
      refine fx_iald X h (k := 160) sh_160 hi27 dX12_who_28 ?_
      exact fx_iret X hr hk h hT dX12_who_29
  · have hT := hT.1 hc5
    refine lv_bipush (v := -2) hx hb dX12_who_13 (by decide) ?_
    exact fx_iret X hr hk h hT dX12_who_15
/-! MockParcelsModel.book(II)I -/
theorem dX12_book_0 : decode cX12_book 0 = .ok (.aload_n 0, 1) := by decide +kernel
theorem dX12_book_1 : decode cX12_book 1 = .ok (.iconst 0, 1) := by decide +kernel
theorem dX12_book_2 : decode cX12_book 2 = .ok (.putfield 134, 3) := by decide +kernel
theorem dX12_book_5 : decode cX12_book 5 = .ok (.aload_n 0, 1) := by decide +kernel
theorem dX12_book_6 : decode cX12_book 6 = .ok (.iload_n 1, 1) := by decide +kernel
theorem dX12_book_7 : decode cX12_book 7 = .ok (.iconst 0, 1) := by decide +kernel
theorem dX12_book_8 : decode cX12_book 8 = .ok (.aload_n 0, 1) := by decide +kernel
theorem dX12_book_9 : decode cX12_book 9 = .ok (.getfield 7, 3) := by decide +kernel
theorem dX12_book_12 : decode cX12_book 12 = .ok (.iconst 2, 1) := by decide +kernel
theorem dX12_book_13 : decode cX12_book 13 = .ok (.iaload, 1) := by decide +kernel
theorem dX12_book_14 : decode cX12_book 14 = .ok (.iconst 1, 1) := by decide +kernel
theorem dX12_book_15 : decode cX12_book 15 = .ok (.isub, 1) := by decide +kernel
theorem dX12_book_16 : decode cX12_book 16 = .ok (.invokevirtual 157, 3) := by decide +kernel
theorem dX12_book_19 : decode cX12_book 19 = .ok (.ifCond .eq 26, 3) := by decide +kernel
theorem dX12_book_22 : decode cX12_book 22 = .ok (.aload_n 0, 1) := by decide +kernel
theorem dX12_book_23 : decode cX12_book 23 = .ok (.iload_n 2, 1) := by decide +kernel
theorem dX12_book_24 : decode cX12_book 24 = .ok (.iconst 0, 1) := by decide +kernel
theorem dX12_book_25 : decode cX12_book 25 = .ok (.iconst 3, 1) := by decide +kernel
theorem dX12_book_26 : decode cX12_book 26 = .ok (.invokevirtual 157, 3) := by decide +kernel
theorem dX12_book_29 : decode cX12_book 29 = .ok (.ifCond .eq 16, 3) := by decide +kernel
theorem dX12_book_32 : decode cX12_book 32 = .ok (.aload_n 0, 1) := by decide +kernel
theorem dX12_book_33 : decode cX12_book 33 = .ok (.getfield 34, 3) := by decide +kernel
theorem dX12_book_36 : decode cX12_book 36 = .ok (.iconst 4, 1) := by decide +kernel
theorem dX12_book_37 : decode cX12_book 37 = .ok (.iload_n 1, 1) := by decide +kernel
theorem dX12_book_38 : decode cX12_book 38 = .ok (.imul, 1) := by decide +kernel
theorem dX12_book_39 : decode cX12_book 39 = .ok (.iload_n 2, 1) := by decide +kernel
theorem dX12_book_40 : decode cX12_book 40 = .ok (.iadd, 1) := by decide +kernel
theorem dX12_book_41 : decode cX12_book 41 = .ok (.iaload, 1) := by decide +kernel
theorem dX12_book_42 : decode cX12_book 42 = .ok (.goto 4, 3) := by decide +kernel
theorem dX12_book_45 : decode cX12_book 45 = .ok (.iconst (-1), 1) := by decide +kernel
theorem dX12_book_46 : decode cX12_book 46 = .ok (.ireturn, 1) := by decide +kernel
def T_X12_book (x1 : Int32) (x2 : Int32) (M : Mm) (K : Int32 → Mm → Prop) : Prop := (∀ M1 : Mm, M1 = m_up M 159 0 (0 : Int32) → (T_X12_isIn x1 (0 : Int32) ((M1 160 2) - (1 : Int32)) M1 (fun r4 M3 => ((r4 = 0 → (K (-1 : Int32) M3)) ∧ (¬ r4 = 0 → (T_X12_isIn x2 (0 : Int32) (3 : Int32) M3 (fun r8 M7 => ((r8 = 0 → (K (-1 : Int32) M7)) ∧ (¬ r8 = 0 → (vp_in (((4 : Int32) * x1) + x2) 600 ∧ (K (M7 168 ((((4 : Int32) * x1) + x2)).toNatClampNeg) M7)))))))))))
set_option maxHeartbeats 4000000 in
set_option maxRecDepth 100000 in
theorem c_X12_book (l : Launch) (G : fx_G) {x1 : Int32} {x2 : Int32} {M : Mm} {K : Int32 → Mm → Prop} (hT : T_X12_book x1 x2 M K) : Met l yX12_book (fx_ws yX12_book cX12_book 3 (some .int)) (fx_rm (1)) (va_Pc [.ref (G.2.2.2 + 159), .int x1, .int x2] (fx_P G SH M)) (va_Qi K (fx_R G SH) (fx_A G)) 0 0 (fx_A G) := by
  refine fx_met (own := RX12) (by decide +kernel) rfl (Nat.le_of_ble_eq_true rfl) (fun p e s m below meth c X hr hk h ls hl => ?_)
  obtain ⟨⟨hx, hb, hml, hown, hts⟩, hK, hQ⟩ := id X
  have hl : lv_has ls 3 [(0, .ref (G.2.2.2 + 159)), (1, .int x1), (2, .int x2)] := hl
  unfold T_X12_book at hT
  refine lv_aload_n hx hb dX12_book_0 rfl (lv_at hl 0 rfl) ?_
  refine lv_iconst (v := 0) hx hb dX12_book_1 (by decide) ?_
  refine fx_putI X h (k := 159) (j := 0) sh_159 rfl fl_RX12_134 dX12_book_2 (fun H locs h => ?_)
  obtain ⟨M1, eM1⟩ : ∃ z : Mm, z = m_up M 159 0 (0 : Int32) := ⟨_, rfl⟩
  have hT := hT M1 eM1
  rw [← eM1] at h
  refine lv_aload_n hx hb dX12_book_5 rfl (lv_at hl 0 rfl) ?_
  refine lv_iload_n hx hb dX12_book_6 rfl (lv_at hl 1 rfl) ?_
  refine lv_iconst (v := 0) hx hb dX12_book_7 (by decide) ?_
  refine lv_aload_n hx hb dX12_book_8 rfl (lv_at hl 0 rfl) ?_
  refine fx_getR X h (k := 159) (j := 1) (r := 160) sh_159 rfl fl_RX12_7 dX12_book_9 ?_
  refine lv_iconst (v := 2) hx hb dX12_book_12 (by decide) ?_
  refine fx_iald X h (k := 160) sh_160 (by unfold vp_in; decide) dX12_book_13 ?_
  rw [show ((2 : Int32)).toNatClampNeg = 2 by decide]
  refine lv_iconst (v := 1) hx hb dX12_book_14 (by decide) ?_
  refine lv_isub hx hb dX12_book_15 ?_
  refine fx_vi X h ym_X12_isIn yi_X12_isIn ys_X12_isIn (fx_s7 (List.mem_of_getElem? (i := 77) rfl) rfl) sh_159 rfl (c_X12_isIn l G hT) (As := [.int x1, .int (0 : Int32), .int ((M1 160 2) - (1 : Int32))]) (rest := []) rfl rfl ⟨Nat.le_of_ble_eq_true rfl, Nat.le_of_ble_eq_true rfl⟩ ⟨Nat.le_refl _, Nat.le_refl _⟩ hl.1 (Nat.le_of_ble_eq_true rfl) dX12_book_16 (fun r4 M3 H locs hT h => ?_)
  refine lv_if_eq (tgt := 45) hx hb dX12_book_19 (by decide) (fun hc5 => ?_) (fun hc5 => ?_)
  · have hT := hT.1 hc5
    refine lv_iconst (v := -1) hx hb dX12_book_45 (by decide) ?_
    exact fx_iret X hr hk h hT dX12_book_46
  · have hT := hT.2 hc5
    refine lv_aload_n hx hb dX12_book_22 rfl (lv_at hl 0 rfl) ?_
    refine lv_iload_n hx hb dX12_book_23 rfl (lv_at hl 2 rfl) ?_
    refine lv_iconst (v := 0) hx hb dX12_book_24 (by decide) ?_
    refine lv_iconst (v := 3) hx hb dX12_book_25 (by decide) ?_
    refine fx_vi X h ym_X12_isIn yi_X12_isIn ys_X12_isIn (fx_s7 (List.mem_of_getElem? (i := 77) rfl) rfl) sh_159 rfl (c_X12_isIn l G hT) (As := [.int x2, .int (0 : Int32), .int (3 : Int32)]) (rest := []) rfl rfl ⟨Nat.le_of_ble_eq_true rfl, Nat.le_of_ble_eq_true rfl⟩ ⟨Nat.le_refl _, Nat.le_refl _⟩ hl.1 (Nat.le_of_ble_eq_true rfl) dX12_book_26 (fun r8 M7 H locs hT h => ?_)
    refine lv_if_eq (tgt := 45) hx hb dX12_book_29 (by decide) (fun hc9 => ?_) (fun hc9 => ?_)
    · have hT := hT.1 hc9
      refine lv_iconst (v := -1) hx hb dX12_book_45 (by decide) ?_
      exact fx_iret X hr hk h hT dX12_book_46
    · have hT := hT.2 hc9
      refine lv_aload_n hx hb dX12_book_32 rfl (lv_at hl 0 rfl) ?_
      refine fx_getR X h (k := 159) (j := 13) (r := 168) sh_159 rfl fl_RX12_34 dX12_book_33 ?_
      refine lv_iconst (v := 4) hx hb dX12_book_36 (by decide) ?_
      refine lv_iload_n hx hb dX12_book_37 rfl (lv_at hl 1 rfl) ?_
      refine lv_imul hx hb dX12_book_38 ?_
      refine lv_iload_n hx hb dX12_book_39 rfl (lv_at hl 2 rfl) ?_
      refine lv_iadd hx hb dX12_book_40 ?_
      obtain ⟨hi10, hT⟩ := hT
      refine fx_iald X h (k := 168) sh_168 hi10 dX12_book_41 ?_
      refine lv_goto (tgt := 46) hx hb dX12_book_42 (by decide) ?_
      exact fx_iret X hr hk h hT dX12_book_46
/-! MockParcelsModel.would(II)I -/
theorem dX12_would_0 : decode cX12_would 0 = .ok (.aload_n 0, 1) := by decide +kernel
theorem dX12_would_1 : decode cX12_would 1 = .ok (.iconst 0, 1) := by decide +kernel
theorem dX12_would_2 : decode cX12_would 2 = .ok (.putfield 134, 3) := by decide +kernel
theorem dX12_would_5 : decode cX12_would 5 = .ok (.aload_n 0, 1) := by decide +kernel
theorem dX12_would_6 : decode cX12_would 6 = .ok (.iload_n 1, 1) := by decide +kernel
theorem dX12_would_7 : decode cX12_would 7 = .ok (.invokevirtual 165, 3) := by decide +kernel
theorem dX12_would_10 : decode cX12_would 10 = .ok (.ifCond .eq 13, 3) := by decide +kernel
theorem dX12_would_13 : decode cX12_would 13 = .ok (.aload_n 0, 1) := by decide +kernel
theorem dX12_would_14 : decode cX12_would 14 = .ok (.iload_n 2, 1) := by decide +kernel
theorem dX12_would_15 : decode cX12_would 15 = .ok (.iconst 0, 1) := by decide +kernel
theorem dX12_would_16 : decode cX12_would 16 = .ok (.iconst 2, 1) := by decide +kernel
theorem dX12_would_17 : decode cX12_would 17 = .ok (.invokevirtual 157, 3) := by decide +kernel
theorem dX12_would_20 : decode cX12_would 20 = .ok (.ifCond .ne 6, 3) := by decide +kernel
theorem dX12_would_23 : decode cX12_would 23 = .ok (.bipush (-2), 2) := by decide +kernel
theorem dX12_would_25 : decode cX12_would 25 = .ok (.ireturn, 1) := by decide +kernel
theorem dX12_would_26 : decode cX12_would 26 = .ok (.aload_n 0, 1) := by decide +kernel
theorem dX12_would_27 : decode cX12_would 27 = .ok (.invokevirtual 411, 3) := by decide +kernel
theorem dX12_would_30 : decode cX12_would 30 = .ok (.aload_n 0, 1) := by decide +kernel
theorem dX12_would_31 : decode cX12_would 31 = .ok (.iload_n 1, 1) := by decide +kernel
theorem dX12_would_32 : decode cX12_would 32 = .ok (.invokevirtual 378, 3) := by decide +kernel
theorem dX12_would_35 : decode cX12_would 35 = .ok (.aload_n 0, 1) := by decide +kernel
theorem dX12_would_36 : decode cX12_would 36 = .ok (.invokevirtual 414, 3) := by decide +kernel
theorem dX12_would_39 : decode cX12_would 39 = .ok (.iload_n 2, 1) := by decide +kernel
theorem dX12_would_40 : decode cX12_would 40 = .ok (.ifCond .ne 10, 3) := by decide +kernel
theorem dX12_would_43 : decode cX12_would 43 = .ok (.aload_n 0, 1) := by decide +kernel
theorem dX12_would_44 : decode cX12_would 44 = .ok (.getfield 350, 3) := by decide +kernel
theorem dX12_would_47 : decode cX12_would 47 = .ok (.goto 19, 3) := by decide +kernel
theorem dX12_would_50 : decode cX12_would 50 = .ok (.iload_n 2, 1) := by decide +kernel
theorem dX12_would_51 : decode cX12_would 51 = .ok (.iconst 1, 1) := by decide +kernel
theorem dX12_would_52 : decode cX12_would 52 = .ok (.if_icmp .ne 10, 3) := by decide +kernel
theorem dX12_would_55 : decode cX12_would 55 = .ok (.aload_n 0, 1) := by decide +kernel
theorem dX12_would_56 : decode cX12_would 56 = .ok (.getfield 353, 3) := by decide +kernel
theorem dX12_would_59 : decode cX12_would 59 = .ok (.goto 7, 3) := by decide +kernel
theorem dX12_would_62 : decode cX12_would 62 = .ok (.aload_n 0, 1) := by decide +kernel
theorem dX12_would_63 : decode cX12_would 63 = .ok (.getfield 369, 3) := by decide +kernel
theorem dX12_would_66 : decode cX12_would 66 = .ok (.ireturn, 1) := by decide +kernel
def T_X12_would (x1 : Int32) (x2 : Int32) (M : Mm) (K : Int32 → Mm → Prop) : Prop := (∀ M1 : Mm, M1 = m_up M 159 0 (0 : Int32) → (T_X12_isParcel x1 M1 (fun r4 M3 => ((r4 = 0 → (K (-2 : Int32) M3)) ∧ (¬ r4 = 0 → (T_X12_isIn x2 (0 : Int32) (2 : Int32) M3 (fun r8 M7 => ((r8 = 0 → (K (-2 : Int32) M7)) ∧ (¬ r8 = 0 → (T_X12_thinks M7 (fun M11 => (T_X12_isBidFor x1 M11 (fun M13 => (T_X12_endsThought M13 (fun M15 => ((x2 = 0 → (K (M15 159 46) M15)) ∧ (¬ x2 = 0 → ((x2 = (1 : Int32) → (K (M15 159 45) M15)) ∧ (¬ x2 = (1 : Int32) → (K (M15 159 47) M15))))))))))))))))))))
set_option maxHeartbeats 4000000 in
set_option maxRecDepth 100000 in
theorem c_X12_would (l : Launch) (G : fx_G) {x1 : Int32} {x2 : Int32} {M : Mm} {K : Int32 → Mm → Prop} (hT : T_X12_would x1 x2 M K) : Met l yX12_would (fx_ws yX12_would cX12_would 3 (some .int)) (fx_rm (7)) (va_Pc [.ref (G.2.2.2 + 159), .int x1, .int x2] (fx_P G SH M)) (va_Qi K (fx_R G SH) (fx_A G)) 0 0 (fx_A G) := by
  refine fx_met (own := RX12) (by decide +kernel) rfl (Nat.le_of_ble_eq_true rfl) (fun p e s m below meth c X hr hk h ls hl => ?_)
  obtain ⟨⟨hx, hb, hml, hown, hts⟩, hK, hQ⟩ := id X
  have hl : lv_has ls 3 [(0, .ref (G.2.2.2 + 159)), (1, .int x1), (2, .int x2)] := hl
  unfold T_X12_would at hT
  refine lv_aload_n hx hb dX12_would_0 rfl (lv_at hl 0 rfl) ?_
  refine lv_iconst (v := 0) hx hb dX12_would_1 (by decide) ?_
  refine fx_putI X h (k := 159) (j := 0) sh_159 rfl fl_RX12_134 dX12_would_2 (fun H locs h => ?_)
  obtain ⟨M1, eM1⟩ : ∃ z : Mm, z = m_up M 159 0 (0 : Int32) := ⟨_, rfl⟩
  have hT := hT M1 eM1
  rw [← eM1] at h
  refine lv_aload_n hx hb dX12_would_5 rfl (lv_at hl 0 rfl) ?_
  refine lv_iload_n hx hb dX12_would_6 rfl (lv_at hl 1 rfl) ?_
  refine fx_vi X h ym_X12_isParcel yi_X12_isParcel ys_X12_isParcel (fx_s7 (List.mem_of_getElem? (i := 97) rfl) rfl) sh_159 rfl (c_X12_isParcel l G hT) (As := [.int x1]) (rest := []) rfl rfl ⟨Nat.le_of_ble_eq_true rfl, Nat.le_of_ble_eq_true rfl⟩ ⟨Nat.le_refl _, Nat.le_refl _⟩ hl.1 (Nat.le_of_ble_eq_true rfl) dX12_would_7 (fun r4 M3 H locs hT h => ?_)
  refine lv_if_eq (tgt := 23) hx hb dX12_would_10 (by decide) (fun hc5 => ?_) (fun hc5 => ?_)
  · have hT := hT.1 hc5
    refine lv_bipush (v := -2) hx hb dX12_would_23 (by decide) ?_
    exact fx_iret X hr hk h hT dX12_would_25
  · have hT := hT.2 hc5
    refine lv_aload_n hx hb dX12_would_13 rfl (lv_at hl 0 rfl) ?_
    refine lv_iload_n hx hb dX12_would_14 rfl (lv_at hl 2 rfl) ?_
    refine lv_iconst (v := 0) hx hb dX12_would_15 (by decide) ?_
    refine lv_iconst (v := 2) hx hb dX12_would_16 (by decide) ?_
    refine fx_vi X h ym_X12_isIn yi_X12_isIn ys_X12_isIn (fx_s7 (List.mem_of_getElem? (i := 77) rfl) rfl) sh_159 rfl (c_X12_isIn l G hT) (As := [.int x2, .int (0 : Int32), .int (2 : Int32)]) (rest := []) rfl rfl ⟨Nat.le_of_ble_eq_true rfl, Nat.le_of_ble_eq_true rfl⟩ ⟨Nat.le_refl _, Nat.le_refl _⟩ hl.1 (Nat.le_of_ble_eq_true rfl) dX12_would_17 (fun r8 M7 H locs hT h => ?_)
    refine lv_if_ne (tgt := 26) hx hb dX12_would_20 (by decide) (fun hc9 => ?_) (fun hc9 => ?_)
    · have hT := hT.2 hc9
      refine lv_aload_n hx hb dX12_would_26 rfl (lv_at hl 0 rfl) ?_
      refine fx_vv X h ym_X12_thinks yi_X12_thinks ys_X12_thinks (fx_s8 (List.mem_of_getElem? (i := 155) rfl) rfl) sh_159 rfl (c_X12_thinks l G hT) (As := []) (rest := []) rfl rfl ⟨Nat.le_of_ble_eq_true rfl, Nat.le_of_ble_eq_true rfl⟩ ⟨Nat.le_refl _, Nat.le_refl _⟩ hl.1 (Nat.le_of_ble_eq_true rfl) dX12_would_27 (fun M11 H locs hT h => ?_)
      refine lv_aload_n hx hb dX12_would_30 rfl (lv_at hl 0 rfl) ?_
      refine lv_iload_n hx hb dX12_would_31 rfl (lv_at hl 1 rfl) ?_
      refine fx_vv X h ym_X12_isBidFor yi_X12_isBidFor ys_X12_isBidFor (fx_s8 (List.mem_of_getElem? (i := 29) rfl) rfl) sh_159 rfl (c_X12_isBidFor l G hT) (As := [.int x1]) (rest := []) rfl rfl ⟨Nat.le_of_ble_eq_true rfl, Nat.le_of_ble_eq_true rfl⟩ ⟨Nat.le_refl _, Nat.le_refl _⟩ hl.1 (Nat.le_of_ble_eq_true rfl) dX12_would_32 (fun M13 H locs hT h => ?_)
      refine lv_aload_n hx hb dX12_would_35 rfl (lv_at hl 0 rfl) ?_
      refine fx_vv X h ym_X12_endsThought yi_X12_endsThought ys_X12_endsThought (fx_s8 (List.mem_of_getElem? (i := 159) rfl) rfl) sh_159 rfl (c_X12_endsThought l G hT) (As := []) (rest := []) rfl rfl ⟨Nat.le_of_ble_eq_true rfl, Nat.le_of_ble_eq_true rfl⟩ ⟨Nat.le_refl _, Nat.le_refl _⟩ hl.1 (Nat.le_of_ble_eq_true rfl) dX12_would_36 (fun M15 H locs hT h => ?_)
      refine lv_iload_n hx hb dX12_would_39 rfl (lv_at hl 2 rfl) ?_
      refine lv_if_ne (tgt := 50) hx hb dX12_would_40 (by decide) (fun hc16 => ?_) (fun hc16 => ?_)
      · have hT := hT.2 hc16
        refine lv_iload_n hx hb dX12_would_50 rfl (lv_at hl 2 rfl) ?_
        refine lv_iconst (v := 1) hx hb dX12_would_51 (by decide) ?_
        refine lv_icmp_ne (tgt := 62) hx hb dX12_would_52 (by decide) (fun hc17 => ?_) (fun hc17 => ?_)
        · have hT := hT.2 hc17
          refine lv_aload_n hx hb dX12_would_62 rfl (lv_at hl 0 rfl) ?_
          refine fx_getI X h (k := 159) (j := 47) sh_159 rfl fl_RX12_369 dX12_would_63 ?_
          exact fx_iret X hr hk h hT dX12_would_66
        · have hT := hT.1 hc17
          refine lv_aload_n hx hb dX12_would_55 rfl (lv_at hl 0 rfl) ?_
          refine fx_getI X h (k := 159) (j := 45) sh_159 rfl fl_RX12_353 dX12_would_56 ?_
          refine lv_goto (tgt := 66) hx hb dX12_would_59 (by decide) ?_
          exact fx_iret X hr hk h hT dX12_would_66
      · have hT := hT.1 hc16
        refine lv_aload_n hx hb dX12_would_43 rfl (lv_at hl 0 rfl) ?_
        refine fx_getI X h (k := 159) (j := 46) sh_159 rfl fl_RX12_350 dX12_would_44 ?_
        refine lv_goto (tgt := 66) hx hb dX12_would_47 (by decide) ?_
        exact fx_iret X hr hk h hT dX12_would_66
    · have hT := hT.1 hc9
      refine lv_bipush (v := -2) hx hb dX12_would_23 (by decide) ?_
      exact fx_iret X hr hk h hT dX12_would_25
/-! MockParcelsModel.goes(II)I -/
theorem dX12_goes_0 : decode cX12_goes 0 = .ok (.aload_n 0, 1) := by decide +kernel
theorem dX12_goes_1 : decode cX12_goes 1 = .ok (.iconst 0, 1) := by decide +kernel
theorem dX12_goes_2 : decode cX12_goes 2 = .ok (.putfield 134, 3) := by decide +kernel
theorem dX12_goes_5 : decode cX12_goes 5 = .ok (.aload_n 0, 1) := by decide +kernel
theorem dX12_goes_6 : decode cX12_goes 6 = .ok (.iload_n 1, 1) := by decide +kernel
theorem dX12_goes_7 : decode cX12_goes 7 = .ok (.iconst 1, 1) := by decide +kernel
theorem dX12_goes_8 : decode cX12_goes 8 = .ok (.bipush 60, 2) := by decide +kernel
theorem dX12_goes_10 : decode cX12_goes 10 = .ok (.invokevirtual 157, 3) := by decide +kernel
theorem dX12_goes_13 : decode cX12_goes 13 = .ok (.ifCond .eq 13, 3) := by decide +kernel
theorem dX12_goes_16 : decode cX12_goes 16 = .ok (.aload_n 0, 1) := by decide +kernel
theorem dX12_goes_17 : decode cX12_goes 17 = .ok (.iload_n 2, 1) := by decide +kernel
theorem dX12_goes_18 : decode cX12_goes 18 = .ok (.iconst 0, 1) := by decide +kernel
theorem dX12_goes_19 : decode cX12_goes 19 = .ok (.iconst 3, 1) := by decide +kernel
theorem dX12_goes_20 : decode cX12_goes 20 = .ok (.invokevirtual 157, 3) := by decide +kernel
theorem dX12_goes_23 : decode cX12_goes 23 = .ok (.ifCond .ne 5, 3) := by decide +kernel
theorem dX12_goes_26 : decode cX12_goes 26 = .ok (.iconst (-1), 1) := by decide +kernel
theorem dX12_goes_27 : decode cX12_goes 27 = .ok (.ireturn, 1) := by decide +kernel
theorem dX12_goes_28 : decode cX12_goes 28 = .ok (.aload_n 0, 1) := by decide +kernel
theorem dX12_goes_29 : decode cX12_goes 29 = .ok (.invokevirtual 411, 3) := by decide +kernel
theorem dX12_goes_32 : decode cX12_goes 32 = .ok (.iconst 0, 1) := by decide +kernel
theorem dX12_goes_33 : decode cX12_goes 33 = .ok (.istore_n 3, 1) := by decide +kernel
theorem dX12_goes_34 : decode cX12_goes 34 = .ok (.iload_n 3, 1) := by decide +kernel
theorem dX12_goes_35 : decode cX12_goes 35 = .ok (.iload_n 1, 1) := by decide +kernel
theorem dX12_goes_36 : decode cX12_goes 36 = .ok (.if_icmp .ge 14, 3) := by decide +kernel
theorem dX12_goes_39 : decode cX12_goes 39 = .ok (.aload_n 0, 1) := by decide +kernel
theorem dX12_goes_40 : decode cX12_goes 40 = .ok (.invokevirtual 408, 3) := by decide +kernel
theorem dX12_goes_43 : decode cX12_goes 43 = .ok (.pop, 1) := by decide +kernel
theorem dX12_goes_44 : decode cX12_goes 44 = .ok (.iinc 3 1, 3) := by decide +kernel
theorem dX12_goes_47 : decode cX12_goes 47 = .ok (.goto (-13), 3) := by decide +kernel
theorem dX12_goes_50 : decode cX12_goes 50 = .ok (.iload_n 2, 1) := by decide +kernel
theorem dX12_goes_51 : decode cX12_goes 51 = .ok (.ifCond .ne 12, 3) := by decide +kernel
theorem dX12_goes_54 : decode cX12_goes 54 = .ok (.aload_n 0, 1) := by decide +kernel
theorem dX12_goes_55 : decode cX12_goes 55 = .ok (.getfield 7, 3) := by decide +kernel
theorem dX12_goes_58 : decode cX12_goes 58 = .ok (.iconst 3, 1) := by decide +kernel
theorem dX12_goes_59 : decode cX12_goes 59 = .ok (.iaload, 1) := by decide +kernel
theorem dX12_goes_60 : decode cX12_goes 60 = .ok (.goto 45, 3) := by decide +kernel
theorem dX12_goes_63 : decode cX12_goes 63 = .ok (.iload_n 2, 1) := by decide +kernel
theorem dX12_goes_64 : decode cX12_goes 64 = .ok (.iconst 1, 1) := by decide +kernel
theorem dX12_goes_65 : decode cX12_goes 65 = .ok (.if_icmp .ne 12, 3) := by decide +kernel
theorem dX12_goes_68 : decode cX12_goes 68 = .ok (.aload_n 0, 1) := by decide +kernel
theorem dX12_goes_69 : decode cX12_goes 69 = .ok (.getfield 7, 3) := by decide +kernel
theorem dX12_goes_72 : decode cX12_goes 72 = .ok (.iconst 4, 1) := by decide +kernel
theorem dX12_goes_73 : decode cX12_goes 73 = .ok (.iaload, 1) := by decide +kernel
theorem dX12_goes_74 : decode cX12_goes 74 = .ok (.goto 31, 3) := by decide +kernel
theorem dX12_goes_77 : decode cX12_goes 77 = .ok (.iload_n 2, 1) := by decide +kernel
theorem dX12_goes_78 : decode cX12_goes 78 = .ok (.iconst 2, 1) := by decide +kernel
theorem dX12_goes_79 : decode cX12_goes 79 = .ok (.if_icmp .ne 13, 3) := by decide +kernel
theorem dX12_goes_82 : decode cX12_goes 82 = .ok (.aload_n 0, 1) := by decide +kernel
theorem dX12_goes_83 : decode cX12_goes 83 = .ok (.getfield 7, 3) := by decide +kernel
theorem dX12_goes_86 : decode cX12_goes 86 = .ok (.bipush 6, 2) := by decide +kernel
theorem dX12_goes_88 : decode cX12_goes 88 = .ok (.iaload, 1) := by decide +kernel
theorem dX12_goes_89 : decode cX12_goes 89 = .ok (.goto 16, 3) := by decide +kernel
theorem dX12_goes_92 : decode cX12_goes 92 = .ok (.aload_n 0, 1) := by decide +kernel
theorem dX12_goes_93 : decode cX12_goes 93 = .ok (.getfield 147, 3) := by decide +kernel
theorem dX12_goes_96 : decode cX12_goes 96 = .ok (.aload_n 0, 1) := by decide +kernel
theorem dX12_goes_97 : decode cX12_goes 97 = .ok (.aload_n 0, 1) := by decide +kernel
theorem dX12_goes_98 : decode cX12_goes 98 = .ok (.invokevirtual 417, 3) := by decide +kernel
theorem dX12_goes_101 : decode cX12_goes 101 = .ok (.invokevirtual 420, 3) := by decide +kernel
theorem dX12_goes_104 : decode cX12_goes 104 = .ok (.isub, 1) := by decide +kernel
theorem dX12_goes_105 : decode cX12_goes 105 = .ok (.istore_n 3, 1) := by decide +kernel
theorem dX12_goes_106 : decode cX12_goes 106 = .ok (.aload_n 0, 1) := by decide +kernel
theorem dX12_goes_107 : decode cX12_goes 107 = .ok (.invokevirtual 414, 3) := by decide +kernel
theorem dX12_goes_110 : decode cX12_goes 110 = .ok (.iload_n 3, 1) := by decide +kernel
theorem dX12_goes_111 : decode cX12_goes 111 = .ok (.ireturn, 1) := by decide +kernel
def T_X12_goes_105 (s0 : Int32) (M : Mm) (K : Int32 → Mm → Prop) : Prop := (T_X12_endsThought M (fun M2 => (K s0 M2)))
set_option maxHeartbeats 4000000 in
set_option maxRecDepth 100000 in
theorem w_X12_goes_105 {p : Program} {l : Launch} {e : Env} {s : State} {m : MethodId} {args : Array Value} {below : List Frame} {meth : Method} {c : Code} {G : fx_G} {K : Int32 → Mm → Prop} (X : fx_C G p s m c args cX12_goes 4 RX12) (hr : meth.sig.returnType = (some .int)) (hk : meth.locks = false) : ∀ (s0 : Int32) (M : Mm) (H : Heap) (locs : List Loc) (ls : Array Slot), T_X12_goes_105 s0 M K → fx_H G SH M s H locs → lv_has ls 4 [(0, .ref (G.2.2.2 + 159))] → W p l e (fx_rm (10)) s m args below meth c H locs 0 0 (MQ below (va_Qi K (fx_R G SH) (fx_A G)) args s 0 0 (fx_A G)) (F0 m 105 ls [.int s0]) := by
  obtain ⟨⟨hx, hb, hml, hown, hts⟩, hK, hQ⟩ := id X
  intro s0 M H locs ls hT h hl
  unfold T_X12_goes_105 at hT
  refine lv_istore_n (lv' := [(3, .int s0), (0, .ref (G.2.2.2 + 159))]) hx hb dX12_goes_105 rfl hl (by decide) rfl (fun ls hl => ?_)
  refine lv_aload_n hx hb dX12_goes_106 rfl (lv_at hl 1 rfl) ?_
  refine fx_vv X h ym_X12_endsThought yi_X12_endsThought ys_X12_endsThought (fx_s8 (List.mem_of_getElem? (i := 159) rfl) rfl) sh_159 rfl (c_X12_endsThought l G hT) (As := []) (rest := []) rfl rfl ⟨Nat.le_of_ble_eq_true rfl, Nat.le_of_ble_eq_true rfl⟩ ⟨Nat.le_refl _, Nat.le_refl _⟩ hl.1 (Nat.le_of_ble_eq_true rfl) dX12_goes_107 (fun M2 H locs hT h => ?_)
  refine lv_iload_n hx hb dX12_goes_110 rfl (lv_at hl 0 rfl) ?_
  exact fx_iret X hr hk h hT dX12_goes_111
def T_X12_goes_34 : Nat → Int32 → Int32 → Int32 → Mm → (Int32 → Mm → Prop) → Prop
  | 0, _, _, _, _, _ => False
  | n + 1, x1, x2, x3, M, K => ((x1 ≤ x3 → ((x2 = 0 → (T_X12_goes_105 (M 160 3) M K)) ∧ (¬ x2 = 0 → ((x2 = (1 : Int32) → (T_X12_goes_105 (M 160 4) M K)) ∧ (¬ x2 = (1 : Int32) → ((x2 = (2 : Int32) → (T_X12_goes_105 (M 160 6) M K)) ∧ (¬ x2 = (2 : Int32) → (T_X12_unsoldSet M (fun r9 M8 => (T_X12_onesOf r9 M8 (fun r12 M11 => (T_X12_goes_105 ((M 159 6) - r12) M11 K)))))))))))) ∧ (¬ x1 ≤ x3 → (T_X12_goesBy M (fun r15 M14 => (∀ y16 : Int32, y16 = x3 + (1 : Int32) → (T_X12_goes_34 n x1 x2 y16 M14 K))))))
set_option maxHeartbeats 4000000 in
set_option maxRecDepth 100000 in
theorem w_X12_goes_34 {p : Program} {l : Launch} {e : Env} {s : State} {m : MethodId} {args : Array Value} {below : List Frame} {meth : Method} {c : Code} {G : fx_G} {K : Int32 → Mm → Prop} (X : fx_C G p s m c args cX12_goes 4 RX12) (hr : meth.sig.returnType = (some .int)) (hk : meth.locks = false) : ∀ (n : Nat) (x1 : Int32) (x2 : Int32) (x3 : Int32) (M : Mm) (H : Heap) (locs : List Loc) (ls : Array Slot), T_X12_goes_34 n x1 x2 x3 M K → fx_H G SH M s H locs → lv_has ls 4 [(0, .ref (G.2.2.2 + 159)), (1, .int x1), (2, .int x2), (3, .int x3)] → W p l e (fx_rm (10)) s m args below meth c H locs 0 0 (MQ below (va_Qi K (fx_R G SH) (fx_A G)) args s 0 0 (fx_A G)) (F0 m 34 ls []) := by
  obtain ⟨⟨hx, hb, hml, hown, hts⟩, hK, hQ⟩ := id X
  intro n
  induction n with
  | zero =>
    intro x1 x2 x3 M H locs ls hT
    exact hT.elim
  | succ n ih =>
    intro x1 x2 x3 M H locs ls hT h hl
    rw [T_X12_goes_34] at hT
    refine lv_iload_n hx hb dX12_goes_34 rfl (lv_at hl 3 rfl) ?_
    refine lv_iload_n hx hb dX12_goes_35 rfl (lv_at hl 1 rfl) ?_
    refine lv_icmp_ge (tgt := 50) hx hb dX12_goes_36 (by decide) (fun hc3 => ?_) (fun hc3 => ?_)
    · have hT := hT.1 hc3
      refine lv_iload_n hx hb dX12_goes_50 rfl (lv_at hl 2 rfl) ?_
      refine lv_if_ne (tgt := 63) hx hb dX12_goes_51 (by decide) (fun hc4 => ?_) (fun hc4 => ?_)
      · have hT := hT.2 hc4
        refine lv_iload_n hx hb dX12_goes_63 rfl (lv_at hl 2 rfl) ?_
        refine lv_iconst (v := 1) hx hb dX12_goes_64 (by decide) ?_
        refine lv_icmp_ne (tgt := 77) hx hb dX12_goes_65 (by decide) (fun hc5 => ?_) (fun hc5 => ?_)
        · have hT := hT.2 hc5
          refine lv_iload_n hx hb dX12_goes_77 rfl (lv_at hl 2 rfl) ?_
          refine lv_iconst (v := 2) hx hb dX12_goes_78 (by decide) ?_
          refine lv_icmp_ne (tgt := 92) hx hb dX12_goes_79 (by decide) (fun hc6 => ?_) (fun hc6 => ?_)
          · have hT := hT.2 hc6
            refine lv_aload_n hx hb dX12_goes_92 rfl (lv_at hl 0 rfl) ?_
            refine fx_getI X h (k := 159) (j := 6) sh_159 rfl fl_RX12_147 dX12_goes_93 ?_
            refine lv_aload_n hx hb dX12_goes_96 rfl (lv_at hl 0 rfl) ?_
            refine lv_aload_n hx hb dX12_goes_97 rfl (lv_at hl 0 rfl) ?_
            refine fx_vi X h ym_X12_unsoldSet yi_X12_unsoldSet ys_X12_unsoldSet (fx_s8 (List.mem_of_getElem? (i := 167) rfl) rfl) sh_159 rfl (c_X12_unsoldSet l G hT) (As := []) (rest := [.ref (G.2.2.2 + 159), .int (M 159 6)]) rfl rfl ⟨Nat.le_of_ble_eq_true rfl, Nat.le_of_ble_eq_true rfl⟩ ⟨Nat.le_refl _, Nat.le_refl _⟩ hl.1 (Nat.le_of_ble_eq_true rfl) dX12_goes_98 (fun r9 M8 H locs hT h => ?_)
            refine fx_vi X h ym_X12_onesOf yi_X12_onesOf ys_X12_onesOf (fx_s8 (List.mem_of_getElem? (i := 171) rfl) rfl) sh_159 rfl (c_X12_onesOf l G hT) (As := [.int r9]) (rest := [.int (M 159 6)]) rfl rfl ⟨Nat.le_of_ble_eq_true rfl, Nat.le_of_ble_eq_true rfl⟩ ⟨Nat.le_refl _, Nat.le_refl _⟩ hl.1 (Nat.le_of_ble_eq_true rfl) dX12_goes_101 (fun r12 M11 H locs hT h => ?_)
            refine lv_isub hx hb dX12_goes_104 ?_
            exact w_X12_goes_105 X hr hk ((M 159 6) - r12) M11 _ _ ls hT h (lv_sub hl [0] rfl)
          · have hT := hT.1 hc6
            refine lv_aload_n hx hb dX12_goes_82 rfl (lv_at hl 0 rfl) ?_
            refine fx_getR X h (k := 159) (j := 1) (r := 160) sh_159 rfl fl_RX12_7 dX12_goes_83 ?_
            refine lv_bipush (v := 6) hx hb dX12_goes_86 (by decide) ?_
            refine fx_iald X h (k := 160) sh_160 (by unfold vp_in; decide) dX12_goes_88 ?_
            rw [show ((6 : Int32)).toNatClampNeg = 6 by decide]
            refine lv_goto (tgt := 105) hx hb dX12_goes_89 (by decide) ?_
            exact w_X12_goes_105 X hr hk (M 160 6) M _ _ ls hT h (lv_sub hl [0] rfl)
        · have hT := hT.1 hc5
          refine lv_aload_n hx hb dX12_goes_68 rfl (lv_at hl 0 rfl) ?_
          refine fx_getR X h (k := 159) (j := 1) (r := 160) sh_159 rfl fl_RX12_7 dX12_goes_69 ?_
          refine lv_iconst (v := 4) hx hb dX12_goes_72 (by decide) ?_
          refine fx_iald X h (k := 160) sh_160 (by unfold vp_in; decide) dX12_goes_73 ?_
          rw [show ((4 : Int32)).toNatClampNeg = 4 by decide]
          refine lv_goto (tgt := 105) hx hb dX12_goes_74 (by decide) ?_
          exact w_X12_goes_105 X hr hk (M 160 4) M _ _ ls hT h (lv_sub hl [0] rfl)
      · have hT := hT.1 hc4
        refine lv_aload_n hx hb dX12_goes_54 rfl (lv_at hl 0 rfl) ?_
        refine fx_getR X h (k := 159) (j := 1) (r := 160) sh_159 rfl fl_RX12_7 dX12_goes_55 ?_
        refine lv_iconst (v := 3) hx hb dX12_goes_58 (by decide) ?_
        refine fx_iald X h (k := 160) sh_160 (by unfold vp_in; decide) dX12_goes_59 ?_
        rw [show ((3 : Int32)).toNatClampNeg = 3 by decide]
        refine lv_goto (tgt := 105) hx hb dX12_goes_60 (by decide) ?_
        exact w_X12_goes_105 X hr hk (M 160 3) M _ _ ls hT h (lv_sub hl [0] rfl)
    · have hT := hT.2 hc3
      refine lv_aload_n hx hb dX12_goes_39 rfl (lv_at hl 0 rfl) ?_
      refine fx_vi X h ym_X12_goesBy yi_X12_goesBy ys_X12_goesBy (fx_s8 (List.mem_of_getElem? (i := 123) rfl) rfl) sh_159 rfl (c_X12_goesBy l G hT) (As := []) (rest := []) rfl rfl ⟨Nat.le_of_ble_eq_true rfl, Nat.le_of_ble_eq_true rfl⟩ ⟨Nat.le_refl _, Nat.le_refl _⟩ hl.1 (Nat.le_of_ble_eq_true rfl) dX12_goes_40 (fun r15 M14 H locs hT h => ?_)
      refine lv_pop hx hb dX12_goes_43 rfl ?_
      obtain ⟨y16, ey16⟩ : ∃ z : Int32, z = x3 + (1 : Int32) := ⟨_, rfl⟩
      have hT := hT y16 ey16
      refine lv_iinc (v := y16) (lv' := [(3, .int y16), (0, .ref (G.2.2.2 + 159)), (1, .int x1), (2, .int x2)]) hx hb dX12_goes_44 hl (k := 3) rfl (by rw [ey16]; rfl) (by decide) rfl (fun ls hl => ?_)
      refine lv_goto (tgt := 34) hx hb dX12_goes_47 (by decide) ?_
      exact ih x1 x2 y16 M14 _ _ ls hT h (lv_sub hl [1, 2, 3, 0] rfl)
def T_X12_goes (x1 : Int32) (x2 : Int32) (M : Mm) (K : Int32 → Mm → Prop) : Prop := (∀ M17 : Mm, M17 = m_up M 159 0 (0 : Int32) → (T_X12_isIn x1 (1 : Int32) (60 : Int32) M17 (fun r20 M19 => ((r20 = 0 → (K (-1 : Int32) M19)) ∧ (¬ r20 = 0 → (T_X12_isIn x2 (0 : Int32) (3 : Int32) M19 (fun r24 M23 => ((r24 = 0 → (K (-1 : Int32) M23)) ∧ (¬ r24 = 0 → (T_X12_thinks M23 (fun M27 => (T_X12_goes_34 5000 x1 x2 (0 : Int32) M27 K))))))))))))
set_option maxHeartbeats 4000000 in
set_option maxRecDepth 100000 in
theorem c_X12_goes (l : Launch) (G : fx_G) {x1 : Int32} {x2 : Int32} {M : Mm} {K : Int32 → Mm → Prop} (hT : T_X12_goes x1 x2 M K) : Met l yX12_goes (fx_ws yX12_goes cX12_goes 4 (some .int)) (fx_rm (10)) (va_Pc [.ref (G.2.2.2 + 159), .int x1, .int x2] (fx_P G SH M)) (va_Qi K (fx_R G SH) (fx_A G)) 0 0 (fx_A G) := by
  refine fx_met (own := RX12) (by decide +kernel) rfl (Nat.le_of_ble_eq_true rfl) (fun p e s m below meth c X hr hk h ls hl => ?_)
  obtain ⟨⟨hx, hb, hml, hown, hts⟩, hK, hQ⟩ := id X
  have hl : lv_has ls 4 [(0, .ref (G.2.2.2 + 159)), (1, .int x1), (2, .int x2)] := hl
  unfold T_X12_goes at hT
  refine lv_aload_n hx hb dX12_goes_0 rfl (lv_at hl 0 rfl) ?_
  refine lv_iconst (v := 0) hx hb dX12_goes_1 (by decide) ?_
  refine fx_putI X h (k := 159) (j := 0) sh_159 rfl fl_RX12_134 dX12_goes_2 (fun H locs h => ?_)
  obtain ⟨M17, eM17⟩ : ∃ z : Mm, z = m_up M 159 0 (0 : Int32) := ⟨_, rfl⟩
  have hT := hT M17 eM17
  rw [← eM17] at h
  refine lv_aload_n hx hb dX12_goes_5 rfl (lv_at hl 0 rfl) ?_
  refine lv_iload_n hx hb dX12_goes_6 rfl (lv_at hl 1 rfl) ?_
  refine lv_iconst (v := 1) hx hb dX12_goes_7 (by decide) ?_
  refine lv_bipush (v := 60) hx hb dX12_goes_8 (by decide) ?_
  refine fx_vi X h ym_X12_isIn yi_X12_isIn ys_X12_isIn (fx_s7 (List.mem_of_getElem? (i := 77) rfl) rfl) sh_159 rfl (c_X12_isIn l G hT) (As := [.int x1, .int (1 : Int32), .int (60 : Int32)]) (rest := []) rfl rfl ⟨Nat.le_of_ble_eq_true rfl, Nat.le_of_ble_eq_true rfl⟩ ⟨Nat.le_refl _, Nat.le_refl _⟩ hl.1 (Nat.le_of_ble_eq_true rfl) dX12_goes_10 (fun r20 M19 H locs hT h => ?_)
  refine lv_if_eq (tgt := 26) hx hb dX12_goes_13 (by decide) (fun hc21 => ?_) (fun hc21 => ?_)
  · have hT := hT.1 hc21
    refine lv_iconst (v := -1) hx hb dX12_goes_26 (by decide) ?_
    exact fx_iret X hr hk h hT dX12_goes_27
  · have hT := hT.2 hc21
    refine lv_aload_n hx hb dX12_goes_16 rfl (lv_at hl 0 rfl) ?_
    refine lv_iload_n hx hb dX12_goes_17 rfl (lv_at hl 2 rfl) ?_
    refine lv_iconst (v := 0) hx hb dX12_goes_18 (by decide) ?_
    refine lv_iconst (v := 3) hx hb dX12_goes_19 (by decide) ?_
    refine fx_vi X h ym_X12_isIn yi_X12_isIn ys_X12_isIn (fx_s7 (List.mem_of_getElem? (i := 77) rfl) rfl) sh_159 rfl (c_X12_isIn l G hT) (As := [.int x2, .int (0 : Int32), .int (3 : Int32)]) (rest := []) rfl rfl ⟨Nat.le_of_ble_eq_true rfl, Nat.le_of_ble_eq_true rfl⟩ ⟨Nat.le_refl _, Nat.le_refl _⟩ hl.1 (Nat.le_of_ble_eq_true rfl) dX12_goes_20 (fun r24 M23 H locs hT h => ?_)
    refine lv_if_ne (tgt := 28) hx hb dX12_goes_23 (by decide) (fun hc25 => ?_) (fun hc25 => ?_)
    · have hT := hT.2 hc25
      refine lv_aload_n hx hb dX12_goes_28 rfl (lv_at hl 0 rfl) ?_
      refine fx_vv X h ym_X12_thinks yi_X12_thinks ys_X12_thinks (fx_s8 (List.mem_of_getElem? (i := 155) rfl) rfl) sh_159 rfl (c_X12_thinks l G hT) (As := []) (rest := []) rfl rfl ⟨Nat.le_of_ble_eq_true rfl, Nat.le_of_ble_eq_true rfl⟩ ⟨Nat.le_refl _, Nat.le_refl _⟩ hl.1 (Nat.le_of_ble_eq_true rfl) dX12_goes_29 (fun M27 H locs hT h => ?_)
      refine lv_iconst (v := 0) hx hb dX12_goes_32 (by decide) ?_
      refine lv_istore_n (lv' := [(3, .int (0 : Int32)), (0, .ref (G.2.2.2 + 159)), (1, .int x1), (2, .int x2)]) hx hb dX12_goes_33 rfl hl (by decide) rfl (fun ls hl => ?_)
      exact w_X12_goes_34 X hr hk 5000 x1 x2 (0 : Int32) M27 _ _ ls hT h (lv_sub hl [1, 2, 3, 0] rfl)
    · have hT := hT.1 hc25
      refine lv_iconst (v := -1) hx hb dX12_goes_26 (by decide) ?_
      exact fx_iret X hr hk h hT dX12_goes_27
/-! MockParcelsModel.isAtNothing()V -/
theorem dX12_isAtNothing_0 : decode cX12_isAtNothing 0 = .ok (.iconst 0, 1) := by decide +kernel
theorem dX12_isAtNothing_1 : decode cX12_isAtNothing 1 = .ok (.istore_n 1, 1) := by decide +kernel
theorem dX12_isAtNothing_2 : decode cX12_isAtNothing 2 = .ok (.iload_n 1, 1) := by decide +kernel
theorem dX12_isAtNothing_3 : decode cX12_isAtNothing 3 = .ok (.sipush 1000, 3) := by decide +kernel
theorem dX12_isAtNothing_6 : decode cX12_isAtNothing 6 = .ok (.if_icmp .ge 41, 3) := by decide +kernel
theorem dX12_isAtNothing_9 : decode cX12_isAtNothing 9 = .ok (.aload_n 0, 1) := by decide +kernel
theorem dX12_isAtNothing_10 : decode cX12_isAtNothing 10 = .ok (.getfield 89, 3) := by decide +kernel
theorem dX12_isAtNothing_13 : decode cX12_isAtNothing 13 = .ok (.iload_n 1, 1) := by decide +kernel
theorem dX12_isAtNothing_14 : decode cX12_isAtNothing 14 = .ok (.iload_n 1, 1) := by decide +kernel
theorem dX12_isAtNothing_15 : decode cX12_isAtNothing 15 = .ok (.ifCond .ne 7, 3) := by decide +kernel
theorem dX12_isAtNothing_18 : decode cX12_isAtNothing 18 = .ok (.iconst 1, 1) := by decide +kernel
theorem dX12_isAtNothing_19 : decode cX12_isAtNothing 19 = .ok (.goto 4, 3) := by decide +kernel
theorem dX12_isAtNothing_22 : decode cX12_isAtNothing 22 = .ok (.iconst 0, 1) := by decide +kernel
theorem dX12_isAtNothing_23 : decode cX12_isAtNothing 23 = .ok (.iastore, 1) := by decide +kernel
theorem dX12_isAtNothing_24 : decode cX12_isAtNothing 24 = .ok (.aload_n 0, 1) := by decide +kernel
theorem dX12_isAtNothing_25 : decode cX12_isAtNothing 25 = .ok (.getfield 92, 3) := by decide +kernel
theorem dX12_isAtNothing_28 : decode cX12_isAtNothing 28 = .ok (.iload_n 1, 1) := by decide +kernel
theorem dX12_isAtNothing_29 : decode cX12_isAtNothing 29 = .ok (.iload_n 1, 1) := by decide +kernel
theorem dX12_isAtNothing_30 : decode cX12_isAtNothing 30 = .ok (.ifCond .ne 7, 3) := by decide +kernel
theorem dX12_isAtNothing_33 : decode cX12_isAtNothing 33 = .ok (.iconst 0, 1) := by decide +kernel
theorem dX12_isAtNothing_34 : decode cX12_isAtNothing 34 = .ok (.goto 6, 3) := by decide +kernel
theorem dX12_isAtNothing_37 : decode cX12_isAtNothing 37 = .ok (.ldc_w 423, 3) := by decide +kernel
theorem dX12_isAtNothing_40 : decode cX12_isAtNothing 40 = .ok (.iastore, 1) := by decide +kernel
theorem dX12_isAtNothing_41 : decode cX12_isAtNothing 41 = .ok (.iinc 1 1, 3) := by decide +kernel
theorem dX12_isAtNothing_44 : decode cX12_isAtNothing 44 = .ok (.goto (-42), 3) := by decide +kernel
theorem dX12_isAtNothing_47 : decode cX12_isAtNothing 47 = .ok (.return_, 1) := by decide +kernel
def T_X12_isAtNothing_40 (B2 : Int32 → Mm → Prop) (x1 : Int32) (s1 : Int32) (s2 : Int32) (M : Mm) (K : Mm → Prop) : Prop := (vp_in s1 1000 ∧ (∀ M1 : Mm, M1 = m_up M 186 (s1).toNatClampNeg s2 → (∀ y3 : Int32, y3 = x1 + (1 : Int32) → (B2 y3 M1))))
set_option maxHeartbeats 4000000 in
set_option maxRecDepth 100000 in
theorem w_X12_isAtNothing_40 {p : Program} {l : Launch} {e : Env} {s : State} {m : MethodId} {args : Array Value} {below : List Frame} {meth : Method} {c : Code} {G : fx_G} {K : Mm → Prop} {B2 : Int32 → Mm → Prop} (X : fx_C G p s m c args cX12_isAtNothing 2 RX12) (hr : meth.sig.returnType = none) (hk : meth.locks = false) (hB2 : ∀ (x1 : Int32) (M : Mm) (H : Heap) (locs : List Loc) (ls : Array Slot), B2 x1 M → fx_H G SH M s H locs → lv_has ls 2 [(0, .ref (G.2.2.2 + 159)), (1, .int x1)] → W p l e (fx_rm (0)) s m args below meth c H locs 0 0 (MQ below (va_Qv K (fx_R G SH) (fx_A G)) args s 0 0 (fx_A G)) (F0 m 2 ls [])) : ∀ (x1 : Int32) (s1 : Int32) (s2 : Int32) (M : Mm) (H : Heap) (locs : List Loc) (ls : Array Slot), T_X12_isAtNothing_40 B2 x1 s1 s2 M K → fx_H G SH M s H locs → lv_has ls 2 [(0, .ref (G.2.2.2 + 159)), (1, .int x1)] → W p l e (fx_rm (0)) s m args below meth c H locs 0 0 (MQ below (va_Qv K (fx_R G SH) (fx_A G)) args s 0 0 (fx_A G)) (F0 m 40 ls [.int s2, .int s1, .ref (G.2.2.2 + 186)]) := by
  obtain ⟨⟨hx, hb, hml, hown, hts⟩, hK, hQ⟩ := id X
  intro x1 s1 s2 M H locs ls hT h hl
  unfold T_X12_isAtNothing_40 at hT
  obtain ⟨hi2, hT⟩ := hT
  refine fx_iast X h (k := 186) sh_186 hi2 dX12_isAtNothing_40 (fun H locs h => ?_)
  obtain ⟨M1, eM1⟩ : ∃ z : Mm, z = m_up M 186 (s1).toNatClampNeg s2 := ⟨_, rfl⟩
  have hT := hT M1 eM1
  rw [← eM1] at h
  obtain ⟨y3, ey3⟩ : ∃ z : Int32, z = x1 + (1 : Int32) := ⟨_, rfl⟩
  have hT := hT y3 ey3
  refine lv_iinc (v := y3) (lv' := [(1, .int y3), (0, .ref (G.2.2.2 + 159))]) hx hb dX12_isAtNothing_41 hl (k := 1) rfl (by rw [ey3]; rfl) (by decide) rfl (fun ls hl => ?_)
  refine lv_goto (tgt := 2) hx hb dX12_isAtNothing_44 (by decide) ?_
  exact hB2 y3 M1 _ _ ls hT h (lv_sub hl [1, 0] rfl)
def T_X12_isAtNothing_23 (B2 : Int32 → Mm → Prop) (x1 : Int32) (s1 : Int32) (s2 : Int32) (M : Mm) (K : Mm → Prop) : Prop := (vp_in s1 1000 ∧ (∀ M4 : Mm, M4 = m_up M 185 (s1).toNatClampNeg s2 → ((x1 = 0 → (T_X12_isAtNothing_40 B2 x1 x1 (0 : Int32) M4 K)) ∧ (¬ x1 = 0 → (T_X12_isAtNothing_40 B2 x1 x1 (100000000 : Int32) M4 K)))))
set_option maxHeartbeats 4000000 in
set_option maxRecDepth 100000 in
theorem w_X12_isAtNothing_23 {p : Program} {l : Launch} {e : Env} {s : State} {m : MethodId} {args : Array Value} {below : List Frame} {meth : Method} {c : Code} {G : fx_G} {K : Mm → Prop} {B2 : Int32 → Mm → Prop} (X : fx_C G p s m c args cX12_isAtNothing 2 RX12) (hr : meth.sig.returnType = none) (hk : meth.locks = false) (hB2 : ∀ (x1 : Int32) (M : Mm) (H : Heap) (locs : List Loc) (ls : Array Slot), B2 x1 M → fx_H G SH M s H locs → lv_has ls 2 [(0, .ref (G.2.2.2 + 159)), (1, .int x1)] → W p l e (fx_rm (0)) s m args below meth c H locs 0 0 (MQ below (va_Qv K (fx_R G SH) (fx_A G)) args s 0 0 (fx_A G)) (F0 m 2 ls [])) : ∀ (x1 : Int32) (s1 : Int32) (s2 : Int32) (M : Mm) (H : Heap) (locs : List Loc) (ls : Array Slot), T_X12_isAtNothing_23 B2 x1 s1 s2 M K → fx_H G SH M s H locs → lv_has ls 2 [(0, .ref (G.2.2.2 + 159)), (1, .int x1)] → W p l e (fx_rm (0)) s m args below meth c H locs 0 0 (MQ below (va_Qv K (fx_R G SH) (fx_A G)) args s 0 0 (fx_A G)) (F0 m 23 ls [.int s2, .int s1, .ref (G.2.2.2 + 185)]) := by
  obtain ⟨⟨hx, hb, hml, hown, hts⟩, hK, hQ⟩ := id X
  intro x1 s1 s2 M H locs ls hT h hl
  unfold T_X12_isAtNothing_23 at hT
  obtain ⟨hi5, hT⟩ := hT
  refine fx_iast X h (k := 185) sh_185 hi5 dX12_isAtNothing_23 (fun H locs h => ?_)
  obtain ⟨M4, eM4⟩ : ∃ z : Mm, z = m_up M 185 (s1).toNatClampNeg s2 := ⟨_, rfl⟩
  have hT := hT M4 eM4
  rw [← eM4] at h
  refine lv_aload_n hx hb dX12_isAtNothing_24 rfl (lv_at hl 0 rfl) ?_
  refine fx_getR X h (k := 159) (j := 50) (r := 186) sh_159 rfl fl_RX12_92 dX12_isAtNothing_25 ?_
  refine lv_iload_n hx hb dX12_isAtNothing_28 rfl (lv_at hl 1 rfl) ?_
  refine lv_iload_n hx hb dX12_isAtNothing_29 rfl (lv_at hl 1 rfl) ?_
  refine lv_if_ne (tgt := 37) hx hb dX12_isAtNothing_30 (by decide) (fun hc6 => ?_) (fun hc6 => ?_)
  · have hT := hT.2 hc6
    refine lv_ldcw (v := 100000000) hx hb hown (hts _ (fx_s8 (List.mem_of_getElem? (i := 187) rfl) rfl)) dX12_isAtNothing_37 ?_
    exact w_X12_isAtNothing_40 X hr hk (B2 := B2) hB2 x1 x1 (100000000 : Int32) M4 _ _ ls hT h (lv_sub hl [0, 1] rfl)
  · have hT := hT.1 hc6
    refine lv_iconst (v := 0) hx hb dX12_isAtNothing_33 (by decide) ?_
    refine lv_goto (tgt := 40) hx hb dX12_isAtNothing_34 (by decide) ?_
    exact w_X12_isAtNothing_40 X hr hk (B2 := B2) hB2 x1 x1 (0 : Int32) M4 _ _ ls hT h (lv_sub hl [0, 1] rfl)
def T_X12_isAtNothing_2 : Nat → Int32 → Mm → (Mm → Prop) → Prop
  | 0, _, _, _ => False
  | n + 1, x1, M, K => (((1000 : Int32) ≤ x1 → (K M)) ∧ (¬ (1000 : Int32) ≤ x1 → ((x1 = 0 → (T_X12_isAtNothing_23 (fun x1 M => T_X12_isAtNothing_2 n x1 M K) x1 x1 (1 : Int32) M K)) ∧ (¬ x1 = 0 → (T_X12_isAtNothing_23 (fun x1 M => T_X12_isAtNothing_2 n x1 M K) x1 x1 (0 : Int32) M K)))))
set_option maxHeartbeats 4000000 in
set_option maxRecDepth 100000 in
theorem w_X12_isAtNothing_2 {p : Program} {l : Launch} {e : Env} {s : State} {m : MethodId} {args : Array Value} {below : List Frame} {meth : Method} {c : Code} {G : fx_G} {K : Mm → Prop} (X : fx_C G p s m c args cX12_isAtNothing 2 RX12) (hr : meth.sig.returnType = none) (hk : meth.locks = false) : ∀ (n : Nat) (x1 : Int32) (M : Mm) (H : Heap) (locs : List Loc) (ls : Array Slot), T_X12_isAtNothing_2 n x1 M K → fx_H G SH M s H locs → lv_has ls 2 [(0, .ref (G.2.2.2 + 159)), (1, .int x1)] → W p l e (fx_rm (0)) s m args below meth c H locs 0 0 (MQ below (va_Qv K (fx_R G SH) (fx_A G)) args s 0 0 (fx_A G)) (F0 m 2 ls []) := by
  obtain ⟨⟨hx, hb, hml, hown, hts⟩, hK, hQ⟩ := id X
  intro n
  induction n with
  | zero =>
    intro x1 M H locs ls hT
    exact hT.elim
  | succ n ih =>
    intro x1 M H locs ls hT h hl
    rw [T_X12_isAtNothing_2] at hT
    refine lv_iload_n hx hb dX12_isAtNothing_2 rfl (lv_at hl 1 rfl) ?_
    refine lv_sipush (v := 1000) hx hb dX12_isAtNothing_3 (by decide) ?_
    refine lv_icmp_ge (tgt := 47) hx hb dX12_isAtNothing_6 (by decide) (fun hc7 => ?_) (fun hc7 => ?_)
    · have hT := hT.1 hc7
      exact fx_vret X hr hk h hT dX12_isAtNothing_47
    · have hT := hT.2 hc7
      refine lv_aload_n hx hb dX12_isAtNothing_9 rfl (lv_at hl 0 rfl) ?_
      refine fx_getR X h (k := 159) (j := 49) (r := 185) sh_159 rfl fl_RX12_89 dX12_isAtNothing_10 ?_
      refine lv_iload_n hx hb dX12_isAtNothing_13 rfl (lv_at hl 1 rfl) ?_
      refine lv_iload_n hx hb dX12_isAtNothing_14 rfl (lv_at hl 1 rfl) ?_
      refine lv_if_ne (tgt := 22) hx hb dX12_isAtNothing_15 (by decide) (fun hc8 => ?_) (fun hc8 => ?_)
      · have hT := hT.2 hc8
        refine lv_iconst (v := 0) hx hb dX12_isAtNothing_22 (by decide) ?_
        exact w_X12_isAtNothing_23 X hr hk (B2 := (fun x1 M => T_X12_isAtNothing_2 n x1 M K)) ih x1 x1 (0 : Int32) M _ _ ls hT h (lv_sub hl [0, 1] rfl)
      · have hT := hT.1 hc8
        refine lv_iconst (v := 1) hx hb dX12_isAtNothing_18 (by decide) ?_
        refine lv_goto (tgt := 23) hx hb dX12_isAtNothing_19 (by decide) ?_
        exact w_X12_isAtNothing_23 X hr hk (B2 := (fun x1 M => T_X12_isAtNothing_2 n x1 M K)) ih x1 x1 (1 : Int32) M _ _ ls hT h (lv_sub hl [0, 1] rfl)
def T_X12_isAtNothing (M : Mm) (K : Mm → Prop) : Prop := (T_X12_isAtNothing_2 5000 (0 : Int32) M K)
set_option maxHeartbeats 4000000 in
set_option maxRecDepth 100000 in
theorem c_X12_isAtNothing (l : Launch) (G : fx_G) {M : Mm} {K : Mm → Prop} (hT : T_X12_isAtNothing M K) : Met l yX12_isAtNothing (fx_ws yX12_isAtNothing cX12_isAtNothing 2 none) (fx_rm (0)) (va_Pc [.ref (G.2.2.2 + 159)] (fx_P G SH M)) (va_Qv K (fx_R G SH) (fx_A G)) 0 0 (fx_A G) := by
  refine fx_met (own := RX12) (by decide +kernel) rfl (Nat.le_of_ble_eq_true rfl) (fun p e s m below meth c X hr hk h ls hl => ?_)
  obtain ⟨⟨hx, hb, hml, hown, hts⟩, hK, hQ⟩ := id X
  have hl : lv_has ls 2 [(0, .ref (G.2.2.2 + 159))] := hl
  unfold T_X12_isAtNothing at hT
  refine lv_iconst (v := 0) hx hb dX12_isAtNothing_0 (by decide) ?_
  refine lv_istore_n (lv' := [(1, .int (0 : Int32)), (0, .ref (G.2.2.2 + 159))]) hx hb dX12_isAtNothing_1 rfl hl (by decide) rfl (fun ls hl => ?_)
  exact w_X12_isAtNothing_2 X hr hk 5000 (0 : Int32) M _ _ ls hT h (lv_sub hl [1, 0] rfl)
/-! MockParcelsModel.goesBySteps(II)V -/
theorem dX12_goesBySteps_0 : decode cX12_goesBySteps 0 = .ok (.iload_n 1, 1) := by decide +kernel
theorem dX12_goesBySteps_1 : decode cX12_goesBySteps 1 = .ok (.istore_n 3, 1) := by decide +kernel
theorem dX12_goesBySteps_2 : decode cX12_goesBySteps 2 = .ok (.iload_n 3, 1) := by decide +kernel
theorem dX12_goesBySteps_3 : decode cX12_goesBySteps 3 = .ok (.iload_n 2, 1) := by decide +kernel
theorem dX12_goesBySteps_4 : decode cX12_goesBySteps 4 = .ok (.if_icmp .gt 59, 3) := by decide +kernel
theorem dX12_goesBySteps_7 : decode cX12_goesBySteps 7 = .ok (.aload_n 0, 1) := by decide +kernel
theorem dX12_goesBySteps_8 : decode cX12_goesBySteps 8 = .ok (.getfield 89, 3) := by decide +kernel
theorem dX12_goesBySteps_11 : decode cX12_goesBySteps 11 = .ok (.iload_n 3, 1) := by decide +kernel
theorem dX12_goesBySteps_12 : decode cX12_goesBySteps 12 = .ok (.aload_n 0, 1) := by decide +kernel
theorem dX12_goesBySteps_13 : decode cX12_goesBySteps 13 = .ok (.aload_n 0, 1) := by decide +kernel
theorem dX12_goesBySteps_14 : decode cX12_goesBySteps 14 = .ok (.getfield 89, 3) := by decide +kernel
theorem dX12_goesBySteps_17 : decode cX12_goesBySteps 17 = .ok (.iload_n 3, 1) := by decide +kernel
theorem dX12_goesBySteps_18 : decode cX12_goesBySteps 18 = .ok (.iaload, 1) := by decide +kernel
theorem dX12_goesBySteps_19 : decode cX12_goesBySteps 19 = .ok (.aload_n 0, 1) := by decide +kernel
theorem dX12_goesBySteps_20 : decode cX12_goesBySteps 20 = .ok (.getfield 89, 3) := by decide +kernel
theorem dX12_goesBySteps_23 : decode cX12_goesBySteps 23 = .ok (.iload_n 3, 1) := by decide +kernel
theorem dX12_goesBySteps_24 : decode cX12_goesBySteps 24 = .ok (.iload_n 1, 1) := by decide +kernel
theorem dX12_goesBySteps_25 : decode cX12_goesBySteps 25 = .ok (.isub, 1) := by decide +kernel
theorem dX12_goesBySteps_26 : decode cX12_goesBySteps 26 = .ok (.iaload, 1) := by decide +kernel
theorem dX12_goesBySteps_27 : decode cX12_goesBySteps 27 = .ok (.invokevirtual 424, 3) := by decide +kernel
theorem dX12_goesBySteps_30 : decode cX12_goesBySteps 30 = .ok (.iastore, 1) := by decide +kernel
theorem dX12_goesBySteps_31 : decode cX12_goesBySteps 31 = .ok (.aload_n 0, 1) := by decide +kernel
theorem dX12_goesBySteps_32 : decode cX12_goesBySteps 32 = .ok (.getfield 92, 3) := by decide +kernel
theorem dX12_goesBySteps_35 : decode cX12_goesBySteps 35 = .ok (.iload_n 3, 1) := by decide +kernel
theorem dX12_goesBySteps_36 : decode cX12_goesBySteps 36 = .ok (.aload_n 0, 1) := by decide +kernel
theorem dX12_goesBySteps_37 : decode cX12_goesBySteps 37 = .ok (.aload_n 0, 1) := by decide +kernel
theorem dX12_goesBySteps_38 : decode cX12_goesBySteps 38 = .ok (.getfield 92, 3) := by decide +kernel
theorem dX12_goesBySteps_41 : decode cX12_goesBySteps 41 = .ok (.iload_n 3, 1) := by decide +kernel
theorem dX12_goesBySteps_42 : decode cX12_goesBySteps 42 = .ok (.iaload, 1) := by decide +kernel
theorem dX12_goesBySteps_43 : decode cX12_goesBySteps 43 = .ok (.aload_n 0, 1) := by decide +kernel
theorem dX12_goesBySteps_44 : decode cX12_goesBySteps 44 = .ok (.getfield 92, 3) := by decide +kernel
theorem dX12_goesBySteps_47 : decode cX12_goesBySteps 47 = .ok (.iload_n 3, 1) := by decide +kernel
theorem dX12_goesBySteps_48 : decode cX12_goesBySteps 48 = .ok (.iload_n 1, 1) := by decide +kernel
theorem dX12_goesBySteps_49 : decode cX12_goesBySteps 49 = .ok (.isub, 1) := by decide +kernel
theorem dX12_goesBySteps_50 : decode cX12_goesBySteps 50 = .ok (.iaload, 1) := by decide +kernel
theorem dX12_goesBySteps_51 : decode cX12_goesBySteps 51 = .ok (.iconst 1, 1) := by decide +kernel
theorem dX12_goesBySteps_52 : decode cX12_goesBySteps 52 = .ok (.iadd, 1) := by decide +kernel
theorem dX12_goesBySteps_53 : decode cX12_goesBySteps 53 = .ok (.invokevirtual 393, 3) := by decide +kernel
theorem dX12_goesBySteps_56 : decode cX12_goesBySteps 56 = .ok (.iastore, 1) := by decide +kernel
theorem dX12_goesBySteps_57 : decode cX12_goesBySteps 57 = .ok (.iinc 3 1, 3) := by decide +kernel
theorem dX12_goesBySteps_60 : decode cX12_goesBySteps 60 = .ok (.goto (-58), 3) := by decide +kernel
theorem dX12_goesBySteps_63 : decode cX12_goesBySteps 63 = .ok (.return_, 1) := by decide +kernel
def T_X12_goesBySteps_2 : Nat → Int32 → Int32 → Int32 → Mm → (Mm → Prop) → Prop
  | 0, _, _, _, _, _ => False
  | n + 1, x1, x2, x3, M, K => ((x2 < x3 → (K M)) ∧ (¬ x2 < x3 → (vp_in x3 1000 ∧ (vp_in (x3 - x1) 1000 ∧ (T_X12_added (M 185 (x3).toNatClampNeg) (M 185 ((x3 - x1)).toNatClampNeg) M (fun r6 M5 => (vp_in x3 1000 ∧ (∀ M7 : Mm, M7 = m_up M5 185 (x3).toNatClampNeg r6 → (vp_in x3 1000 ∧ (vp_in (x3 - x1) 1000 ∧ (T_X12_lesser (M7 186 (x3).toNatClampNeg) ((M7 186 ((x3 - x1)).toNatClampNeg) + (1 : Int32)) M7 (fun r13 M12 => (vp_in x3 1000 ∧ (∀ M14 : Mm, M14 = m_up M12 186 (x3).toNatClampNeg r13 → (∀ y16 : Int32, y16 = x3 + (1 : Int32) → (T_X12_goesBySteps_2 n x1 x2 y16 M14 K))))))))))))))))
set_option maxHeartbeats 4000000 in
set_option maxRecDepth 100000 in
theorem w_X12_goesBySteps_2 {p : Program} {l : Launch} {e : Env} {s : State} {m : MethodId} {args : Array Value} {below : List Frame} {meth : Method} {c : Code} {G : fx_G} {K : Mm → Prop} (X : fx_C G p s m c args cX12_goesBySteps 4 RX12) (hr : meth.sig.returnType = none) (hk : meth.locks = false) : ∀ (n : Nat) (x1 : Int32) (x2 : Int32) (x3 : Int32) (M : Mm) (H : Heap) (locs : List Loc) (ls : Array Slot), T_X12_goesBySteps_2 n x1 x2 x3 M K → fx_H G SH M s H locs → lv_has ls 4 [(0, .ref (G.2.2.2 + 159)), (1, .int x1), (2, .int x2), (3, .int x3)] → W p l e (fx_rm (1)) s m args below meth c H locs 0 0 (MQ below (va_Qv K (fx_R G SH) (fx_A G)) args s 0 0 (fx_A G)) (F0 m 2 ls []) := by
  obtain ⟨⟨hx, hb, hml, hown, hts⟩, hK, hQ⟩ := id X
  intro n
  induction n with
  | zero =>
    intro x1 x2 x3 M H locs ls hT
    exact hT.elim
  | succ n ih =>
    intro x1 x2 x3 M H locs ls hT h hl
    rw [T_X12_goesBySteps_2] at hT
    refine lv_iload_n hx hb dX12_goesBySteps_2 rfl (lv_at hl 3 rfl) ?_
    refine lv_iload_n hx hb dX12_goesBySteps_3 rfl (lv_at hl 2 rfl) ?_
    refine lv_icmp_gt (tgt := 63) hx hb dX12_goesBySteps_4 (by decide) (fun hc1 => ?_) (fun hc1 => ?_)
    · have hT := hT.1 hc1
      exact fx_vret X hr hk h hT dX12_goesBySteps_63
    · have hT := hT.2 hc1
      refine lv_aload_n hx hb dX12_goesBySteps_7 rfl (lv_at hl 0 rfl) ?_
      refine fx_getR X h (k := 159) (j := 49) (r := 185) sh_159 rfl fl_RX12_89 dX12_goesBySteps_8 ?_
      refine lv_iload_n hx hb dX12_goesBySteps_11 rfl (lv_at hl 3 rfl) ?_
      refine lv_aload_n hx hb dX12_goesBySteps_12 rfl (lv_at hl 0 rfl) ?_
      refine lv_aload_n hx hb dX12_goesBySteps_13 rfl (lv_at hl 0 rfl) ?_
      refine fx_getR X h (k := 159) (j := 49) (r := 185) sh_159 rfl fl_RX12_89 dX12_goesBySteps_14 ?_
      refine lv_iload_n hx hb dX12_goesBySteps_17 rfl (lv_at hl 3 rfl) ?_
      obtain ⟨hi2, hT⟩ := hT
      refine fx_iald X h (k := 185) sh_185 hi2 dX12_goesBySteps_18 ?_
      refine lv_aload_n hx hb dX12_goesBySteps_19 rfl (lv_at hl 0 rfl) ?_
      refine fx_getR X h (k := 159) (j := 49) (r := 185) sh_159 rfl fl_RX12_89 dX12_goesBySteps_20 ?_
      refine lv_iload_n hx hb dX12_goesBySteps_23 rfl (lv_at hl 3 rfl) ?_
      refine lv_iload_n hx hb dX12_goesBySteps_24 rfl (lv_at hl 1 rfl) ?_
      refine lv_isub hx hb dX12_goesBySteps_25 ?_
      obtain ⟨hi3, hT⟩ := hT
      refine fx_iald X h (k := 185) sh_185 hi3 dX12_goesBySteps_26 ?_
      refine fx_vi X h ym_X12_added yi_X12_added ys_X12_added (fx_s8 (List.mem_of_getElem? (i := 192) rfl) rfl) sh_159 rfl (c_X12_added l G hT) (As := [.int (M 185 (x3).toNatClampNeg), .int (M 185 ((x3 - x1)).toNatClampNeg)]) (rest := [.int x3, .ref (G.2.2.2 + 185)]) rfl rfl ⟨Nat.le_of_ble_eq_true rfl, Nat.le_of_ble_eq_true rfl⟩ ⟨Nat.le_refl _, Nat.le_refl _⟩ hl.1 (Nat.le_of_ble_eq_true rfl) dX12_goesBySteps_27 (fun r6 M5 H locs hT h => ?_)
      obtain ⟨hi8, hT⟩ := hT
      refine fx_iast X h (k := 185) sh_185 hi8 dX12_goesBySteps_30 (fun H locs h => ?_)
      obtain ⟨M7, eM7⟩ : ∃ z : Mm, z = m_up M5 185 (x3).toNatClampNeg r6 := ⟨_, rfl⟩
      have hT := hT M7 eM7
      rw [← eM7] at h
      refine lv_aload_n hx hb dX12_goesBySteps_31 rfl (lv_at hl 0 rfl) ?_
      refine fx_getR X h (k := 159) (j := 50) (r := 186) sh_159 rfl fl_RX12_92 dX12_goesBySteps_32 ?_
      refine lv_iload_n hx hb dX12_goesBySteps_35 rfl (lv_at hl 3 rfl) ?_
      refine lv_aload_n hx hb dX12_goesBySteps_36 rfl (lv_at hl 0 rfl) ?_
      refine lv_aload_n hx hb dX12_goesBySteps_37 rfl (lv_at hl 0 rfl) ?_
      refine fx_getR X h (k := 159) (j := 50) (r := 186) sh_159 rfl fl_RX12_92 dX12_goesBySteps_38 ?_
      refine lv_iload_n hx hb dX12_goesBySteps_41 rfl (lv_at hl 3 rfl) ?_
      obtain ⟨hi9, hT⟩ := hT
      refine fx_iald X h (k := 186) sh_186 hi9 dX12_goesBySteps_42 ?_
      refine lv_aload_n hx hb dX12_goesBySteps_43 rfl (lv_at hl 0 rfl) ?_
      refine fx_getR X h (k := 159) (j := 50) (r := 186) sh_159 rfl fl_RX12_92 dX12_goesBySteps_44 ?_
      refine lv_iload_n hx hb dX12_goesBySteps_47 rfl (lv_at hl 3 rfl) ?_
      refine lv_iload_n hx hb dX12_goesBySteps_48 rfl (lv_at hl 1 rfl) ?_
      refine lv_isub hx hb dX12_goesBySteps_49 ?_
      obtain ⟨hi10, hT⟩ := hT
      refine fx_iald X h (k := 186) sh_186 hi10 dX12_goesBySteps_50 ?_
      refine lv_iconst (v := 1) hx hb dX12_goesBySteps_51 (by decide) ?_
      refine lv_iadd hx hb dX12_goesBySteps_52 ?_
      refine fx_vi X h ym_X12_lesser yi_X12_lesser ys_X12_lesser (fx_s8 (List.mem_of_getElem? (i := 107) rfl) rfl) sh_159 rfl (c_X12_lesser l G hT) (As := [.int (M7 186 (x3).toNatClampNeg), .int ((M7 186 ((x3 - x1)).toNatClampNeg) + (1 : Int32))]) (rest := [.int x3, .ref (G.2.2.2 + 186)]) rfl rfl ⟨Nat.le_of_ble_eq_true rfl, Nat.le_of_ble_eq_true rfl⟩ ⟨Nat.le_refl _, Nat.le_refl _⟩ hl.1 (Nat.le_of_ble_eq_true rfl) dX12_goesBySteps_53 (fun r13 M12 H locs hT h => ?_)
      obtain ⟨hi15, hT⟩ := hT
      refine fx_iast X h (k := 186) sh_186 hi15 dX12_goesBySteps_56 (fun H locs h => ?_)
      obtain ⟨M14, eM14⟩ : ∃ z : Mm, z = m_up M12 186 (x3).toNatClampNeg r13 := ⟨_, rfl⟩
      have hT := hT M14 eM14
      rw [← eM14] at h
      obtain ⟨y16, ey16⟩ : ∃ z : Int32, z = x3 + (1 : Int32) := ⟨_, rfl⟩
      have hT := hT y16 ey16
      refine lv_iinc (v := y16) (lv' := [(3, .int y16), (0, .ref (G.2.2.2 + 159)), (1, .int x1), (2, .int x2)]) hx hb dX12_goesBySteps_57 hl (k := 3) rfl (by rw [ey16]; rfl) (by decide) rfl (fun ls hl => ?_)
      refine lv_goto (tgt := 2) hx hb dX12_goesBySteps_60 (by decide) ?_
      exact ih x1 x2 y16 M14 _ _ ls hT h (lv_sub hl [1, 2, 3, 0] rfl)
def T_X12_goesBySteps (x1 : Int32) (x2 : Int32) (M : Mm) (K : Mm → Prop) : Prop := (T_X12_goesBySteps_2 5000 x1 x2 x1 M K)
set_option maxHeartbeats 4000000 in
set_option maxRecDepth 100000 in
theorem c_X12_goesBySteps (l : Launch) (G : fx_G) {x1 : Int32} {x2 : Int32} {M : Mm} {K : Mm → Prop} (hT : T_X12_goesBySteps x1 x2 M K) : Met l yX12_goesBySteps (fx_ws yX12_goesBySteps cX12_goesBySteps 4 none) (fx_rm (1)) (va_Pc [.ref (G.2.2.2 + 159), .int x1, .int x2] (fx_P G SH M)) (va_Qv K (fx_R G SH) (fx_A G)) 0 0 (fx_A G) := by
  refine fx_met (own := RX12) (by decide +kernel) rfl (Nat.le_of_ble_eq_true rfl) (fun p e s m below meth c X hr hk h ls hl => ?_)
  obtain ⟨⟨hx, hb, hml, hown, hts⟩, hK, hQ⟩ := id X
  have hl : lv_has ls 4 [(0, .ref (G.2.2.2 + 159)), (1, .int x1), (2, .int x2)] := hl
  unfold T_X12_goesBySteps at hT
  refine lv_iload_n hx hb dX12_goesBySteps_0 rfl (lv_at hl 1 rfl) ?_
  refine lv_istore_n (lv' := [(3, .int x1), (0, .ref (G.2.2.2 + 159)), (1, .int x1), (2, .int x2)]) hx hb dX12_goesBySteps_1 rfl hl (by decide) rfl (fun ls hl => ?_)
  exact w_X12_goesBySteps_2 X hr hk 5000 x1 x2 x1 M _ _ ls hT h (lv_sub hl [1, 2, 3, 0] rfl)
