/-! MockParcelsModel.partOf(II)I -/
theorem dX12_partOf_0 : decode cX12_partOf 0 = .ok (.iload_n 1, 1) := by decide +kernel
theorem dX12_partOf_1 : decode cX12_partOf 1 = .ok (.iload_n 2, 1) := by decide +kernel
theorem dX12_partOf_2 : decode cX12_partOf 2 = .ok (.idiv, 1) := by decide +kernel
theorem dX12_partOf_3 : decode cX12_partOf 3 = .ok (.istore_n 3, 1) := by decide +kernel
theorem dX12_partOf_4 : decode cX12_partOf 4 = .ok (.iload_n 1, 1) := by decide +kernel
theorem dX12_partOf_5 : decode cX12_partOf 5 = .ok (.iload_n 2, 1) := by decide +kernel
theorem dX12_partOf_6 : decode cX12_partOf 6 = .ok (.irem, 1) := by decide +kernel
theorem dX12_partOf_7 : decode cX12_partOf 7 = .ok (.istore 4, 2) := by decide +kernel
theorem dX12_partOf_9 : decode cX12_partOf 9 = .ok (.iconst 0, 1) := by decide +kernel
theorem dX12_partOf_10 : decode cX12_partOf 10 = .ok (.istore 5, 2) := by decide +kernel
theorem dX12_partOf_12 : decode cX12_partOf 12 = .ok (.iload 5, 2) := by decide +kernel
theorem dX12_partOf_14 : decode cX12_partOf 14 = .ok (.bipush 6, 2) := by decide +kernel
theorem dX12_partOf_16 : decode cX12_partOf 16 = .ok (.if_icmp .ge 32, 3) := by decide +kernel
theorem dX12_partOf_19 : decode cX12_partOf 19 = .ok (.iload 4, 2) := by decide +kernel
theorem dX12_partOf_21 : decode cX12_partOf 21 = .ok (.bipush 10, 2) := by decide +kernel
theorem dX12_partOf_23 : decode cX12_partOf 23 = .ok (.imul, 1) := by decide +kernel
theorem dX12_partOf_24 : decode cX12_partOf 24 = .ok (.istore 4, 2) := by decide +kernel
theorem dX12_partOf_26 : decode cX12_partOf 26 = .ok (.bipush 10, 2) := by decide +kernel
theorem dX12_partOf_28 : decode cX12_partOf 28 = .ok (.iload_n 3, 1) := by decide +kernel
theorem dX12_partOf_29 : decode cX12_partOf 29 = .ok (.imul, 1) := by decide +kernel
theorem dX12_partOf_30 : decode cX12_partOf 30 = .ok (.iload 4, 2) := by decide +kernel
theorem dX12_partOf_32 : decode cX12_partOf 32 = .ok (.iload_n 2, 1) := by decide +kernel
theorem dX12_partOf_33 : decode cX12_partOf 33 = .ok (.idiv, 1) := by decide +kernel
theorem dX12_partOf_34 : decode cX12_partOf 34 = .ok (.iadd, 1) := by decide +kernel
theorem dX12_partOf_35 : decode cX12_partOf 35 = .ok (.istore_n 3, 1) := by decide +kernel
theorem dX12_partOf_36 : decode cX12_partOf 36 = .ok (.iload 4, 2) := by decide +kernel
theorem dX12_partOf_38 : decode cX12_partOf 38 = .ok (.iload_n 2, 1) := by decide +kernel
theorem dX12_partOf_39 : decode cX12_partOf 39 = .ok (.irem, 1) := by decide +kernel
theorem dX12_partOf_40 : decode cX12_partOf 40 = .ok (.istore 4, 2) := by decide +kernel
theorem dX12_partOf_42 : decode cX12_partOf 42 = .ok (.iinc 5 1, 3) := by decide +kernel
theorem dX12_partOf_45 : decode cX12_partOf 45 = .ok (.goto (-33), 3) := by decide +kernel
theorem dX12_partOf_48 : decode cX12_partOf 48 = .ok (.iload_n 3, 1) := by decide +kernel
theorem dX12_partOf_49 : decode cX12_partOf 49 = .ok (.ireturn, 1) := by decide +kernel
def T_X12_partOf_12 : Nat → Int32 → Int32 → Int32 → Int32 → Mm → (Int32 → Mm → Prop) → Prop
  | 0, _, _, _, _, _, _ => False
  | n + 1, x2, x3, x4, x5, M, K => (((6 : Int32) ≤ x5 → (K x3 M)) ∧ (¬ (6 : Int32) ≤ x5 → (∀ y2 : Int32, y2 = (x4 * (10 : Int32)) → (¬ x2 = 0 ∧ (∀ y4 : Int32, y4 = (((10 : Int32) * x3) + (y2 / x2)) → (¬ x2 = 0 ∧ (∀ y6 : Int32, y6 = (y2 - y2 / x2 * x2) → (∀ y7 : Int32, y7 = x5 + (1 : Int32) → (T_X12_partOf_12 n x2 y4 y6 y7 M K)))))))))
set_option maxHeartbeats 4000000 in
set_option maxRecDepth 100000 in
theorem w_X12_partOf_12 {p : Program} {l : Launch} {e : Env} {s : State} {m : MethodId} {args : Array Value} {below : List Frame} {meth : Method} {c : Code} {G : fx_G} {K : Int32 → Mm → Prop} (X : fx_C G p s m c args cX12_partOf 6 RX12) (hr : meth.sig.returnType = (some .int)) (hk : meth.locks = false) : ∀ (n : Nat) (x2 : Int32) (x3 : Int32) (x4 : Int32) (x5 : Int32) (M : Mm) (H : Heap) (locs : List Loc) (ls : Array Slot), T_X12_partOf_12 n x2 x3 x4 x5 M K → fx_H G SH M s H locs → lv_has ls 6 [(2, .int x2), (3, .int x3), (4, .int x4), (5, .int x5)] → W p l e (fx_rm (0)) s m args below meth c H locs 0 0 (MQ below (va_Qi K (fx_R G SH) (fx_A G)) args s 0 0 (fx_A G)) (F0 m 12 ls []) := by
  obtain ⟨⟨hx, hb, hml, hown, hts⟩, hK, hQ⟩ := id X
  intro n
  induction n with
  | zero =>
    intro x2 x3 x4 x5 M H locs ls hT
    exact hT.elim
  | succ n ih =>
    intro x2 x3 x4 x5 M H locs ls hT h hl
    rw [T_X12_partOf_12] at hT
    refine lv_iload hx hb dX12_partOf_12 (lv_at hl 3 rfl) ?_
    refine lv_bipush (v := 6) hx hb dX12_partOf_14 (by decide) ?_
    refine lv_icmp_ge (tgt := 48) hx hb dX12_partOf_16 (by decide) (fun hc1 => ?_) (fun hc1 => ?_)
    · have hT := hT.1 hc1
      refine lv_iload_n hx hb dX12_partOf_48 rfl (lv_at hl 1 rfl) ?_
      exact fx_iret X hr hk h hT dX12_partOf_49
    · have hT := hT.2 hc1
      refine lv_iload hx hb dX12_partOf_19 (lv_at hl 2 rfl) ?_
      refine lv_bipush (v := 10) hx hb dX12_partOf_21 (by decide) ?_
      refine lv_imul hx hb dX12_partOf_23 ?_
      refine lv_topi (fun y2 ey2 => ?_)
      have hT := hT y2 ey2
      refine lv_istore (lv' := [(4, .int y2), (2, .int x2), (3, .int x3), (5, .int x5)]) hx hb dX12_partOf_24 hl (by decide) rfl (fun ls hl => ?_)
      refine lv_bipush (v := 10) hx hb dX12_partOf_26 (by decide) ?_
      refine lv_iload_n hx hb dX12_partOf_28 rfl (lv_at hl 2 rfl) ?_
      refine lv_imul hx hb dX12_partOf_29 ?_
      refine lv_iload hx hb dX12_partOf_30 (lv_at hl 0 rfl) ?_
      refine lv_iload_n hx hb dX12_partOf_32 rfl (lv_at hl 1 rfl) ?_
      obtain ⟨hz3, hT⟩ := hT
      refine lv_idiv hx hb dX12_partOf_33 hz3 ?_
      refine lv_iadd hx hb dX12_partOf_34 ?_
      refine lv_topi (fun y4 ey4 => ?_)
      have hT := hT y4 ey4
      refine lv_istore_n (lv' := [(3, .int y4), (4, .int y2), (2, .int x2), (5, .int x5)]) hx hb dX12_partOf_35 rfl hl (by decide) rfl (fun ls hl => ?_)
      refine lv_iload hx hb dX12_partOf_36 (lv_at hl 1 rfl) ?_
      refine lv_iload_n hx hb dX12_partOf_38 rfl (lv_at hl 2 rfl) ?_
      obtain ⟨hz5, hT⟩ := hT
      refine lv_irem hx hb dX12_partOf_39 hz5 ?_
      refine lv_topi (fun y6 ey6 => ?_)
      have hT := hT y6 ey6
      refine lv_istore (lv' := [(4, .int y6), (3, .int y4), (2, .int x2), (5, .int x5)]) hx hb dX12_partOf_40 hl (by decide) rfl (fun ls hl => ?_)
      obtain ⟨y7, ey7⟩ : ∃ z : Int32, z = x5 + (1 : Int32) := ⟨_, rfl⟩
      have hT := hT y7 ey7
      refine lv_iinc (v := y7) (lv' := [(5, .int y7), (4, .int y6), (3, .int y4), (2, .int x2)]) hx hb dX12_partOf_42 hl (k := 3) rfl (by rw [ey7]; rfl) (by decide) rfl (fun ls hl => ?_)
      refine lv_goto (tgt := 12) hx hb dX12_partOf_45 (by decide) ?_
      exact ih x2 y4 y6 y7 M _ _ ls hT h (lv_sub hl [3, 2, 1, 0] rfl)
def T_X12_partOf (x1 : Int32) (x2 : Int32) (M : Mm) (K : Int32 → Mm → Prop) : Prop := (¬ x2 = 0 ∧ (∀ y9 : Int32, y9 = (x1 / x2) → (¬ x2 = 0 ∧ (∀ y11 : Int32, y11 = (x1 - x1 / x2 * x2) → (T_X12_partOf_12 5000 x2 y9 y11 (0 : Int32) M K)))))
set_option maxHeartbeats 4000000 in
set_option maxRecDepth 100000 in
theorem c_X12_partOf (l : Launch) (G : fx_G) {x1 : Int32} {x2 : Int32} {M : Mm} {K : Int32 → Mm → Prop} (hT : T_X12_partOf x1 x2 M K) : Met l yX12_partOf (fx_ws yX12_partOf cX12_partOf 6 (some .int)) (fx_rm (0)) (va_Pc [.ref (G.2.2.2 + 159), .int x1, .int x2] (fx_P G SH M)) (va_Qi K (fx_R G SH) (fx_A G)) 0 0 (fx_A G) := by
  refine fx_met (own := RX12) (by decide +kernel) rfl (Nat.le_of_ble_eq_true rfl) (fun p e s m below meth c X hr hk h ls hl => ?_)
  obtain ⟨⟨hx, hb, hml, hown, hts⟩, hK, hQ⟩ := id X
  have hl : lv_has ls 6 [(0, .ref (G.2.2.2 + 159)), (1, .int x1), (2, .int x2)] := hl
  unfold T_X12_partOf at hT
  refine lv_iload_n hx hb dX12_partOf_0 rfl (lv_at hl 1 rfl) ?_
  refine lv_iload_n hx hb dX12_partOf_1 rfl (lv_at hl 2 rfl) ?_
  obtain ⟨hz8, hT⟩ := hT
  refine lv_idiv hx hb dX12_partOf_2 hz8 ?_
  refine lv_topi (fun y9 ey9 => ?_)
  have hT := hT y9 ey9
  refine lv_istore_n (lv' := [(3, .int y9), (0, .ref (G.2.2.2 + 159)), (1, .int x1), (2, .int x2)]) hx hb dX12_partOf_3 rfl hl (by decide) rfl (fun ls hl => ?_)
  refine lv_iload_n hx hb dX12_partOf_4 rfl (lv_at hl 2 rfl) ?_
  refine lv_iload_n hx hb dX12_partOf_5 rfl (lv_at hl 3 rfl) ?_
  obtain ⟨hz10, hT⟩ := hT
  refine lv_irem hx hb dX12_partOf_6 hz10 ?_
  refine lv_topi (fun y11 ey11 => ?_)
  have hT := hT y11 ey11
  refine lv_istore (lv' := [(4, .int y11), (3, .int y9), (0, .ref (G.2.2.2 + 159)), (1, .int x1), (2, .int x2)]) hx hb dX12_partOf_7 hl (by decide) rfl (fun ls hl => ?_)
  refine lv_iconst (v := 0) hx hb dX12_partOf_9 (by decide) ?_
  refine lv_istore (lv' := [(5, .int (0 : Int32)), (4, .int y11), (3, .int y9), (0, .ref (G.2.2.2 + 159)), (1, .int x1), (2, .int x2)]) hx hb dX12_partOf_10 hl (by decide) rfl (fun ls hl => ?_)
  exact w_X12_partOf_12 X hr hk 5000 x2 y9 y11 (0 : Int32) M _ _ ls hT h (lv_sub hl [5, 2, 1, 0] rfl)
/-! MockParcelsModel.guessed(III)I -/
theorem dX12_guessed_0 : decode cX12_guessed 0 = .ok (.aload_n 0, 1) := by decide +kernel
theorem dX12_guessed_1 : decode cX12_guessed 1 = .ok (.iload_n 1, 1) := by decide +kernel
theorem dX12_guessed_2 : decode cX12_guessed 2 = .ok (.iload_n 2, 1) := by decide +kernel
theorem dX12_guessed_3 : decode cX12_guessed 3 = .ok (.imul, 1) := by decide +kernel
theorem dX12_guessed_4 : decode cX12_guessed 4 = .ok (.iload_n 1, 1) := by decide +kernel
theorem dX12_guessed_5 : decode cX12_guessed 5 = .ok (.iload_n 2, 1) := by decide +kernel
theorem dX12_guessed_6 : decode cX12_guessed 6 = .ok (.imul, 1) := by decide +kernel
theorem dX12_guessed_7 : decode cX12_guessed 7 = .ok (.ldc_w 502, 3) := by decide +kernel
theorem dX12_guessed_10 : decode cX12_guessed 10 = .ok (.iload_n 1, 1) := by decide +kernel
theorem dX12_guessed_11 : decode cX12_guessed 11 = .ok (.isub, 1) := by decide +kernel
theorem dX12_guessed_12 : decode cX12_guessed 12 = .ok (.iload_n 3, 1) := by decide +kernel
theorem dX12_guessed_13 : decode cX12_guessed 13 = .ok (.imul, 1) := by decide +kernel
theorem dX12_guessed_14 : decode cX12_guessed 14 = .ok (.iadd, 1) := by decide +kernel
theorem dX12_guessed_15 : decode cX12_guessed 15 = .ok (.invokevirtual 503, 3) := by decide +kernel
theorem dX12_guessed_18 : decode cX12_guessed 18 = .ok (.ireturn, 1) := by decide +kernel
def T_X12_guessed (x1 : Int32) (x2 : Int32) (x3 : Int32) (M : Mm) (K : Int32 → Mm → Prop) : Prop := (T_X12_partOf (x1 * x2) ((x1 * x2) + (((1000000 : Int32) - x1) * x3)) M (fun r3 M2 => (K r3 M2)))
set_option maxHeartbeats 4000000 in
set_option maxRecDepth 100000 in
theorem c_X12_guessed (l : Launch) (G : fx_G) {x1 : Int32} {x2 : Int32} {x3 : Int32} {M : Mm} {K : Int32 → Mm → Prop} (hT : T_X12_guessed x1 x2 x3 M K) : Met l yX12_guessed (fx_ws yX12_guessed cX12_guessed 4 (some .int)) (fx_rm (1)) (va_Pc [.ref (G.2.2.2 + 159), .int x1, .int x2, .int x3] (fx_P G SH M)) (va_Qi K (fx_R G SH) (fx_A G)) 0 0 (fx_A G) := by
  refine fx_met (own := RX12) (by decide +kernel) rfl (Nat.le_of_ble_eq_true rfl) (fun p e s m below meth c X hr hk h ls hl => ?_)
  obtain ⟨⟨hx, hb, hml, hown, hts⟩, hK, hQ⟩ := id X
  have hl : lv_has ls 4 [(0, .ref (G.2.2.2 + 159)), (1, .int x1), (2, .int x2), (3, .int x3)] := hl
  unfold T_X12_guessed at hT
  refine lv_aload_n hx hb dX12_guessed_0 rfl (lv_at hl 0 rfl) ?_
  refine lv_iload_n hx hb dX12_guessed_1 rfl (lv_at hl 1 rfl) ?_
  refine lv_iload_n hx hb dX12_guessed_2 rfl (lv_at hl 2 rfl) ?_
  refine lv_imul hx hb dX12_guessed_3 ?_
  refine lv_iload_n hx hb dX12_guessed_4 rfl (lv_at hl 1 rfl) ?_
  refine lv_iload_n hx hb dX12_guessed_5 rfl (lv_at hl 2 rfl) ?_
  refine lv_imul hx hb dX12_guessed_6 ?_
  refine lv_ldcw (v := 1000000) hx hb hown (hts _ (fx_s9 (List.mem_of_getElem? (i := 87) rfl) rfl)) dX12_guessed_7 ?_
  refine lv_iload_n hx hb dX12_guessed_10 rfl (lv_at hl 1 rfl) ?_
  refine lv_isub hx hb dX12_guessed_11 ?_
  refine lv_iload_n hx hb dX12_guessed_12 rfl (lv_at hl 3 rfl) ?_
  refine lv_imul hx hb dX12_guessed_13 ?_
  refine lv_iadd hx hb dX12_guessed_14 ?_
  refine fx_vi X h ym_X12_partOf yi_X12_partOf ys_X12_partOf (fx_s9 (List.mem_of_getElem? (i := 88) rfl) rfl) sh_159 rfl (c_X12_partOf l G hT) (As := [.int (x1 * x2), .int ((x1 * x2) + (((1000000 : Int32) - x1) * x3))]) (rest := []) rfl rfl ⟨Nat.le_of_ble_eq_true rfl, Nat.le_of_ble_eq_true rfl⟩ ⟨Nat.le_refl _, Nat.le_refl _⟩ hl.1 (Nat.le_of_ble_eq_true rfl) dX12_guessed_15 (fun r3 M2 H locs hT h => ?_)
  exact fx_iret X hr hk h hT dX12_guessed_18
/-! MockParcelsModel.shill(III)I -/
theorem dX12_shill_0 : decode cX12_shill 0 = .ok (.aload_n 0, 1) := by decide +kernel
theorem dX12_shill_1 : decode cX12_shill 1 = .ok (.iconst 0, 1) := by decide +kernel
theorem dX12_shill_2 : decode cX12_shill 2 = .ok (.putfield 134, 3) := by decide +kernel
theorem dX12_shill_5 : decode cX12_shill 5 = .ok (.aload_n 0, 1) := by decide +kernel
theorem dX12_shill_6 : decode cX12_shill 6 = .ok (.iload_n 1, 1) := by decide +kernel
theorem dX12_shill_7 : decode cX12_shill 7 = .ok (.iconst 0, 1) := by decide +kernel
theorem dX12_shill_8 : decode cX12_shill 8 = .ok (.sipush 1000, 3) := by decide +kernel
theorem dX12_shill_11 : decode cX12_shill 11 = .ok (.invokevirtual 157, 3) := by decide +kernel
theorem dX12_shill_14 : decode cX12_shill 14 = .ok (.ifCond .eq 25, 3) := by decide +kernel
theorem dX12_shill_17 : decode cX12_shill 17 = .ok (.aload_n 0, 1) := by decide +kernel
theorem dX12_shill_18 : decode cX12_shill 18 = .ok (.iload_n 2, 1) := by decide +kernel
theorem dX12_shill_19 : decode cX12_shill 19 = .ok (.iconst 0, 1) := by decide +kernel
theorem dX12_shill_20 : decode cX12_shill 20 = .ok (.bipush 20, 2) := by decide +kernel
theorem dX12_shill_22 : decode cX12_shill 22 = .ok (.invokevirtual 157, 3) := by decide +kernel
theorem dX12_shill_25 : decode cX12_shill 25 = .ok (.ifCond .eq 14, 3) := by decide +kernel
theorem dX12_shill_28 : decode cX12_shill 28 = .ok (.aload_n 0, 1) := by decide +kernel
theorem dX12_shill_29 : decode cX12_shill 29 = .ok (.iload_n 3, 1) := by decide +kernel
theorem dX12_shill_30 : decode cX12_shill 30 = .ok (.iload_n 2, 1) := by decide +kernel
theorem dX12_shill_31 : decode cX12_shill 31 = .ok (.bipush 40, 2) := by decide +kernel
theorem dX12_shill_33 : decode cX12_shill 33 = .ok (.invokevirtual 157, 3) := by decide +kernel
theorem dX12_shill_36 : decode cX12_shill 36 = .ok (.ifCond .ne 5, 3) := by decide +kernel
theorem dX12_shill_39 : decode cX12_shill 39 = .ok (.iconst (-1), 1) := by decide +kernel
theorem dX12_shill_40 : decode cX12_shill 40 = .ok (.ireturn, 1) := by decide +kernel
theorem dX12_shill_41 : decode cX12_shill 41 = .ok (.sipush 1000, 3) := by decide +kernel
theorem dX12_shill_44 : decode cX12_shill 44 = .ok (.iload_n 1, 1) := by decide +kernel
theorem dX12_shill_45 : decode cX12_shill 45 = .ok (.imul, 1) := by decide +kernel
theorem dX12_shill_46 : decode cX12_shill 46 = .ok (.istore 4, 2) := by decide +kernel
theorem dX12_shill_48 : decode cX12_shill 48 = .ok (.iconst 0, 1) := by decide +kernel
theorem dX12_shill_49 : decode cX12_shill 49 = .ok (.istore 5, 2) := by decide +kernel
theorem dX12_shill_51 : decode cX12_shill 51 = .ok (.iload 5, 2) := by decide +kernel
theorem dX12_shill_53 : decode cX12_shill 53 = .ok (.iload_n 3, 1) := by decide +kernel
theorem dX12_shill_54 : decode cX12_shill 54 = .ok (.if_icmp .ge 38, 3) := by decide +kernel
theorem dX12_shill_57 : decode cX12_shill 57 = .ok (.iload 5, 2) := by decide +kernel
theorem dX12_shill_59 : decode cX12_shill 59 = .ok (.iload_n 2, 1) := by decide +kernel
theorem dX12_shill_60 : decode cX12_shill 60 = .ok (.if_icmp .ge 15, 3) := by decide +kernel
theorem dX12_shill_63 : decode cX12_shill 63 = .ok (.aload_n 0, 1) := by decide +kernel
theorem dX12_shill_64 : decode cX12_shill 64 = .ok (.iload 4, 2) := by decide +kernel
theorem dX12_shill_66 : decode cX12_shill 66 = .ok (.bipush 6, 2) := by decide +kernel
theorem dX12_shill_68 : decode cX12_shill 68 = .ok (.iconst 3, 1) := by decide +kernel
theorem dX12_shill_69 : decode cX12_shill 69 = .ok (.invokevirtual 506, 3) := by decide +kernel
theorem dX12_shill_72 : decode cX12_shill 72 = .ok (.goto 12, 3) := by decide +kernel
theorem dX12_shill_75 : decode cX12_shill 75 = .ok (.aload_n 0, 1) := by decide +kernel
theorem dX12_shill_76 : decode cX12_shill 76 = .ok (.iload 4, 2) := by decide +kernel
theorem dX12_shill_78 : decode cX12_shill 78 = .ok (.iconst 4, 1) := by decide +kernel
theorem dX12_shill_79 : decode cX12_shill 79 = .ok (.bipush 7, 2) := by decide +kernel
theorem dX12_shill_81 : decode cX12_shill 81 = .ok (.invokevirtual 506, 3) := by decide +kernel
theorem dX12_shill_84 : decode cX12_shill 84 = .ok (.istore 4, 2) := by decide +kernel
theorem dX12_shill_86 : decode cX12_shill 86 = .ok (.iinc 5 1, 3) := by decide +kernel
theorem dX12_shill_89 : decode cX12_shill 89 = .ok (.goto (-38), 3) := by decide +kernel
theorem dX12_shill_92 : decode cX12_shill 92 = .ok (.iload 4, 2) := by decide +kernel
theorem dX12_shill_94 : decode cX12_shill 94 = .ok (.ireturn, 1) := by decide +kernel
def T_X12_shill_84 (B51 : Int32 → Int32 → Int32 → Int32 → Mm → Prop) (x2 : Int32) (x3 : Int32) (x5 : Int32) (s0 : Int32) (M : Mm) (K : Int32 → Mm → Prop) : Prop := (∀ y1 : Int32, y1 = x5 + (1 : Int32) → (B51 x2 x3 s0 y1 M))
set_option maxHeartbeats 4000000 in
set_option maxRecDepth 100000 in
theorem w_X12_shill_84 {p : Program} {l : Launch} {e : Env} {s : State} {m : MethodId} {args : Array Value} {below : List Frame} {meth : Method} {c : Code} {G : fx_G} {K : Int32 → Mm → Prop} {B51 : Int32 → Int32 → Int32 → Int32 → Mm → Prop} (X : fx_C G p s m c args cX12_shill 6 RX12) (hr : meth.sig.returnType = (some .int)) (hk : meth.locks = false) (hB51 : ∀ (x2 : Int32) (x3 : Int32) (x4 : Int32) (x5 : Int32) (M : Mm) (H : Heap) (locs : List Loc) (ls : Array Slot), B51 x2 x3 x4 x5 M → fx_H G SH M s H locs → lv_has ls 6 [(0, .ref (G.2.2.2 + 159)), (2, .int x2), (3, .int x3), (4, .int x4), (5, .int x5)] → W p l e (fx_rm (2)) s m args below meth c H locs 0 0 (MQ below (va_Qi K (fx_R G SH) (fx_A G)) args s 0 0 (fx_A G)) (F0 m 51 ls [])) : ∀ (x2 : Int32) (x3 : Int32) (x5 : Int32) (s0 : Int32) (M : Mm) (H : Heap) (locs : List Loc) (ls : Array Slot), T_X12_shill_84 B51 x2 x3 x5 s0 M K → fx_H G SH M s H locs → lv_has ls 6 [(0, .ref (G.2.2.2 + 159)), (2, .int x2), (3, .int x3), (5, .int x5)] → W p l e (fx_rm (2)) s m args below meth c H locs 0 0 (MQ below (va_Qi K (fx_R G SH) (fx_A G)) args s 0 0 (fx_A G)) (F0 m 84 ls [.int s0]) := by
  obtain ⟨⟨hx, hb, hml, hown, hts⟩, hK, hQ⟩ := id X
  intro x2 x3 x5 s0 M H locs ls hT h hl
  unfold T_X12_shill_84 at hT
  refine lv_istore (lv' := [(4, .int s0), (0, .ref (G.2.2.2 + 159)), (2, .int x2), (3, .int x3), (5, .int x5)]) hx hb dX12_shill_84 hl (by decide) rfl (fun ls hl => ?_)
  obtain ⟨y1, ey1⟩ : ∃ z : Int32, z = x5 + (1 : Int32) := ⟨_, rfl⟩
  have hT := hT y1 ey1
  refine lv_iinc (v := y1) (lv' := [(5, .int y1), (4, .int s0), (0, .ref (G.2.2.2 + 159)), (2, .int x2), (3, .int x3)]) hx hb dX12_shill_86 hl (k := 4) rfl (by rw [ey1]; rfl) (by decide) rfl (fun ls hl => ?_)
  refine lv_goto (tgt := 51) hx hb dX12_shill_89 (by decide) ?_
  exact hB51 x2 x3 s0 y1 M _ _ ls hT h (lv_sub hl [2, 3, 4, 1, 0] rfl)
def T_X12_shill_51 : Nat → Int32 → Int32 → Int32 → Int32 → Mm → (Int32 → Mm → Prop) → Prop
  | 0, _, _, _, _, _, _ => False
  | n + 1, x2, x3, x4, x5, M, K => ((x3 ≤ x5 → (K x4 M)) ∧ (¬ x3 ≤ x5 → ((x2 ≤ x5 → (T_X12_guessed x4 (4 : Int32) (7 : Int32) M (fun r6 M5 => (T_X12_shill_84 (fun x2 x3 x4 x5 M => T_X12_shill_51 n x2 x3 x4 x5 M K) x2 x3 x5 r6 M5 K)))) ∧ (¬ x2 ≤ x5 → (T_X12_guessed x4 (6 : Int32) (3 : Int32) M (fun r9 M8 => (T_X12_shill_84 (fun x2 x3 x4 x5 M => T_X12_shill_51 n x2 x3 x4 x5 M K) x2 x3 x5 r9 M8 K)))))))
set_option maxHeartbeats 4000000 in
set_option maxRecDepth 100000 in
theorem w_X12_shill_51 {p : Program} {l : Launch} {e : Env} {s : State} {m : MethodId} {args : Array Value} {below : List Frame} {meth : Method} {c : Code} {G : fx_G} {K : Int32 → Mm → Prop} (X : fx_C G p s m c args cX12_shill 6 RX12) (hr : meth.sig.returnType = (some .int)) (hk : meth.locks = false) : ∀ (n : Nat) (x2 : Int32) (x3 : Int32) (x4 : Int32) (x5 : Int32) (M : Mm) (H : Heap) (locs : List Loc) (ls : Array Slot), T_X12_shill_51 n x2 x3 x4 x5 M K → fx_H G SH M s H locs → lv_has ls 6 [(0, .ref (G.2.2.2 + 159)), (2, .int x2), (3, .int x3), (4, .int x4), (5, .int x5)] → W p l e (fx_rm (2)) s m args below meth c H locs 0 0 (MQ below (va_Qi K (fx_R G SH) (fx_A G)) args s 0 0 (fx_A G)) (F0 m 51 ls []) := by
  obtain ⟨⟨hx, hb, hml, hown, hts⟩, hK, hQ⟩ := id X
  intro n
  induction n with
  | zero =>
    intro x2 x3 x4 x5 M H locs ls hT
    exact hT.elim
  | succ n ih =>
    intro x2 x3 x4 x5 M H locs ls hT h hl
    rw [T_X12_shill_51] at hT
    refine lv_iload hx hb dX12_shill_51 (lv_at hl 4 rfl) ?_
    refine lv_iload_n hx hb dX12_shill_53 rfl (lv_at hl 2 rfl) ?_
    refine lv_icmp_ge (tgt := 92) hx hb dX12_shill_54 (by decide) (fun hc2 => ?_) (fun hc2 => ?_)
    · have hT := hT.1 hc2
      refine lv_iload hx hb dX12_shill_92 (lv_at hl 3 rfl) ?_
      exact fx_iret X hr hk h hT dX12_shill_94
    · have hT := hT.2 hc2
      refine lv_iload hx hb dX12_shill_57 (lv_at hl 4 rfl) ?_
      refine lv_iload_n hx hb dX12_shill_59 rfl (lv_at hl 1 rfl) ?_
      refine lv_icmp_ge (tgt := 75) hx hb dX12_shill_60 (by decide) (fun hc3 => ?_) (fun hc3 => ?_)
      · have hT := hT.1 hc3
        refine lv_aload_n hx hb dX12_shill_75 rfl (lv_at hl 0 rfl) ?_
        refine lv_iload hx hb dX12_shill_76 (lv_at hl 3 rfl) ?_
        refine lv_iconst (v := 4) hx hb dX12_shill_78 (by decide) ?_
        refine lv_bipush (v := 7) hx hb dX12_shill_79 (by decide) ?_
        refine fx_vi X h ym_X12_guessed yi_X12_guessed ys_X12_guessed (fx_s9 (List.mem_of_getElem? (i := 83) rfl) rfl) sh_159 rfl (c_X12_guessed l G hT) (As := [.int x4, .int (4 : Int32), .int (7 : Int32)]) (rest := []) rfl rfl ⟨Nat.le_of_ble_eq_true rfl, Nat.le_of_ble_eq_true rfl⟩ ⟨Nat.le_refl _, Nat.le_refl _⟩ hl.1 (Nat.le_of_ble_eq_true rfl) dX12_shill_81 (fun r6 M5 H locs hT h => ?_)
        exact w_X12_shill_84 X hr hk (B51 := (fun x2 x3 x4 x5 M => T_X12_shill_51 n x2 x3 x4 x5 M K)) ih x2 x3 x5 r6 M5 _ _ ls hT h (lv_sub hl [0, 1, 2, 4] rfl)
      · have hT := hT.2 hc3
        refine lv_aload_n hx hb dX12_shill_63 rfl (lv_at hl 0 rfl) ?_
        refine lv_iload hx hb dX12_shill_64 (lv_at hl 3 rfl) ?_
        refine lv_bipush (v := 6) hx hb dX12_shill_66 (by decide) ?_
        refine lv_iconst (v := 3) hx hb dX12_shill_68 (by decide) ?_
        refine fx_vi X h ym_X12_guessed yi_X12_guessed ys_X12_guessed (fx_s9 (List.mem_of_getElem? (i := 83) rfl) rfl) sh_159 rfl (c_X12_guessed l G hT) (As := [.int x4, .int (6 : Int32), .int (3 : Int32)]) (rest := []) rfl rfl ⟨Nat.le_of_ble_eq_true rfl, Nat.le_of_ble_eq_true rfl⟩ ⟨Nat.le_refl _, Nat.le_refl _⟩ hl.1 (Nat.le_of_ble_eq_true rfl) dX12_shill_69 (fun r9 M8 H locs hT h => ?_)
        refine lv_goto (tgt := 84) hx hb dX12_shill_72 (by decide) ?_
        exact w_X12_shill_84 X hr hk (B51 := (fun x2 x3 x4 x5 M => T_X12_shill_51 n x2 x3 x4 x5 M K)) ih x2 x3 x5 r9 M8 _ _ ls hT h (lv_sub hl [0, 1, 2, 4] rfl)
def T_X12_shill (x1 : Int32) (x2 : Int32) (x3 : Int32) (M : Mm) (K : Int32 → Mm → Prop) : Prop := (∀ M10 : Mm, M10 = m_up M 159 0 (0 : Int32) → (T_X12_isIn x1 (0 : Int32) (1000 : Int32) M10 (fun r13 M12 => ((r13 = 0 → (K (-1 : Int32) M12)) ∧ (¬ r13 = 0 → (T_X12_isIn x2 (0 : Int32) (20 : Int32) M12 (fun r17 M16 => ((r17 = 0 → (K (-1 : Int32) M16)) ∧ (¬ r17 = 0 → (T_X12_isIn x3 x2 (40 : Int32) M16 (fun r21 M20 => ((r21 = 0 → (K (-1 : Int32) M20)) ∧ (¬ r21 = 0 → (∀ y23 : Int32, y23 = ((1000 : Int32) * x1) → (T_X12_shill_51 5000 x2 x3 y23 (0 : Int32) M20 K)))))))))))))))
set_option maxHeartbeats 4000000 in
set_option maxRecDepth 100000 in
theorem c_X12_shill (l : Launch) (G : fx_G) {x1 : Int32} {x2 : Int32} {x3 : Int32} {M : Mm} {K : Int32 → Mm → Prop} (hT : T_X12_shill x1 x2 x3 M K) : Met l yX12_shill (fx_ws yX12_shill cX12_shill 6 (some .int)) (fx_rm (2)) (va_Pc [.ref (G.2.2.2 + 159), .int x1, .int x2, .int x3] (fx_P G SH M)) (va_Qi K (fx_R G SH) (fx_A G)) 0 0 (fx_A G) := by
  refine fx_met (own := RX12) (by decide +kernel) rfl (Nat.le_of_ble_eq_true rfl) (fun p e s m below meth c X hr hk h ls hl => ?_)
  obtain ⟨⟨hx, hb, hml, hown, hts⟩, hK, hQ⟩ := id X
  have hl : lv_has ls 6 [(0, .ref (G.2.2.2 + 159)), (1, .int x1), (2, .int x2), (3, .int x3)] := hl
  unfold T_X12_shill at hT
  refine lv_aload_n hx hb dX12_shill_0 rfl (lv_at hl 0 rfl) ?_
  refine lv_iconst (v := 0) hx hb dX12_shill_1 (by decide) ?_
  refine fx_putI X h (k := 159) (j := 0) sh_159 rfl fl_RX12_134 dX12_shill_2 (fun H locs h => ?_)
  obtain ⟨M10, eM10⟩ : ∃ z : Mm, z = m_up M 159 0 (0 : Int32) := ⟨_, rfl⟩
  have hT := hT M10 eM10
  rw [← eM10] at h
  refine lv_aload_n hx hb dX12_shill_5 rfl (lv_at hl 0 rfl) ?_
  refine lv_iload_n hx hb dX12_shill_6 rfl (lv_at hl 1 rfl) ?_
  refine lv_iconst (v := 0) hx hb dX12_shill_7 (by decide) ?_
  refine lv_sipush (v := 1000) hx hb dX12_shill_8 (by decide) ?_
  refine fx_vi X h ym_X12_isIn yi_X12_isIn ys_X12_isIn (fx_s7 (List.mem_of_getElem? (i := 77) rfl) rfl) sh_159 rfl (c_X12_isIn l G hT) (As := [.int x1, .int (0 : Int32), .int (1000 : Int32)]) (rest := []) rfl rfl ⟨Nat.le_of_ble_eq_true rfl, Nat.le_of_ble_eq_true rfl⟩ ⟨Nat.le_refl _, Nat.le_refl _⟩ hl.1 (Nat.le_of_ble_eq_true rfl) dX12_shill_11 (fun r13 M12 H locs hT h => ?_)
  refine lv_if_eq (tgt := 39) hx hb dX12_shill_14 (by decide) (fun hc14 => ?_) (fun hc14 => ?_)
  · have hT := hT.1 hc14
    refine lv_iconst (v := -1) hx hb dX12_shill_39 (by decide) ?_
    exact fx_iret X hr hk h hT dX12_shill_40
  · have hT := hT.2 hc14
    refine lv_aload_n hx hb dX12_shill_17 rfl (lv_at hl 0 rfl) ?_
    refine lv_iload_n hx hb dX12_shill_18 rfl (lv_at hl 2 rfl) ?_
    refine lv_iconst (v := 0) hx hb dX12_shill_19 (by decide) ?_
    refine lv_bipush (v := 20) hx hb dX12_shill_20 (by decide) ?_
    refine fx_vi X h ym_X12_isIn yi_X12_isIn ys_X12_isIn (fx_s7 (List.mem_of_getElem? (i := 77) rfl) rfl) sh_159 rfl (c_X12_isIn l G hT) (As := [.int x2, .int (0 : Int32), .int (20 : Int32)]) (rest := []) rfl rfl ⟨Nat.le_of_ble_eq_true rfl, Nat.le_of_ble_eq_true rfl⟩ ⟨Nat.le_refl _, Nat.le_refl _⟩ hl.1 (Nat.le_of_ble_eq_true rfl) dX12_shill_22 (fun r17 M16 H locs hT h => ?_)
    refine lv_if_eq (tgt := 39) hx hb dX12_shill_25 (by decide) (fun hc18 => ?_) (fun hc18 => ?_)
    · have hT := hT.1 hc18
      refine lv_iconst (v := -1) hx hb dX12_shill_39 (by decide) ?_
      exact fx_iret X hr hk h hT dX12_shill_40
    · have hT := hT.2 hc18
      refine lv_aload_n hx hb dX12_shill_28 rfl (lv_at hl 0 rfl) ?_
      refine lv_iload_n hx hb dX12_shill_29 rfl (lv_at hl 3 rfl) ?_
      refine lv_iload_n hx hb dX12_shill_30 rfl (lv_at hl 2 rfl) ?_
      refine lv_bipush (v := 40) hx hb dX12_shill_31 (by decide) ?_
      refine fx_vi X h ym_X12_isIn yi_X12_isIn ys_X12_isIn (fx_s7 (List.mem_of_getElem? (i := 77) rfl) rfl) sh_159 rfl (c_X12_isIn l G hT) (As := [.int x3, .int x2, .int (40 : Int32)]) (rest := []) rfl rfl ⟨Nat.le_of_ble_eq_true rfl, Nat.le_of_ble_eq_true rfl⟩ ⟨Nat.le_refl _, Nat.le_refl _⟩ hl.1 (Nat.le_of_ble_eq_true rfl) dX12_shill_33 (fun r21 M20 H locs hT h => ?_)
      refine lv_if_ne (tgt := 41) hx hb dX12_shill_36 (by decide) (fun hc22 => ?_) (fun hc22 => ?_)
      · have hT := hT.2 hc22
        refine lv_sipush (v := 1000) hx hb dX12_shill_41 (by decide) ?_
        refine lv_iload_n hx hb dX12_shill_44 rfl (lv_at hl 1 rfl) ?_
        refine lv_imul hx hb dX12_shill_45 ?_
        refine lv_topi (fun y23 ey23 => ?_)
        have hT := hT y23 ey23
        refine lv_istore (lv' := [(4, .int y23), (0, .ref (G.2.2.2 + 159)), (1, .int x1), (2, .int x2), (3, .int x3)]) hx hb dX12_shill_46 hl (by decide) rfl (fun ls hl => ?_)
        refine lv_iconst (v := 0) hx hb dX12_shill_48 (by decide) ?_
        refine lv_istore (lv' := [(5, .int (0 : Int32)), (4, .int y23), (0, .ref (G.2.2.2 + 159)), (1, .int x1), (2, .int x2), (3, .int x3)]) hx hb dX12_shill_49 hl (by decide) rfl (fun ls hl => ?_)
        exact w_X12_shill_51 X hr hk 5000 x2 x3 y23 (0 : Int32) M20 _ _ ls hT h (lv_sub hl [2, 4, 5, 1, 0] rfl)
      · have hT := hT.1 hc22
        refine lv_iconst (v := -1) hx hb dX12_shill_39 (by decide) ?_
        exact fx_iret X hr hk h hT dX12_shill_40
/-! MockParcelsModel.apartBy(I)I -/
theorem dX12_apartBy_0 : decode cX12_apartBy 0 = .ok (.iconst 0, 1) := by decide +kernel
theorem dX12_apartBy_1 : decode cX12_apartBy 1 = .ok (.istore_n 2, 1) := by decide +kernel
theorem dX12_apartBy_2 : decode cX12_apartBy 2 = .ok (.iconst 0, 1) := by decide +kernel
theorem dX12_apartBy_3 : decode cX12_apartBy 3 = .ok (.istore_n 3, 1) := by decide +kernel
theorem dX12_apartBy_4 : decode cX12_apartBy 4 = .ok (.iload_n 3, 1) := by decide +kernel
theorem dX12_apartBy_5 : decode cX12_apartBy 5 = .ok (.aload_n 0, 1) := by decide +kernel
theorem dX12_apartBy_6 : decode cX12_apartBy 6 = .ok (.getfield 150, 3) := by decide +kernel
theorem dX12_apartBy_9 : decode cX12_apartBy 9 = .ok (.if_icmp .ge 43, 3) := by decide +kernel
theorem dX12_apartBy_12 : decode cX12_apartBy 12 = .ok (.iload_n 2, 1) := by decide +kernel
theorem dX12_apartBy_13 : decode cX12_apartBy 13 = .ok (.aload_n 0, 1) := by decide +kernel
theorem dX12_apartBy_14 : decode cX12_apartBy 14 = .ok (.iload_n 1, 1) := by decide +kernel
theorem dX12_apartBy_15 : decode cX12_apartBy 15 = .ok (.iload_n 3, 1) := by decide +kernel
theorem dX12_apartBy_16 : decode cX12_apartBy 16 = .ok (.invokevirtual 442, 3) := by decide +kernel
theorem dX12_apartBy_19 : decode cX12_apartBy 19 = .ok (.ifCond .eq 15, 3) := by decide +kernel
theorem dX12_apartBy_22 : decode cX12_apartBy 22 = .ok (.aload_n 0, 1) := by decide +kernel
theorem dX12_apartBy_23 : decode cX12_apartBy 23 = .ok (.getfield 7, 3) := by decide +kernel
theorem dX12_apartBy_26 : decode cX12_apartBy 26 = .ok (.bipush 55, 2) := by decide +kernel
theorem dX12_apartBy_28 : decode cX12_apartBy 28 = .ok (.iload_n 3, 1) := by decide +kernel
theorem dX12_apartBy_29 : decode cX12_apartBy 29 = .ok (.iadd, 1) := by decide +kernel
theorem dX12_apartBy_30 : decode cX12_apartBy 30 = .ok (.iaload, 1) := by decide +kernel
theorem dX12_apartBy_31 : decode cX12_apartBy 31 = .ok (.goto 13, 3) := by decide +kernel
theorem dX12_apartBy_34 : decode cX12_apartBy 34 = .ok (.aload_n 0, 1) := by decide +kernel
theorem dX12_apartBy_35 : decode cX12_apartBy 35 = .ok (.getfield 7, 3) := by decide +kernel
theorem dX12_apartBy_38 : decode cX12_apartBy 38 = .ok (.bipush 55, 2) := by decide +kernel
theorem dX12_apartBy_40 : decode cX12_apartBy 40 = .ok (.iload_n 3, 1) := by decide +kernel
theorem dX12_apartBy_41 : decode cX12_apartBy 41 = .ok (.iadd, 1) := by decide +kernel
theorem dX12_apartBy_42 : decode cX12_apartBy 42 = .ok (.iaload, 1) := by decide +kernel
theorem dX12_apartBy_43 : decode cX12_apartBy 43 = .ok (.ineg, 1) := by decide +kernel
theorem dX12_apartBy_44 : decode cX12_apartBy 44 = .ok (.iadd, 1) := by decide +kernel
theorem dX12_apartBy_45 : decode cX12_apartBy 45 = .ok (.istore_n 2, 1) := by decide +kernel
theorem dX12_apartBy_46 : decode cX12_apartBy 46 = .ok (.iinc 3 1, 3) := by decide +kernel
theorem dX12_apartBy_49 : decode cX12_apartBy 49 = .ok (.goto (-45), 3) := by decide +kernel
theorem dX12_apartBy_52 : decode cX12_apartBy 52 = .ok (.iload_n 2, 1) := by decide +kernel
theorem dX12_apartBy_53 : decode cX12_apartBy 53 = .ok (.ifCond .ge 8, 3) := by decide +kernel
theorem dX12_apartBy_56 : decode cX12_apartBy 56 = .ok (.iload_n 2, 1) := by decide +kernel
theorem dX12_apartBy_57 : decode cX12_apartBy 57 = .ok (.ineg, 1) := by decide +kernel
theorem dX12_apartBy_58 : decode cX12_apartBy 58 = .ok (.goto 4, 3) := by decide +kernel
theorem dX12_apartBy_61 : decode cX12_apartBy 61 = .ok (.iload_n 2, 1) := by decide +kernel
theorem dX12_apartBy_62 : decode cX12_apartBy 62 = .ok (.ireturn, 1) := by decide +kernel
def T_X12_apartBy_44 (B4 : Int32 → Int32 → Int32 → Mm → Prop) (x1 : Int32) (x3 : Int32) (s0 : Int32) (s1 : Int32) (M : Mm) (K : Int32 → Mm → Prop) : Prop := (∀ y1 : Int32, y1 = (s0 + s1) → (∀ y2 : Int32, y2 = x3 + (1 : Int32) → (B4 x1 y1 y2 M)))
set_option maxHeartbeats 4000000 in
set_option maxRecDepth 100000 in
theorem w_X12_apartBy_44 {p : Program} {l : Launch} {e : Env} {s : State} {m : MethodId} {args : Array Value} {below : List Frame} {meth : Method} {c : Code} {G : fx_G} {K : Int32 → Mm → Prop} {B4 : Int32 → Int32 → Int32 → Mm → Prop} (X : fx_C G p s m c args cX12_apartBy 4 RX12) (hr : meth.sig.returnType = (some .int)) (hk : meth.locks = false) (hB4 : ∀ (x1 : Int32) (x2 : Int32) (x3 : Int32) (M : Mm) (H : Heap) (locs : List Loc) (ls : Array Slot), B4 x1 x2 x3 M → fx_H G SH M s H locs → lv_has ls 4 [(0, .ref (G.2.2.2 + 159)), (1, .int x1), (2, .int x2), (3, .int x3)] → W p l e (fx_rm (1)) s m args below meth c H locs 0 0 (MQ below (va_Qi K (fx_R G SH) (fx_A G)) args s 0 0 (fx_A G)) (F0 m 4 ls [])) : ∀ (x1 : Int32) (x3 : Int32) (s0 : Int32) (s1 : Int32) (M : Mm) (H : Heap) (locs : List Loc) (ls : Array Slot), T_X12_apartBy_44 B4 x1 x3 s0 s1 M K → fx_H G SH M s H locs → lv_has ls 4 [(0, .ref (G.2.2.2 + 159)), (1, .int x1), (3, .int x3)] → W p l e (fx_rm (1)) s m args below meth c H locs 0 0 (MQ below (va_Qi K (fx_R G SH) (fx_A G)) args s 0 0 (fx_A G)) (F0 m 44 ls [.int s1, .int s0]) := by
  obtain ⟨⟨hx, hb, hml, hown, hts⟩, hK, hQ⟩ := id X
  intro x1 x3 s0 s1 M H locs ls hT h hl
  unfold T_X12_apartBy_44 at hT
  refine lv_iadd hx hb dX12_apartBy_44 ?_
  refine lv_topi (fun y1 ey1 => ?_)
  have hT := hT y1 ey1
  refine lv_istore_n (lv' := [(2, .int y1), (0, .ref (G.2.2.2 + 159)), (1, .int x1), (3, .int x3)]) hx hb dX12_apartBy_45 rfl hl (by decide) rfl (fun ls hl => ?_)
  obtain ⟨y2, ey2⟩ : ∃ z : Int32, z = x3 + (1 : Int32) := ⟨_, rfl⟩
  have hT := hT y2 ey2
  refine lv_iinc (v := y2) (lv' := [(3, .int y2), (2, .int y1), (0, .ref (G.2.2.2 + 159)), (1, .int x1)]) hx hb dX12_apartBy_46 hl (k := 3) rfl (by rw [ey2]; rfl) (by decide) rfl (fun ls hl => ?_)
  refine lv_goto (tgt := 4) hx hb dX12_apartBy_49 (by decide) ?_
  exact hB4 x1 y1 y2 M _ _ ls hT h (lv_sub hl [2, 3, 1, 0] rfl)
def T_X12_apartBy_4 : Nat → Int32 → Int32 → Int32 → Mm → (Int32 → Mm → Prop) → Prop
  | 0, _, _, _, _, _ => False
  | n + 1, x1, x2, x3, M, K => (((M 159 7) ≤ x3 → ((0 ≤ x2 → (K x2 M)) ∧ (¬ 0 ≤ x2 → (K (-x2) M)))) ∧ (¬ (M 159 7) ≤ x3 → (T_X12_has x1 x3 M (fun r7 M6 => ((r7 = 0 → (vp_in ((55 : Int32) + x3) 135 ∧ (T_X12_apartBy_44 (fun x1 x2 x3 M => T_X12_apartBy_4 n x1 x2 x3 M K) x1 x3 x2 (-(M6 160 (((55 : Int32) + x3)).toNatClampNeg)) M6 K))) ∧ (¬ r7 = 0 → (vp_in ((55 : Int32) + x3) 135 ∧ (T_X12_apartBy_44 (fun x1 x2 x3 M => T_X12_apartBy_4 n x1 x2 x3 M K) x1 x3 x2 (M6 160 (((55 : Int32) + x3)).toNatClampNeg) M6 K))))))))
set_option maxHeartbeats 4000000 in
set_option maxRecDepth 100000 in
theorem w_X12_apartBy_4 {p : Program} {l : Launch} {e : Env} {s : State} {m : MethodId} {args : Array Value} {below : List Frame} {meth : Method} {c : Code} {G : fx_G} {K : Int32 → Mm → Prop} (X : fx_C G p s m c args cX12_apartBy 4 RX12) (hr : meth.sig.returnType = (some .int)) (hk : meth.locks = false) : ∀ (n : Nat) (x1 : Int32) (x2 : Int32) (x3 : Int32) (M : Mm) (H : Heap) (locs : List Loc) (ls : Array Slot), T_X12_apartBy_4 n x1 x2 x3 M K → fx_H G SH M s H locs → lv_has ls 4 [(0, .ref (G.2.2.2 + 159)), (1, .int x1), (2, .int x2), (3, .int x3)] → W p l e (fx_rm (1)) s m args below meth c H locs 0 0 (MQ below (va_Qi K (fx_R G SH) (fx_A G)) args s 0 0 (fx_A G)) (F0 m 4 ls []) := by
  obtain ⟨⟨hx, hb, hml, hown, hts⟩, hK, hQ⟩ := id X
  intro n
  induction n with
  | zero =>
    intro x1 x2 x3 M H locs ls hT
    exact hT.elim
  | succ n ih =>
    intro x1 x2 x3 M H locs ls hT h hl
    rw [T_X12_apartBy_4] at hT
    refine lv_iload_n hx hb dX12_apartBy_4 rfl (lv_at hl 3 rfl) ?_
    refine lv_aload_n hx hb dX12_apartBy_5 rfl (lv_at hl 0 rfl) ?_
    refine fx_getI X h (k := 159) (j := 7) sh_159 rfl fl_RX12_150 dX12_apartBy_6 ?_
    refine lv_icmp_ge (tgt := 52) hx hb dX12_apartBy_9 (by decide) (fun hc3 => ?_) (fun hc3 => ?_)
    · have hT := hT.1 hc3
      refine lv_iload_n hx hb dX12_apartBy_52 rfl (lv_at hl 2 rfl) ?_
      refine lv_if_ge (tgt := 61) hx hb dX12_apartBy_53 (by decide) (fun hc4 => ?_) (fun hc4 => ?_)
      · have hT := hT.1 hc4
        refine lv_iload_n hx hb dX12_apartBy_61 rfl (lv_at hl 2 rfl) ?_
        exact fx_iret X hr hk h hT dX12_apartBy_62
      · have hT := hT.2 hc4
        refine lv_iload_n hx hb dX12_apartBy_56 rfl (lv_at hl 2 rfl) ?_
        refine lv_ineg hx hb dX12_apartBy_57 ?_
        refine lv_goto (tgt := 62) hx hb dX12_apartBy_58 (by decide) ?_
        exact fx_iret X hr hk h hT dX12_apartBy_62
    · have hT := hT.2 hc3
      refine lv_iload_n hx hb dX12_apartBy_12 rfl (lv_at hl 2 rfl) ?_
      refine lv_aload_n hx hb dX12_apartBy_13 rfl (lv_at hl 0 rfl) ?_
      refine lv_iload_n hx hb dX12_apartBy_14 rfl (lv_at hl 1 rfl) ?_
      refine lv_iload_n hx hb dX12_apartBy_15 rfl (lv_at hl 3 rfl) ?_
      refine fx_vi X h ym_X12_has yi_X12_has ys_X12_has (fx_s8 (List.mem_of_getElem? (i := 221) rfl) rfl) sh_159 rfl (c_X12_has l G hT) (As := [.int x1, .int x3]) (rest := [.int x2]) rfl rfl ⟨Nat.le_of_ble_eq_true rfl, Nat.le_of_ble_eq_true rfl⟩ ⟨Nat.le_refl _, Nat.le_refl _⟩ hl.1 (Nat.le_of_ble_eq_true rfl) dX12_apartBy_16 (fun r7 M6 H locs hT h => ?_)
      refine lv_if_eq (tgt := 34) hx hb dX12_apartBy_19 (by decide) (fun hc8 => ?_) (fun hc8 => ?_)
      · have hT := hT.1 hc8
        refine lv_aload_n hx hb dX12_apartBy_34 rfl (lv_at hl 0 rfl) ?_
        refine fx_getR X h (k := 159) (j := 1) (r := 160) sh_159 rfl fl_RX12_7 dX12_apartBy_35 ?_
        refine lv_bipush (v := 55) hx hb dX12_apartBy_38 (by decide) ?_
        refine lv_iload_n hx hb dX12_apartBy_40 rfl (lv_at hl 3 rfl) ?_
        refine lv_iadd hx hb dX12_apartBy_41 ?_
        obtain ⟨hi9, hT⟩ := hT
        refine fx_iald X h (k := 160) sh_160 hi9 dX12_apartBy_42 ?_
        refine lv_ineg hx hb dX12_apartBy_43 ?_
        exact w_X12_apartBy_44 X hr hk (B4 := (fun x1 x2 x3 M => T_X12_apartBy_4 n x1 x2 x3 M K)) ih x1 x3 x2 (-(M6 160 (((55 : Int32) + x3)).toNatClampNeg)) M6 _ _ ls hT h (lv_sub hl [0, 1, 3] rfl)
      · have hT := hT.2 hc8
        refine lv_aload_n hx hb dX12_apartBy_22 rfl (lv_at hl 0 rfl) ?_
        refine fx_getR X h (k := 159) (j := 1) (r := 160) sh_159 rfl fl_RX12_7 dX12_apartBy_23 ?_
        refine lv_bipush (v := 55) hx hb dX12_apartBy_26 (by decide) ?_
        refine lv_iload_n hx hb dX12_apartBy_28 rfl (lv_at hl 3 rfl) ?_
        refine lv_iadd hx hb dX12_apartBy_29 ?_
        obtain ⟨hi10, hT⟩ := hT
        refine fx_iald X h (k := 160) sh_160 hi10 dX12_apartBy_30 ?_
        refine lv_goto (tgt := 44) hx hb dX12_apartBy_31 (by decide) ?_
        exact w_X12_apartBy_44 X hr hk (B4 := (fun x1 x2 x3 M => T_X12_apartBy_4 n x1 x2 x3 M K)) ih x1 x3 x2 (M6 160 (((55 : Int32) + x3)).toNatClampNeg) M6 _ _ ls hT h (lv_sub hl [0, 1, 3] rfl)
def T_X12_apartBy (x1 : Int32) (M : Mm) (K : Int32 → Mm → Prop) : Prop := (T_X12_apartBy_4 5000 x1 (0 : Int32) (0 : Int32) M K)
set_option maxHeartbeats 4000000 in
set_option maxRecDepth 100000 in
theorem c_X12_apartBy (l : Launch) (G : fx_G) {x1 : Int32} {M : Mm} {K : Int32 → Mm → Prop} (hT : T_X12_apartBy x1 M K) : Met l yX12_apartBy (fx_ws yX12_apartBy cX12_apartBy 4 (some .int)) (fx_rm (1)) (va_Pc [.ref (G.2.2.2 + 159), .int x1] (fx_P G SH M)) (va_Qi K (fx_R G SH) (fx_A G)) 0 0 (fx_A G) := by
  refine fx_met (own := RX12) (by decide +kernel) rfl (Nat.le_of_ble_eq_true rfl) (fun p e s m below meth c X hr hk h ls hl => ?_)
  obtain ⟨⟨hx, hb, hml, hown, hts⟩, hK, hQ⟩ := id X
  have hl : lv_has ls 4 [(0, .ref (G.2.2.2 + 159)), (1, .int x1)] := hl
  unfold T_X12_apartBy at hT
  refine lv_iconst (v := 0) hx hb dX12_apartBy_0 (by decide) ?_
  refine lv_istore_n (lv' := [(2, .int (0 : Int32)), (0, .ref (G.2.2.2 + 159)), (1, .int x1)]) hx hb dX12_apartBy_1 rfl hl (by decide) rfl (fun ls hl => ?_)
  refine lv_iconst (v := 0) hx hb dX12_apartBy_2 (by decide) ?_
  refine lv_istore_n (lv' := [(3, .int (0 : Int32)), (2, .int (0 : Int32)), (0, .ref (G.2.2.2 + 159)), (1, .int x1)]) hx hb dX12_apartBy_3 rfl hl (by decide) rfl (fun ls hl => ?_)
  exact w_X12_apartBy_4 X hr hk 5000 x1 (0 : Int32) (0 : Int32) M _ _ ls hT h (lv_sub hl [2, 3, 1, 0] rfl)
/-! MockParcelsModel.halves(I)I -/
theorem dX12_halves_0 : decode cX12_halves 0 = .ok (.aload_n 0, 1) := by decide +kernel
theorem dX12_halves_1 : decode cX12_halves 1 = .ok (.iconst 0, 1) := by decide +kernel
theorem dX12_halves_2 : decode cX12_halves 2 = .ok (.putfield 134, 3) := by decide +kernel
theorem dX12_halves_5 : decode cX12_halves 5 = .ok (.aload_n 0, 1) := by decide +kernel
theorem dX12_halves_6 : decode cX12_halves 6 = .ok (.getfield 150, 3) := by decide +kernel
theorem dX12_halves_9 : decode cX12_halves 9 = .ok (.iconst 2, 1) := by decide +kernel
theorem dX12_halves_10 : decode cX12_halves 10 = .ok (.if_icmp .lt 13, 3) := by decide +kernel
theorem dX12_halves_13 : decode cX12_halves 13 = .ok (.aload_n 0, 1) := by decide +kernel
theorem dX12_halves_14 : decode cX12_halves 14 = .ok (.iload_n 1, 1) := by decide +kernel
theorem dX12_halves_15 : decode cX12_halves 15 = .ok (.iconst 0, 1) := by decide +kernel
theorem dX12_halves_16 : decode cX12_halves 16 = .ok (.iconst 1, 1) := by decide +kernel
theorem dX12_halves_17 : decode cX12_halves 17 = .ok (.invokevirtual 157, 3) := by decide +kernel
theorem dX12_halves_20 : decode cX12_halves 20 = .ok (.ifCond .ne 5, 3) := by decide +kernel
theorem dX12_halves_23 : decode cX12_halves 23 = .ok (.iconst (-1), 1) := by decide +kernel
theorem dX12_halves_24 : decode cX12_halves 24 = .ok (.ireturn, 1) := by decide +kernel
theorem dX12_halves_25 : decode cX12_halves 25 = .ok (.iconst 1, 1) := by decide +kernel
theorem dX12_halves_26 : decode cX12_halves 26 = .ok (.istore_n 2, 1) := by decide +kernel
theorem dX12_halves_27 : decode cX12_halves 27 = .ok (.iconst 3, 1) := by decide +kernel
theorem dX12_halves_28 : decode cX12_halves 28 = .ok (.istore_n 3, 1) := by decide +kernel
theorem dX12_halves_29 : decode cX12_halves 29 = .ok (.iload_n 3, 1) := by decide +kernel
theorem dX12_halves_30 : decode cX12_halves 30 = .ok (.iconst 1, 1) := by decide +kernel
theorem dX12_halves_31 : decode cX12_halves 31 = .ok (.aload_n 0, 1) := by decide +kernel
theorem dX12_halves_32 : decode cX12_halves 32 = .ok (.getfield 150, 3) := by decide +kernel
theorem dX12_halves_35 : decode cX12_halves 35 = .ok (.ishl, 1) := by decide +kernel
theorem dX12_halves_36 : decode cX12_halves 36 = .ok (.iconst 1, 1) := by decide +kernel
theorem dX12_halves_37 : decode cX12_halves 37 = .ok (.isub, 1) := by decide +kernel
theorem dX12_halves_38 : decode cX12_halves 38 = .ok (.if_icmp .ge 25, 3) := by decide +kernel
theorem dX12_halves_41 : decode cX12_halves 41 = .ok (.aload_n 0, 1) := by decide +kernel
theorem dX12_halves_42 : decode cX12_halves 42 = .ok (.iload_n 3, 1) := by decide +kernel
theorem dX12_halves_43 : decode cX12_halves 43 = .ok (.invokevirtual 509, 3) := by decide +kernel
theorem dX12_halves_46 : decode cX12_halves 46 = .ok (.aload_n 0, 1) := by decide +kernel
theorem dX12_halves_47 : decode cX12_halves 47 = .ok (.iload_n 2, 1) := by decide +kernel
theorem dX12_halves_48 : decode cX12_halves 48 = .ok (.invokevirtual 509, 3) := by decide +kernel
theorem dX12_halves_51 : decode cX12_halves 51 = .ok (.if_icmp .ge 5, 3) := by decide +kernel
theorem dX12_halves_54 : decode cX12_halves 54 = .ok (.iload_n 3, 1) := by decide +kernel
theorem dX12_halves_55 : decode cX12_halves 55 = .ok (.istore_n 2, 1) := by decide +kernel
theorem dX12_halves_56 : decode cX12_halves 56 = .ok (.iload_n 3, 1) := by decide +kernel
theorem dX12_halves_57 : decode cX12_halves 57 = .ok (.iconst 2, 1) := by decide +kernel
theorem dX12_halves_58 : decode cX12_halves 58 = .ok (.iadd, 1) := by decide +kernel
theorem dX12_halves_59 : decode cX12_halves 59 = .ok (.istore_n 3, 1) := by decide +kernel
theorem dX12_halves_60 : decode cX12_halves 60 = .ok (.goto (-31), 3) := by decide +kernel
theorem dX12_halves_63 : decode cX12_halves 63 = .ok (.iload_n 1, 1) := by decide +kernel
theorem dX12_halves_64 : decode cX12_halves 64 = .ok (.ifCond .ne 11, 3) := by decide +kernel
theorem dX12_halves_67 : decode cX12_halves 67 = .ok (.aload_n 0, 1) := by decide +kernel
theorem dX12_halves_68 : decode cX12_halves 68 = .ok (.iload_n 2, 1) := by decide +kernel
theorem dX12_halves_69 : decode cX12_halves 69 = .ok (.invokevirtual 509, 3) := by decide +kernel
theorem dX12_halves_72 : decode cX12_halves 72 = .ok (.goto 4, 3) := by decide +kernel
theorem dX12_halves_75 : decode cX12_halves 75 = .ok (.iload_n 2, 1) := by decide +kernel
theorem dX12_halves_76 : decode cX12_halves 76 = .ok (.ireturn, 1) := by decide +kernel
def T_X12_halves_56 (B29 : Int32 → Int32 → Int32 → Mm → Prop) (x1 : Int32) (x2 : Int32) (x3 : Int32) (M : Mm) (K : Int32 → Mm → Prop) : Prop := (∀ y1 : Int32, y1 = (x3 + (2 : Int32)) → (B29 x1 x2 y1 M))
set_option maxHeartbeats 4000000 in
set_option maxRecDepth 100000 in
theorem w_X12_halves_56 {p : Program} {l : Launch} {e : Env} {s : State} {m : MethodId} {args : Array Value} {below : List Frame} {meth : Method} {c : Code} {G : fx_G} {K : Int32 → Mm → Prop} {B29 : Int32 → Int32 → Int32 → Mm → Prop} (X : fx_C G p s m c args cX12_halves 4 RX12) (hr : meth.sig.returnType = (some .int)) (hk : meth.locks = false) (hB29 : ∀ (x1 : Int32) (x2 : Int32) (x3 : Int32) (M : Mm) (H : Heap) (locs : List Loc) (ls : Array Slot), B29 x1 x2 x3 M → fx_H G SH M s H locs → lv_has ls 4 [(0, .ref (G.2.2.2 + 159)), (1, .int x1), (2, .int x2), (3, .int x3)] → W p l e (fx_rm (2)) s m args below meth c H locs 0 0 (MQ below (va_Qi K (fx_R G SH) (fx_A G)) args s 0 0 (fx_A G)) (F0 m 29 ls [])) : ∀ (x1 : Int32) (x2 : Int32) (x3 : Int32) (M : Mm) (H : Heap) (locs : List Loc) (ls : Array Slot), T_X12_halves_56 B29 x1 x2 x3 M K → fx_H G SH M s H locs → lv_has ls 4 [(0, .ref (G.2.2.2 + 159)), (1, .int x1), (2, .int x2), (3, .int x3)] → W p l e (fx_rm (2)) s m args below meth c H locs 0 0 (MQ below (va_Qi K (fx_R G SH) (fx_A G)) args s 0 0 (fx_A G)) (F0 m 56 ls []) := by
  obtain ⟨⟨hx, hb, hml, hown, hts⟩, hK, hQ⟩ := id X
  intro x1 x2 x3 M H locs ls hT h hl
  unfold T_X12_halves_56 at hT
  refine lv_iload_n hx hb dX12_halves_56 rfl (lv_at hl 3 rfl) ?_
  refine lv_iconst (v := 2) hx hb dX12_halves_57 (by decide) ?_
  refine lv_iadd hx hb dX12_halves_58 ?_
  refine lv_topi (fun y1 ey1 => ?_)
  have hT := hT y1 ey1
  refine lv_istore_n (lv' := [(3, .int y1), (0, .ref (G.2.2.2 + 159)), (1, .int x1), (2, .int x2)]) hx hb dX12_halves_59 rfl hl (by decide) rfl (fun ls hl => ?_)
  refine lv_goto (tgt := 29) hx hb dX12_halves_60 (by decide) ?_
  exact hB29 x1 x2 y1 M _ _ ls hT h (lv_sub hl [1, 2, 3, 0] rfl)
def T_X12_halves_29 : Nat → Int32 → Int32 → Int32 → Mm → (Int32 → Mm → Prop) → Prop
  | 0, _, _, _, _, _ => False
  | n + 1, x1, x2, x3, M, K => (((((1 : Int32) <<< ((M 159 7) &&& 31)) - (1 : Int32)) ≤ x3 → ((x1 = 0 → (T_X12_apartBy x2 M (fun r6 M5 => (K r6 M5)))) ∧ (¬ x1 = 0 → (K x2 M)))) ∧ (¬ (((1 : Int32) <<< ((M 159 7) &&& 31)) - (1 : Int32)) ≤ x3 → (T_X12_apartBy x3 M (fun r9 M8 => (T_X12_apartBy x2 M8 (fun r12 M11 => ((r12 ≤ r9 → (T_X12_halves_56 (fun x1 x2 x3 M => T_X12_halves_29 n x1 x2 x3 M K) x1 x2 x3 M11 K)) ∧ (¬ r12 ≤ r9 → (T_X12_halves_56 (fun x1 x2 x3 M => T_X12_halves_29 n x1 x2 x3 M K) x1 x3 x3 M11 K)))))))))
set_option maxHeartbeats 4000000 in
set_option maxRecDepth 100000 in
theorem w_X12_halves_29 {p : Program} {l : Launch} {e : Env} {s : State} {m : MethodId} {args : Array Value} {below : List Frame} {meth : Method} {c : Code} {G : fx_G} {K : Int32 → Mm → Prop} (X : fx_C G p s m c args cX12_halves 4 RX12) (hr : meth.sig.returnType = (some .int)) (hk : meth.locks = false) : ∀ (n : Nat) (x1 : Int32) (x2 : Int32) (x3 : Int32) (M : Mm) (H : Heap) (locs : List Loc) (ls : Array Slot), T_X12_halves_29 n x1 x2 x3 M K → fx_H G SH M s H locs → lv_has ls 4 [(0, .ref (G.2.2.2 + 159)), (1, .int x1), (2, .int x2), (3, .int x3)] → W p l e (fx_rm (2)) s m args below meth c H locs 0 0 (MQ below (va_Qi K (fx_R G SH) (fx_A G)) args s 0 0 (fx_A G)) (F0 m 29 ls []) := by
  obtain ⟨⟨hx, hb, hml, hown, hts⟩, hK, hQ⟩ := id X
  intro n
  induction n with
  | zero =>
    intro x1 x2 x3 M H locs ls hT
    exact hT.elim
  | succ n ih =>
    intro x1 x2 x3 M H locs ls hT h hl
    rw [T_X12_halves_29] at hT
    refine lv_iload_n hx hb dX12_halves_29 rfl (lv_at hl 3 rfl) ?_
    refine lv_iconst (v := 1) hx hb dX12_halves_30 (by decide) ?_
    refine lv_aload_n hx hb dX12_halves_31 rfl (lv_at hl 0 rfl) ?_
    refine fx_getI X h (k := 159) (j := 7) sh_159 rfl fl_RX12_150 dX12_halves_32 ?_
    refine lv_ishl hx hb dX12_halves_35 ?_
    refine lv_iconst (v := 1) hx hb dX12_halves_36 (by decide) ?_
    refine lv_isub hx hb dX12_halves_37 ?_
    refine lv_icmp_ge (tgt := 63) hx hb dX12_halves_38 (by decide) (fun hc2 => ?_) (fun hc2 => ?_)
    · have hT := hT.1 hc2
      refine lv_iload_n hx hb dX12_halves_63 rfl (lv_at hl 1 rfl) ?_
      refine lv_if_ne (tgt := 75) hx hb dX12_halves_64 (by decide) (fun hc3 => ?_) (fun hc3 => ?_)
      · have hT := hT.2 hc3
        refine lv_iload_n hx hb dX12_halves_75 rfl (lv_at hl 2 rfl) ?_
        exact fx_iret X hr hk h hT dX12_halves_76
      · have hT := hT.1 hc3
        refine lv_aload_n hx hb dX12_halves_67 rfl (lv_at hl 0 rfl) ?_
        refine lv_iload_n hx hb dX12_halves_68 rfl (lv_at hl 2 rfl) ?_
        refine fx_vi X h ym_X12_apartBy yi_X12_apartBy ys_X12_apartBy (fx_s9 (List.mem_of_getElem? (i := 96) rfl) rfl) sh_159 rfl (c_X12_apartBy l G hT) (As := [.int x2]) (rest := []) rfl rfl ⟨Nat.le_of_ble_eq_true rfl, Nat.le_of_ble_eq_true rfl⟩ ⟨Nat.le_refl _, Nat.le_refl _⟩ hl.1 (Nat.le_of_ble_eq_true rfl) dX12_halves_69 (fun r6 M5 H locs hT h => ?_)
        refine lv_goto (tgt := 76) hx hb dX12_halves_72 (by decide) ?_
        exact fx_iret X hr hk h hT dX12_halves_76
    · have hT := hT.2 hc2
      refine lv_aload_n hx hb dX12_halves_41 rfl (lv_at hl 0 rfl) ?_
      refine lv_iload_n hx hb dX12_halves_42 rfl (lv_at hl 3 rfl) ?_
      refine fx_vi X h ym_X12_apartBy yi_X12_apartBy ys_X12_apartBy (fx_s9 (List.mem_of_getElem? (i := 96) rfl) rfl) sh_159 rfl (c_X12_apartBy l G hT) (As := [.int x3]) (rest := []) rfl rfl ⟨Nat.le_of_ble_eq_true rfl, Nat.le_of_ble_eq_true rfl⟩ ⟨Nat.le_refl _, Nat.le_refl _⟩ hl.1 (Nat.le_of_ble_eq_true rfl) dX12_halves_43 (fun r9 M8 H locs hT h => ?_)
      refine lv_aload_n hx hb dX12_halves_46 rfl (lv_at hl 0 rfl) ?_
      refine lv_iload_n hx hb dX12_halves_47 rfl (lv_at hl 2 rfl) ?_
      refine fx_vi X h ym_X12_apartBy yi_X12_apartBy ys_X12_apartBy (fx_s9 (List.mem_of_getElem? (i := 96) rfl) rfl) sh_159 rfl (c_X12_apartBy l G hT) (As := [.int x2]) (rest := [.int r9]) rfl rfl ⟨Nat.le_of_ble_eq_true rfl, Nat.le_of_ble_eq_true rfl⟩ ⟨Nat.le_refl _, Nat.le_refl _⟩ hl.1 (Nat.le_of_ble_eq_true rfl) dX12_halves_48 (fun r12 M11 H locs hT h => ?_)
      refine lv_icmp_ge (tgt := 56) hx hb dX12_halves_51 (by decide) (fun hc13 => ?_) (fun hc13 => ?_)
      · have hT := hT.1 hc13
        exact w_X12_halves_56 X hr hk (B29 := (fun x1 x2 x3 M => T_X12_halves_29 n x1 x2 x3 M K)) ih x1 x2 x3 M11 _ _ ls hT h (lv_sub hl [0, 1, 2, 3] rfl)
      · have hT := hT.2 hc13
        refine lv_iload_n hx hb dX12_halves_54 rfl (lv_at hl 3 rfl) ?_
        refine lv_istore_n (lv' := [(2, .int x3), (0, .ref (G.2.2.2 + 159)), (1, .int x1), (3, .int x3)]) hx hb dX12_halves_55 rfl hl (by decide) rfl (fun ls hl => ?_)
        exact w_X12_halves_56 X hr hk (B29 := (fun x1 x2 x3 M => T_X12_halves_29 n x1 x2 x3 M K)) ih x1 x3 x3 M11 _ _ ls hT h (lv_sub hl [1, 2, 0, 3] rfl)
def T_X12_halves (x1 : Int32) (M : Mm) (K : Int32 → Mm → Prop) : Prop := (∀ M14 : Mm, M14 = m_up M 159 0 (0 : Int32) → (((M14 159 7) < (2 : Int32) → (K (-1 : Int32) M14)) ∧ (¬ (M14 159 7) < (2 : Int32) → (T_X12_isIn x1 (0 : Int32) (1 : Int32) M14 (fun r18 M17 => ((r18 = 0 → (K (-1 : Int32) M17)) ∧ (¬ r18 = 0 → (T_X12_halves_29 5000 x1 (1 : Int32) (3 : Int32) M17 K))))))))
set_option maxHeartbeats 4000000 in
set_option maxRecDepth 100000 in
theorem c_X12_halves (l : Launch) (G : fx_G) {x1 : Int32} {M : Mm} {K : Int32 → Mm → Prop} (hT : T_X12_halves x1 M K) : Met l yX12_halves (fx_ws yX12_halves cX12_halves 4 (some .int)) (fx_rm (2)) (va_Pc [.ref (G.2.2.2 + 159), .int x1] (fx_P G SH M)) (va_Qi K (fx_R G SH) (fx_A G)) 0 0 (fx_A G) := by
  refine fx_met (own := RX12) (by decide +kernel) rfl (Nat.le_of_ble_eq_true rfl) (fun p e s m below meth c X hr hk h ls hl => ?_)
  obtain ⟨⟨hx, hb, hml, hown, hts⟩, hK, hQ⟩ := id X
  have hl : lv_has ls 4 [(0, .ref (G.2.2.2 + 159)), (1, .int x1)] := hl
  unfold T_X12_halves at hT
  refine lv_aload_n hx hb dX12_halves_0 rfl (lv_at hl 0 rfl) ?_
  refine lv_iconst (v := 0) hx hb dX12_halves_1 (by decide) ?_
  refine fx_putI X h (k := 159) (j := 0) sh_159 rfl fl_RX12_134 dX12_halves_2 (fun H locs h => ?_)
  obtain ⟨M14, eM14⟩ : ∃ z : Mm, z = m_up M 159 0 (0 : Int32) := ⟨_, rfl⟩
  have hT := hT M14 eM14
  rw [← eM14] at h
  refine lv_aload_n hx hb dX12_halves_5 rfl (lv_at hl 0 rfl) ?_
  refine fx_getI X h (k := 159) (j := 7) sh_159 rfl fl_RX12_150 dX12_halves_6 ?_
  refine lv_iconst (v := 2) hx hb dX12_halves_9 (by decide) ?_
  refine lv_icmp_lt (tgt := 23) hx hb dX12_halves_10 (by decide) (fun hc15 => ?_) (fun hc15 => ?_)
  · have hT := hT.1 hc15
    refine lv_iconst (v := -1) hx hb dX12_halves_23 (by decide) ?_
    exact fx_iret X hr hk h hT dX12_halves_24
  · have hT := hT.2 hc15
    refine lv_aload_n hx hb dX12_halves_13 rfl (lv_at hl 0 rfl) ?_
    refine lv_iload_n hx hb dX12_halves_14 rfl (lv_at hl 1 rfl) ?_
    refine lv_iconst (v := 0) hx hb dX12_halves_15 (by decide) ?_
    refine lv_iconst (v := 1) hx hb dX12_halves_16 (by decide) ?_
    refine fx_vi X h ym_X12_isIn yi_X12_isIn ys_X12_isIn (fx_s7 (List.mem_of_getElem? (i := 77) rfl) rfl) sh_159 rfl (c_X12_isIn l G hT) (As := [.int x1, .int (0 : Int32), .int (1 : Int32)]) (rest := []) rfl rfl ⟨Nat.le_of_ble_eq_true rfl, Nat.le_of_ble_eq_true rfl⟩ ⟨Nat.le_refl _, Nat.le_refl _⟩ hl.1 (Nat.le_of_ble_eq_true rfl) dX12_halves_17 (fun r18 M17 H locs hT h => ?_)
    refine lv_if_ne (tgt := 25) hx hb dX12_halves_20 (by decide) (fun hc19 => ?_) (fun hc19 => ?_)
    · have hT := hT.2 hc19
      refine lv_iconst (v := 1) hx hb dX12_halves_25 (by decide) ?_
      refine lv_istore_n (lv' := [(2, .int (1 : Int32)), (0, .ref (G.2.2.2 + 159)), (1, .int x1)]) hx hb dX12_halves_26 rfl hl (by decide) rfl (fun ls hl => ?_)
      refine lv_iconst (v := 3) hx hb dX12_halves_27 (by decide) ?_
      refine lv_istore_n (lv' := [(3, .int (3 : Int32)), (2, .int (1 : Int32)), (0, .ref (G.2.2.2 + 159)), (1, .int x1)]) hx hb dX12_halves_28 rfl hl (by decide) rfl (fun ls hl => ?_)
      exact w_X12_halves_29 X hr hk 5000 x1 (1 : Int32) (3 : Int32) M17 _ _ ls hT h (lv_sub hl [2, 3, 1, 0] rfl)
    · have hT := hT.1 hc19
      refine lv_iconst (v := -1) hx hb dX12_halves_23 (by decide) ?_
      exact fx_iret X hr hk h hT dX12_halves_24
/-! MockParcelsModel.findsNimbers()V -/
theorem dX12_findsNimbers_0 : decode cX12_findsNimbers 0 = .ok (.aload_n 0, 1) := by decide +kernel
theorem dX12_findsNimbers_1 : decode cX12_findsNimbers 1 = .ok (.getfield 128, 3) := by decide +kernel
theorem dX12_findsNimbers_4 : decode cX12_findsNimbers 4 = .ok (.iconst 0, 1) := by decide +kernel
theorem dX12_findsNimbers_5 : decode cX12_findsNimbers 5 = .ok (.iconst 0, 1) := by decide +kernel
theorem dX12_findsNimbers_6 : decode cX12_findsNimbers 6 = .ok (.iastore, 1) := by decide +kernel
theorem dX12_findsNimbers_7 : decode cX12_findsNimbers 7 = .ok (.iconst 1, 1) := by decide +kernel
theorem dX12_findsNimbers_8 : decode cX12_findsNimbers 8 = .ok (.istore_n 1, 1) := by decide +kernel
theorem dX12_findsNimbers_9 : decode cX12_findsNimbers 9 = .ok (.iload_n 1, 1) := by decide +kernel
theorem dX12_findsNimbers_10 : decode cX12_findsNimbers 10 = .ok (.bipush 10, 2) := by decide +kernel
theorem dX12_findsNimbers_12 : decode cX12_findsNimbers 12 = .ok (.if_icmp .ge 65, 3) := by decide +kernel
theorem dX12_findsNimbers_15 : decode cX12_findsNimbers 15 = .ok (.iconst 1, 1) := by decide +kernel
theorem dX12_findsNimbers_16 : decode cX12_findsNimbers 16 = .ok (.iconst 1, 1) := by decide +kernel
theorem dX12_findsNimbers_17 : decode cX12_findsNimbers 17 = .ok (.aload_n 0, 1) := by decide +kernel
theorem dX12_findsNimbers_18 : decode cX12_findsNimbers 18 = .ok (.getfield 128, 3) := by decide +kernel
theorem dX12_findsNimbers_21 : decode cX12_findsNimbers 21 = .ok (.iload_n 1, 1) := by decide +kernel
theorem dX12_findsNimbers_22 : decode cX12_findsNimbers 22 = .ok (.iconst 1, 1) := by decide +kernel
theorem dX12_findsNimbers_23 : decode cX12_findsNimbers 23 = .ok (.isub, 1) := by decide +kernel
theorem dX12_findsNimbers_24 : decode cX12_findsNimbers 24 = .ok (.iaload, 1) := by decide +kernel
theorem dX12_findsNimbers_25 : decode cX12_findsNimbers 25 = .ok (.ishl, 1) := by decide +kernel
theorem dX12_findsNimbers_26 : decode cX12_findsNimbers 26 = .ok (.ior, 1) := by decide +kernel
theorem dX12_findsNimbers_27 : decode cX12_findsNimbers 27 = .ok (.istore_n 2, 1) := by decide +kernel
theorem dX12_findsNimbers_28 : decode cX12_findsNimbers 28 = .ok (.iload_n 1, 1) := by decide +kernel
theorem dX12_findsNimbers_29 : decode cX12_findsNimbers 29 = .ok (.iconst 1, 1) := by decide +kernel
theorem dX12_findsNimbers_30 : decode cX12_findsNimbers 30 = .ok (.if_icmp .le 16, 3) := by decide +kernel
theorem dX12_findsNimbers_33 : decode cX12_findsNimbers 33 = .ok (.iload_n 2, 1) := by decide +kernel
theorem dX12_findsNimbers_34 : decode cX12_findsNimbers 34 = .ok (.iconst 1, 1) := by decide +kernel
theorem dX12_findsNimbers_35 : decode cX12_findsNimbers 35 = .ok (.aload_n 0, 1) := by decide +kernel
theorem dX12_findsNimbers_36 : decode cX12_findsNimbers 36 = .ok (.getfield 128, 3) := by decide +kernel
theorem dX12_findsNimbers_39 : decode cX12_findsNimbers 39 = .ok (.iload_n 1, 1) := by decide +kernel
theorem dX12_findsNimbers_40 : decode cX12_findsNimbers 40 = .ok (.iconst 2, 1) := by decide +kernel
theorem dX12_findsNimbers_41 : decode cX12_findsNimbers 41 = .ok (.isub, 1) := by decide +kernel
theorem dX12_findsNimbers_42 : decode cX12_findsNimbers 42 = .ok (.iaload, 1) := by decide +kernel
theorem dX12_findsNimbers_43 : decode cX12_findsNimbers 43 = .ok (.ishl, 1) := by decide +kernel
theorem dX12_findsNimbers_44 : decode cX12_findsNimbers 44 = .ok (.ior, 1) := by decide +kernel
theorem dX12_findsNimbers_45 : decode cX12_findsNimbers 45 = .ok (.istore_n 2, 1) := by decide +kernel
theorem dX12_findsNimbers_46 : decode cX12_findsNimbers 46 = .ok (.iconst 0, 1) := by decide +kernel
theorem dX12_findsNimbers_47 : decode cX12_findsNimbers 47 = .ok (.istore_n 3, 1) := by decide +kernel
theorem dX12_findsNimbers_48 : decode cX12_findsNimbers 48 = .ok (.aload_n 0, 1) := by decide +kernel
theorem dX12_findsNimbers_49 : decode cX12_findsNimbers 49 = .ok (.iload_n 2, 1) := by decide +kernel
theorem dX12_findsNimbers_50 : decode cX12_findsNimbers 50 = .ok (.iload_n 3, 1) := by decide +kernel
theorem dX12_findsNimbers_51 : decode cX12_findsNimbers 51 = .ok (.invokevirtual 442, 3) := by decide +kernel
theorem dX12_findsNimbers_54 : decode cX12_findsNimbers 54 = .ok (.ifCond .eq 10, 3) := by decide +kernel
theorem dX12_findsNimbers_57 : decode cX12_findsNimbers 57 = .ok (.iload_n 3, 1) := by decide +kernel
theorem dX12_findsNimbers_58 : decode cX12_findsNimbers 58 = .ok (.iconst 1, 1) := by decide +kernel
theorem dX12_findsNimbers_59 : decode cX12_findsNimbers 59 = .ok (.iadd, 1) := by decide +kernel
theorem dX12_findsNimbers_60 : decode cX12_findsNimbers 60 = .ok (.istore_n 3, 1) := by decide +kernel
theorem dX12_findsNimbers_61 : decode cX12_findsNimbers 61 = .ok (.goto (-13), 3) := by decide +kernel
theorem dX12_findsNimbers_64 : decode cX12_findsNimbers 64 = .ok (.aload_n 0, 1) := by decide +kernel
theorem dX12_findsNimbers_65 : decode cX12_findsNimbers 65 = .ok (.getfield 128, 3) := by decide +kernel
theorem dX12_findsNimbers_68 : decode cX12_findsNimbers 68 = .ok (.iload_n 1, 1) := by decide +kernel
theorem dX12_findsNimbers_69 : decode cX12_findsNimbers 69 = .ok (.iload_n 3, 1) := by decide +kernel
theorem dX12_findsNimbers_70 : decode cX12_findsNimbers 70 = .ok (.iastore, 1) := by decide +kernel
theorem dX12_findsNimbers_71 : decode cX12_findsNimbers 71 = .ok (.iinc 1 1, 3) := by decide +kernel
theorem dX12_findsNimbers_74 : decode cX12_findsNimbers 74 = .ok (.goto (-65), 3) := by decide +kernel
theorem dX12_findsNimbers_77 : decode cX12_findsNimbers 77 = .ok (.return_, 1) := by decide +kernel
def T_X12_findsNimbers_48 (B9 : Int32 → Mm → Prop) : Nat → Int32 → Int32 → Int32 → Mm → (Mm → Prop) → Prop
  | 0, _, _, _, _, _ => False
  | n + 1, x1, x2, x3, M, K => (T_X12_has x2 x3 M (fun r3 M2 => ((r3 = 0 → (vp_in x1 10 ∧ (∀ M5 : Mm, M5 = m_up M2 198 (x1).toNatClampNeg x3 → (∀ y7 : Int32, y7 = x1 + (1 : Int32) → (B9 y7 M5))))) ∧ (¬ r3 = 0 → (∀ y8 : Int32, y8 = (x3 + (1 : Int32)) → (T_X12_findsNimbers_48 B9 n x1 x2 y8 M2 K))))))
set_option maxHeartbeats 4000000 in
set_option maxRecDepth 100000 in
theorem w_X12_findsNimbers_48 {p : Program} {l : Launch} {e : Env} {s : State} {m : MethodId} {args : Array Value} {below : List Frame} {meth : Method} {c : Code} {G : fx_G} {K : Mm → Prop} {B9 : Int32 → Mm → Prop} (X : fx_C G p s m c args cX12_findsNimbers 4 RX12) (hr : meth.sig.returnType = none) (hk : meth.locks = false) (hB9 : ∀ (x1 : Int32) (M : Mm) (H : Heap) (locs : List Loc) (ls : Array Slot), B9 x1 M → fx_H G SH M s H locs → lv_has ls 4 [(0, .ref (G.2.2.2 + 159)), (1, .int x1)] → W p l e (fx_rm (1)) s m args below meth c H locs 0 0 (MQ below (va_Qv K (fx_R G SH) (fx_A G)) args s 0 0 (fx_A G)) (F0 m 9 ls [])) : ∀ (n : Nat) (x1 : Int32) (x2 : Int32) (x3 : Int32) (M : Mm) (H : Heap) (locs : List Loc) (ls : Array Slot), T_X12_findsNimbers_48 B9 n x1 x2 x3 M K → fx_H G SH M s H locs → lv_has ls 4 [(0, .ref (G.2.2.2 + 159)), (1, .int x1), (2, .int x2), (3, .int x3)] → W p l e (fx_rm (1)) s m args below meth c H locs 0 0 (MQ below (va_Qv K (fx_R G SH) (fx_A G)) args s 0 0 (fx_A G)) (F0 m 48 ls []) := by
  obtain ⟨⟨hx, hb, hml, hown, hts⟩, hK, hQ⟩ := id X
  intro n
  induction n with
  | zero =>
    intro x1 x2 x3 M H locs ls hT
    exact hT.elim
  | succ n ih =>
    intro x1 x2 x3 M H locs ls hT h hl
    rw [T_X12_findsNimbers_48] at hT
    refine lv_aload_n hx hb dX12_findsNimbers_48 rfl (lv_at hl 0 rfl) ?_
    refine lv_iload_n hx hb dX12_findsNimbers_49 rfl (lv_at hl 2 rfl) ?_
    refine lv_iload_n hx hb dX12_findsNimbers_50 rfl (lv_at hl 3 rfl) ?_
    refine fx_vi X h ym_X12_has yi_X12_has ys_X12_has (fx_s8 (List.mem_of_getElem? (i := 221) rfl) rfl) sh_159 rfl (c_X12_has l G hT) (As := [.int x2, .int x3]) (rest := []) rfl rfl ⟨Nat.le_of_ble_eq_true rfl, Nat.le_of_ble_eq_true rfl⟩ ⟨Nat.le_refl _, Nat.le_refl _⟩ hl.1 (Nat.le_of_ble_eq_true rfl) dX12_findsNimbers_51 (fun r3 M2 H locs hT h => ?_)
    refine lv_if_eq (tgt := 64) hx hb dX12_findsNimbers_54 (by decide) (fun hc4 => ?_) (fun hc4 => ?_)
    · have hT := hT.1 hc4
      refine lv_aload_n hx hb dX12_findsNimbers_64 rfl (lv_at hl 0 rfl) ?_
      refine fx_getR X h (k := 159) (j := 67) (r := 198) sh_159 rfl fl_RX12_128 dX12_findsNimbers_65 ?_
      refine lv_iload_n hx hb dX12_findsNimbers_68 rfl (lv_at hl 1 rfl) ?_
      refine lv_iload_n hx hb dX12_findsNimbers_69 rfl (lv_at hl 3 rfl) ?_
      obtain ⟨hi6, hT⟩ := hT
      refine fx_iast X h (k := 198) sh_198 hi6 dX12_findsNimbers_70 (fun H locs h => ?_)
      obtain ⟨M5, eM5⟩ : ∃ z : Mm, z = m_up M2 198 (x1).toNatClampNeg x3 := ⟨_, rfl⟩
      have hT := hT M5 eM5
      rw [← eM5] at h
      obtain ⟨y7, ey7⟩ : ∃ z : Int32, z = x1 + (1 : Int32) := ⟨_, rfl⟩
      have hT := hT y7 ey7
      refine lv_iinc (v := y7) (lv' := [(1, .int y7), (0, .ref (G.2.2.2 + 159)), (2, .int x2), (3, .int x3)]) hx hb dX12_findsNimbers_71 hl (k := 1) rfl (by rw [ey7]; rfl) (by decide) rfl (fun ls hl => ?_)
      refine lv_goto (tgt := 9) hx hb dX12_findsNimbers_74 (by decide) ?_
      exact hB9 y7 M5 _ _ ls hT h (lv_sub hl [1, 0] rfl)
    · have hT := hT.2 hc4
      refine lv_iload_n hx hb dX12_findsNimbers_57 rfl (lv_at hl 3 rfl) ?_
      refine lv_iconst (v := 1) hx hb dX12_findsNimbers_58 (by decide) ?_
      refine lv_iadd hx hb dX12_findsNimbers_59 ?_
      refine lv_topi (fun y8 ey8 => ?_)
      have hT := hT y8 ey8
      refine lv_istore_n (lv' := [(3, .int y8), (0, .ref (G.2.2.2 + 159)), (1, .int x1), (2, .int x2)]) hx hb dX12_findsNimbers_60 rfl hl (by decide) rfl (fun ls hl => ?_)
      refine lv_goto (tgt := 48) hx hb dX12_findsNimbers_61 (by decide) ?_
      exact ih x1 x2 y8 M2 _ _ ls hT h (lv_sub hl [1, 2, 3, 0] rfl)
def T_X12_findsNimbers_46 (B9 : Int32 → Mm → Prop) (x1 : Int32) (x2 : Int32) (M : Mm) (K : Mm → Prop) : Prop := (T_X12_findsNimbers_48 B9 5000 x1 x2 (0 : Int32) M K)
set_option maxHeartbeats 4000000 in
set_option maxRecDepth 100000 in
theorem w_X12_findsNimbers_46 {p : Program} {l : Launch} {e : Env} {s : State} {m : MethodId} {args : Array Value} {below : List Frame} {meth : Method} {c : Code} {G : fx_G} {K : Mm → Prop} {B9 : Int32 → Mm → Prop} (X : fx_C G p s m c args cX12_findsNimbers 4 RX12) (hr : meth.sig.returnType = none) (hk : meth.locks = false) (hB9 : ∀ (x1 : Int32) (M : Mm) (H : Heap) (locs : List Loc) (ls : Array Slot), B9 x1 M → fx_H G SH M s H locs → lv_has ls 4 [(0, .ref (G.2.2.2 + 159)), (1, .int x1)] → W p l e (fx_rm (1)) s m args below meth c H locs 0 0 (MQ below (va_Qv K (fx_R G SH) (fx_A G)) args s 0 0 (fx_A G)) (F0 m 9 ls [])) : ∀ (x1 : Int32) (x2 : Int32) (M : Mm) (H : Heap) (locs : List Loc) (ls : Array Slot), T_X12_findsNimbers_46 B9 x1 x2 M K → fx_H G SH M s H locs → lv_has ls 4 [(0, .ref (G.2.2.2 + 159)), (1, .int x1), (2, .int x2)] → W p l e (fx_rm (1)) s m args below meth c H locs 0 0 (MQ below (va_Qv K (fx_R G SH) (fx_A G)) args s 0 0 (fx_A G)) (F0 m 46 ls []) := by
  obtain ⟨⟨hx, hb, hml, hown, hts⟩, hK, hQ⟩ := id X
  intro x1 x2 M H locs ls hT h hl
  unfold T_X12_findsNimbers_46 at hT
  refine lv_iconst (v := 0) hx hb dX12_findsNimbers_46 (by decide) ?_
  refine lv_istore_n (lv' := [(3, .int (0 : Int32)), (0, .ref (G.2.2.2 + 159)), (1, .int x1), (2, .int x2)]) hx hb dX12_findsNimbers_47 rfl hl (by decide) rfl (fun ls hl => ?_)
  exact w_X12_findsNimbers_48 X hr hk (B9 := B9) hB9 5000 x1 x2 (0 : Int32) M _ _ ls hT h (lv_sub hl [1, 2, 3, 0] rfl)
def T_X12_findsNimbers_9 : Nat → Int32 → Mm → (Mm → Prop) → Prop
  | 0, _, _, _ => False
  | n + 1, x1, M, K => (((10 : Int32) ≤ x1 → (K M)) ∧ (¬ (10 : Int32) ≤ x1 → (vp_in (x1 - (1 : Int32)) 10 ∧ (∀ y11 : Int32, y11 = ((1 : Int32) ||| ((1 : Int32) <<< ((M 198 ((x1 - (1 : Int32))).toNatClampNeg) &&& 31))) → ((x1 ≤ (1 : Int32) → (T_X12_findsNimbers_46 (fun x1 M => T_X12_findsNimbers_9 n x1 M K) x1 y11 M K)) ∧ (¬ x1 ≤ (1 : Int32) → (vp_in (x1 - (2 : Int32)) 10 ∧ (∀ y14 : Int32, y14 = (y11 ||| ((1 : Int32) <<< ((M 198 ((x1 - (2 : Int32))).toNatClampNeg) &&& 31))) → (T_X12_findsNimbers_46 (fun x1 M => T_X12_findsNimbers_9 n x1 M K) x1 y14 M K)))))))))
set_option maxHeartbeats 4000000 in
set_option maxRecDepth 100000 in
theorem w_X12_findsNimbers_9 {p : Program} {l : Launch} {e : Env} {s : State} {m : MethodId} {args : Array Value} {below : List Frame} {meth : Method} {c : Code} {G : fx_G} {K : Mm → Prop} (X : fx_C G p s m c args cX12_findsNimbers 4 RX12) (hr : meth.sig.returnType = none) (hk : meth.locks = false) : ∀ (n : Nat) (x1 : Int32) (M : Mm) (H : Heap) (locs : List Loc) (ls : Array Slot), T_X12_findsNimbers_9 n x1 M K → fx_H G SH M s H locs → lv_has ls 4 [(0, .ref (G.2.2.2 + 159)), (1, .int x1)] → W p l e (fx_rm (1)) s m args below meth c H locs 0 0 (MQ below (va_Qv K (fx_R G SH) (fx_A G)) args s 0 0 (fx_A G)) (F0 m 9 ls []) := by
  obtain ⟨⟨hx, hb, hml, hown, hts⟩, hK, hQ⟩ := id X
  intro n
  induction n with
  | zero =>
    intro x1 M H locs ls hT
    exact hT.elim
  | succ n ih =>
    intro x1 M H locs ls hT h hl
    rw [T_X12_findsNimbers_9] at hT
    refine lv_iload_n hx hb dX12_findsNimbers_9 rfl (lv_at hl 1 rfl) ?_
    refine lv_bipush (v := 10) hx hb dX12_findsNimbers_10 (by decide) ?_
    refine lv_icmp_ge (tgt := 77) hx hb dX12_findsNimbers_12 (by decide) (fun hc9 => ?_) (fun hc9 => ?_)
    · have hT := hT.1 hc9
      exact fx_vret X hr hk h hT dX12_findsNimbers_77
    · have hT := hT.2 hc9
      refine lv_iconst (v := 1) hx hb dX12_findsNimbers_15 (by decide) ?_
      refine lv_iconst (v := 1) hx hb dX12_findsNimbers_16 (by decide) ?_
      refine lv_aload_n hx hb dX12_findsNimbers_17 rfl (lv_at hl 0 rfl) ?_
      refine fx_getR X h (k := 159) (j := 67) (r := 198) sh_159 rfl fl_RX12_128 dX12_findsNimbers_18 ?_
      refine lv_iload_n hx hb dX12_findsNimbers_21 rfl (lv_at hl 1 rfl) ?_
      refine lv_iconst (v := 1) hx hb dX12_findsNimbers_22 (by decide) ?_
      refine lv_isub hx hb dX12_findsNimbers_23 ?_
      obtain ⟨hi10, hT⟩ := hT
      refine fx_iald X h (k := 198) sh_198 hi10 dX12_findsNimbers_24 ?_
      refine lv_ishl hx hb dX12_findsNimbers_25 ?_
      refine lv_ior hx hb dX12_findsNimbers_26 ?_
      refine lv_topi (fun y11 ey11 => ?_)
      have hT := hT y11 ey11
      refine lv_istore_n (lv' := [(2, .int y11), (0, .ref (G.2.2.2 + 159)), (1, .int x1)]) hx hb dX12_findsNimbers_27 rfl hl (by decide) rfl (fun ls hl => ?_)
      refine lv_iload_n hx hb dX12_findsNimbers_28 rfl (lv_at hl 2 rfl) ?_
      refine lv_iconst (v := 1) hx hb dX12_findsNimbers_29 (by decide) ?_
      refine lv_icmp_le (tgt := 46) hx hb dX12_findsNimbers_30 (by decide) (fun hc12 => ?_) (fun hc12 => ?_)
      · have hT := hT.1 hc12
        exact w_X12_findsNimbers_46 X hr hk (B9 := (fun x1 M => T_X12_findsNimbers_9 n x1 M K)) ih x1 y11 M _ _ ls hT h (lv_sub hl [1, 2, 0] rfl)
      · have hT := hT.2 hc12
        refine lv_iload_n hx hb dX12_findsNimbers_33 rfl (lv_at hl 0 rfl) ?_
        refine lv_iconst (v := 1) hx hb dX12_findsNimbers_34 (by decide) ?_
        refine lv_aload_n hx hb dX12_findsNimbers_35 rfl (lv_at hl 1 rfl) ?_
        refine fx_getR X h (k := 159) (j := 67) (r := 198) sh_159 rfl fl_RX12_128 dX12_findsNimbers_36 ?_
        refine lv_iload_n hx hb dX12_findsNimbers_39 rfl (lv_at hl 2 rfl) ?_
        refine lv_iconst (v := 2) hx hb dX12_findsNimbers_40 (by decide) ?_
        refine lv_isub hx hb dX12_findsNimbers_41 ?_
        obtain ⟨hi13, hT⟩ := hT
        refine fx_iald X h (k := 198) sh_198 hi13 dX12_findsNimbers_42 ?_
        refine lv_ishl hx hb dX12_findsNimbers_43 ?_
        refine lv_ior hx hb dX12_findsNimbers_44 ?_
        refine lv_topi (fun y14 ey14 => ?_)
        have hT := hT y14 ey14
        refine lv_istore_n (lv' := [(2, .int y14), (0, .ref (G.2.2.2 + 159)), (1, .int x1)]) hx hb dX12_findsNimbers_45 rfl hl (by decide) rfl (fun ls hl => ?_)
        exact w_X12_findsNimbers_46 X hr hk (B9 := (fun x1 M => T_X12_findsNimbers_9 n x1 M K)) ih x1 y14 M _ _ ls hT h (lv_sub hl [1, 2, 0] rfl)
def T_X12_findsNimbers (M : Mm) (K : Mm → Prop) : Prop := (∀ M15 : Mm, M15 = m_up M 198 0 (0 : Int32) → (T_X12_findsNimbers_9 5000 (1 : Int32) M15 K))
set_option maxHeartbeats 4000000 in
set_option maxRecDepth 100000 in
theorem c_X12_findsNimbers (l : Launch) (G : fx_G) {M : Mm} {K : Mm → Prop} (hT : T_X12_findsNimbers M K) : Met l yX12_findsNimbers (fx_ws yX12_findsNimbers cX12_findsNimbers 4 none) (fx_rm (1)) (va_Pc [.ref (G.2.2.2 + 159)] (fx_P G SH M)) (va_Qv K (fx_R G SH) (fx_A G)) 0 0 (fx_A G) := by
  refine fx_met (own := RX12) (by decide +kernel) rfl (Nat.le_of_ble_eq_true rfl) (fun p e s m below meth c X hr hk h ls hl => ?_)
  obtain ⟨⟨hx, hb, hml, hown, hts⟩, hK, hQ⟩ := id X
  have hl : lv_has ls 4 [(0, .ref (G.2.2.2 + 159))] := hl
  unfold T_X12_findsNimbers at hT
  refine lv_aload_n hx hb dX12_findsNimbers_0 rfl (lv_at hl 0 rfl) ?_
  refine fx_getR X h (k := 159) (j := 67) (r := 198) sh_159 rfl fl_RX12_128 dX12_findsNimbers_1 ?_
  refine lv_iconst (v := 0) hx hb dX12_findsNimbers_4 (by decide) ?_
  refine lv_iconst (v := 0) hx hb dX12_findsNimbers_5 (by decide) ?_
  refine fx_iast X h (k := 198) sh_198 (by unfold vp_in; decide) dX12_findsNimbers_6 (fun H locs h => ?_)
  rw [show ((0 : Int32)).toNatClampNeg = 0 by decide] at h
  obtain ⟨M15, eM15⟩ : ∃ z : Mm, z = m_up M 198 0 (0 : Int32) := ⟨_, rfl⟩
  have hT := hT M15 eM15
  rw [← eM15] at h
  refine lv_iconst (v := 1) hx hb dX12_findsNimbers_7 (by decide) ?_
  refine lv_istore_n (lv' := [(1, .int (1 : Int32)), (0, .ref (G.2.2.2 + 159))]) hx hb dX12_findsNimbers_8 rfl hl (by decide) rfl (fun ls hl => ?_)
  exact w_X12_findsNimbers_9 X hr hk 5000 (1 : Int32) M15 _ _ ls hT h (lv_sub hl [1, 0] rfl)
/-! MockParcelsModel.heapOf(I)I -/
theorem dX12_heapOf_0 : decode cX12_heapOf 0 = .ok (.aload_n 0, 1) := by decide +kernel
theorem dX12_heapOf_1 : decode cX12_heapOf 1 = .ok (.getfield 7, 3) := by decide +kernel
theorem dX12_heapOf_4 : decode cX12_heapOf 4 = .ok (.bipush 7, 2) := by decide +kernel
theorem dX12_heapOf_6 : decode cX12_heapOf 6 = .ok (.iload_n 1, 1) := by decide +kernel
theorem dX12_heapOf_7 : decode cX12_heapOf 7 = .ok (.iadd, 1) := by decide +kernel
theorem dX12_heapOf_8 : decode cX12_heapOf 8 = .ok (.iaload, 1) := by decide +kernel
theorem dX12_heapOf_9 : decode cX12_heapOf 9 = .ok (.ifCond .le 7, 3) := by decide +kernel
theorem dX12_heapOf_12 : decode cX12_heapOf 12 = .ok (.iconst 0, 1) := by decide +kernel
theorem dX12_heapOf_13 : decode cX12_heapOf 13 = .ok (.goto 9, 3) := by decide +kernel
theorem dX12_heapOf_16 : decode cX12_heapOf 16 = .ok (.aload_n 0, 1) := by decide +kernel
theorem dX12_heapOf_17 : decode cX12_heapOf 17 = .ok (.getfield 25, 3) := by decide +kernel
theorem dX12_heapOf_20 : decode cX12_heapOf 20 = .ok (.iload_n 1, 1) := by decide +kernel
theorem dX12_heapOf_21 : decode cX12_heapOf 21 = .ok (.iaload, 1) := by decide +kernel
theorem dX12_heapOf_22 : decode cX12_heapOf 22 = .ok (.ireturn, 1) := by decide +kernel
def T_X12_heapOf (x1 : Int32) (M : Mm) (K : Int32 → Mm → Prop) : Prop := (vp_in ((7 : Int32) + x1) 135 ∧ (((M 160 (((7 : Int32) + x1)).toNatClampNeg) ≤ 0 → (vp_in x1 16 ∧ (K (M 165 (x1).toNatClampNeg) M))) ∧ (¬ (M 160 (((7 : Int32) + x1)).toNatClampNeg) ≤ 0 → (K (0 : Int32) M))))
set_option maxHeartbeats 4000000 in
set_option maxRecDepth 100000 in
theorem c_X12_heapOf (l : Launch) (G : fx_G) {x1 : Int32} {M : Mm} {K : Int32 → Mm → Prop} (hT : T_X12_heapOf x1 M K) : Met l yX12_heapOf (fx_ws yX12_heapOf cX12_heapOf 2 (some .int)) (fx_rm (0)) (va_Pc [.ref (G.2.2.2 + 159), .int x1] (fx_P G SH M)) (va_Qi K (fx_R G SH) (fx_A G)) 0 0 (fx_A G) := by
  refine fx_met (own := RX12) (by decide +kernel) rfl (Nat.le_of_ble_eq_true rfl) (fun p e s m below meth c X hr hk h ls hl => ?_)
  obtain ⟨⟨hx, hb, hml, hown, hts⟩, hK, hQ⟩ := id X
  have hl : lv_has ls 2 [(0, .ref (G.2.2.2 + 159)), (1, .int x1)] := hl
  unfold T_X12_heapOf at hT
  refine lv_aload_n hx hb dX12_heapOf_0 rfl (lv_at hl 0 rfl) ?_
  refine fx_getR X h (k := 159) (j := 1) (r := 160) sh_159 rfl fl_RX12_7 dX12_heapOf_1 ?_
  refine lv_bipush (v := 7) hx hb dX12_heapOf_4 (by decide) ?_
  refine lv_iload_n hx hb dX12_heapOf_6 rfl (lv_at hl 1 rfl) ?_
  refine lv_iadd hx hb dX12_heapOf_7 ?_
  obtain ⟨hi1, hT⟩ := hT
  refine fx_iald X h (k := 160) sh_160 hi1 dX12_heapOf_8 ?_
  refine lv_if_le (tgt := 16) hx hb dX12_heapOf_9 (by decide) (fun hc2 => ?_) (fun hc2 => ?_)
  · have hT := hT.1 hc2
    refine lv_aload_n hx hb dX12_heapOf_16 rfl (lv_at hl 0 rfl) ?_
    refine fx_getR X h (k := 159) (j := 10) (r := 165) sh_159 rfl fl_RX12_25 dX12_heapOf_17 ?_
    refine lv_iload_n hx hb dX12_heapOf_20 rfl (lv_at hl 1 rfl) ?_
    obtain ⟨hi3, hT⟩ := hT
    refine fx_iald X h (k := 165) sh_165 hi3 dX12_heapOf_21 ?_
    exact fx_iret X hr hk h hT dX12_heapOf_22
  · have hT := hT.2 hc2
    refine lv_iconst (v := 0) hx hb dX12_heapOf_12 (by decide) ?_
    refine lv_goto (tgt := 22) hx hb dX12_heapOf_13 (by decide) ?_
    exact fx_iret X hr hk h hT dX12_heapOf_22
/-! MockParcelsModel.game(I)I -/
theorem dX12_game_0 : decode cX12_game 0 = .ok (.aload_n 0, 1) := by decide +kernel
theorem dX12_game_1 : decode cX12_game 1 = .ok (.iconst 0, 1) := by decide +kernel
theorem dX12_game_2 : decode cX12_game 2 = .ok (.putfield 134, 3) := by decide +kernel
theorem dX12_game_5 : decode cX12_game 5 = .ok (.aload_n 0, 1) := by decide +kernel
theorem dX12_game_6 : decode cX12_game 6 = .ok (.iload_n 1, 1) := by decide +kernel
theorem dX12_game_7 : decode cX12_game 7 = .ok (.iconst 0, 1) := by decide +kernel
theorem dX12_game_8 : decode cX12_game 8 = .ok (.iconst 1, 1) := by decide +kernel
theorem dX12_game_9 : decode cX12_game 9 = .ok (.invokevirtual 157, 3) := by decide +kernel
theorem dX12_game_12 : decode cX12_game 12 = .ok (.ifCond .ne 5, 3) := by decide +kernel
theorem dX12_game_15 : decode cX12_game 15 = .ok (.iconst (-1), 1) := by decide +kernel
theorem dX12_game_16 : decode cX12_game 16 = .ok (.ireturn, 1) := by decide +kernel
theorem dX12_game_17 : decode cX12_game 17 = .ok (.aload_n 0, 1) := by decide +kernel
theorem dX12_game_18 : decode cX12_game 18 = .ok (.invokevirtual 512, 3) := by decide +kernel
theorem dX12_game_21 : decode cX12_game 21 = .ok (.iconst 0, 1) := by decide +kernel
theorem dX12_game_22 : decode cX12_game 22 = .ok (.istore_n 2, 1) := by decide +kernel
theorem dX12_game_23 : decode cX12_game 23 = .ok (.iconst 0, 1) := by decide +kernel
theorem dX12_game_24 : decode cX12_game 24 = .ok (.istore_n 3, 1) := by decide +kernel
theorem dX12_game_25 : decode cX12_game 25 = .ok (.iload_n 3, 1) := by decide +kernel
theorem dX12_game_26 : decode cX12_game 26 = .ok (.aload_n 0, 1) := by decide +kernel
theorem dX12_game_27 : decode cX12_game 27 = .ok (.getfield 147, 3) := by decide +kernel
theorem dX12_game_30 : decode cX12_game 30 = .ok (.if_icmp .ge 22, 3) := by decide +kernel
theorem dX12_game_33 : decode cX12_game 33 = .ok (.iload_n 2, 1) := by decide +kernel
theorem dX12_game_34 : decode cX12_game 34 = .ok (.aload_n 0, 1) := by decide +kernel
theorem dX12_game_35 : decode cX12_game 35 = .ok (.getfield 128, 3) := by decide +kernel
theorem dX12_game_38 : decode cX12_game 38 = .ok (.aload_n 0, 1) := by decide +kernel
theorem dX12_game_39 : decode cX12_game 39 = .ok (.iload_n 3, 1) := by decide +kernel
theorem dX12_game_40 : decode cX12_game 40 = .ok (.invokevirtual 515, 3) := by decide +kernel
theorem dX12_game_43 : decode cX12_game 43 = .ok (.iaload, 1) := by decide +kernel
theorem dX12_game_44 : decode cX12_game 44 = .ok (.ixor, 1) := by decide +kernel
theorem dX12_game_45 : decode cX12_game 45 = .ok (.istore_n 2, 1) := by decide +kernel
theorem dX12_game_46 : decode cX12_game 46 = .ok (.iinc 3 1, 3) := by decide +kernel
theorem dX12_game_49 : decode cX12_game 49 = .ok (.goto (-24), 3) := by decide +kernel
theorem dX12_game_52 : decode cX12_game 52 = .ok (.iconst 0, 1) := by decide +kernel
theorem dX12_game_53 : decode cX12_game 53 = .ok (.istore_n 3, 1) := by decide +kernel
theorem dX12_game_54 : decode cX12_game 54 = .ok (.iload_n 3, 1) := by decide +kernel
theorem dX12_game_55 : decode cX12_game 55 = .ok (.aload_n 0, 1) := by decide +kernel
theorem dX12_game_56 : decode cX12_game 56 = .ok (.getfield 147, 3) := by decide +kernel
theorem dX12_game_59 : decode cX12_game 59 = .ok (.if_icmp .ge 82, 3) := by decide +kernel
theorem dX12_game_62 : decode cX12_game 62 = .ok (.aload_n 0, 1) := by decide +kernel
theorem dX12_game_63 : decode cX12_game 63 = .ok (.iload_n 3, 1) := by decide +kernel
theorem dX12_game_64 : decode cX12_game 64 = .ok (.invokevirtual 515, 3) := by decide +kernel
theorem dX12_game_67 : decode cX12_game 67 = .ok (.istore 4, 2) := by decide +kernel
theorem dX12_game_69 : decode cX12_game 69 = .ok (.iload_n 2, 1) := by decide +kernel
theorem dX12_game_70 : decode cX12_game 70 = .ok (.aload_n 0, 1) := by decide +kernel
theorem dX12_game_71 : decode cX12_game 71 = .ok (.getfield 128, 3) := by decide +kernel
theorem dX12_game_74 : decode cX12_game 74 = .ok (.iload 4, 2) := by decide +kernel
theorem dX12_game_76 : decode cX12_game 76 = .ok (.iaload, 1) := by decide +kernel
theorem dX12_game_77 : decode cX12_game 77 = .ok (.ixor, 1) := by decide +kernel
theorem dX12_game_78 : decode cX12_game 78 = .ok (.istore 5, 2) := by decide +kernel
theorem dX12_game_80 : decode cX12_game 80 = .ok (.iconst 1, 1) := by decide +kernel
theorem dX12_game_81 : decode cX12_game 81 = .ok (.istore 6, 2) := by decide +kernel
theorem dX12_game_83 : decode cX12_game 83 = .ok (.iload 6, 2) := by decide +kernel
theorem dX12_game_85 : decode cX12_game 85 = .ok (.iload 4, 2) := by decide +kernel
theorem dX12_game_87 : decode cX12_game 87 = .ok (.if_icmp .gt 48, 3) := by decide +kernel
theorem dX12_game_90 : decode cX12_game 90 = .ok (.iload 6, 2) := by decide +kernel
theorem dX12_game_92 : decode cX12_game 92 = .ok (.iconst 3, 1) := by decide +kernel
theorem dX12_game_93 : decode cX12_game 93 = .ok (.if_icmp .lt 10, 3) := by decide +kernel
theorem dX12_game_96 : decode cX12_game 96 = .ok (.iload 6, 2) := by decide +kernel
theorem dX12_game_98 : decode cX12_game 98 = .ok (.iload 4, 2) := by decide +kernel
theorem dX12_game_100 : decode cX12_game 100 = .ok (.if_icmp .ne 29, 3) := by decide +kernel
theorem dX12_game_103 : decode cX12_game 103 = .ok (.aload_n 0, 1) := by decide +kernel
theorem dX12_game_104 : decode cX12_game 104 = .ok (.getfield 128, 3) := by decide +kernel
theorem dX12_game_107 : decode cX12_game 107 = .ok (.iload 4, 2) := by decide +kernel
theorem dX12_game_109 : decode cX12_game 109 = .ok (.iload 6, 2) := by decide +kernel
theorem dX12_game_111 : decode cX12_game 111 = .ok (.isub, 1) := by decide +kernel
theorem dX12_game_112 : decode cX12_game 112 = .ok (.iaload, 1) := by decide +kernel
theorem dX12_game_113 : decode cX12_game 113 = .ok (.iload 5, 2) := by decide +kernel
theorem dX12_game_115 : decode cX12_game 115 = .ok (.if_icmp .ne 14, 3) := by decide +kernel
theorem dX12_game_118 : decode cX12_game 118 = .ok (.iload_n 1, 1) := by decide +kernel
theorem dX12_game_119 : decode cX12_game 119 = .ok (.ifCond .ne 7, 3) := by decide +kernel
theorem dX12_game_122 : decode cX12_game 122 = .ok (.iload_n 3, 1) := by decide +kernel
theorem dX12_game_123 : decode cX12_game 123 = .ok (.goto 5, 3) := by decide +kernel
theorem dX12_game_126 : decode cX12_game 126 = .ok (.iload 6, 2) := by decide +kernel
theorem dX12_game_128 : decode cX12_game 128 = .ok (.ireturn, 1) := by decide +kernel
theorem dX12_game_129 : decode cX12_game 129 = .ok (.iinc 6 1, 3) := by decide +kernel
theorem dX12_game_132 : decode cX12_game 132 = .ok (.goto (-49), 3) := by decide +kernel
theorem dX12_game_135 : decode cX12_game 135 = .ok (.iinc 3 1, 3) := by decide +kernel
theorem dX12_game_138 : decode cX12_game 138 = .ok (.goto (-84), 3) := by decide +kernel
theorem dX12_game_141 : decode cX12_game 141 = .ok (.iconst (-1), 1) := by decide +kernel
theorem dX12_game_142 : decode cX12_game 142 = .ok (.ireturn, 1) := by decide +kernel
def T_X12_game_129 (B54 : Int32 → Int32 → Int32 → Mm → Prop) (B83 : Int32 → Int32 → Int32 → Int32 → Int32 → Int32 → Mm → Prop) (x1 : Int32) (x2 : Int32) (x3 : Int32) (x4 : Int32) (x5 : Int32) (x6 : Int32) (M : Mm) (K : Int32 → Mm → Prop) : Prop := (∀ y1 : Int32, y1 = x6 + (1 : Int32) → (B83 x1 x2 x3 x4 x5 y1 M))
set_option maxHeartbeats 4000000 in
set_option maxRecDepth 100000 in
theorem w_X12_game_129 {p : Program} {l : Launch} {e : Env} {s : State} {m : MethodId} {args : Array Value} {below : List Frame} {meth : Method} {c : Code} {G : fx_G} {K : Int32 → Mm → Prop} {B54 : Int32 → Int32 → Int32 → Mm → Prop} {B83 : Int32 → Int32 → Int32 → Int32 → Int32 → Int32 → Mm → Prop} (X : fx_C G p s m c args cX12_game 7 RX12) (hr : meth.sig.returnType = (some .int)) (hk : meth.locks = false) (hB54 : ∀ (x1 : Int32) (x2 : Int32) (x3 : Int32) (M : Mm) (H : Heap) (locs : List Loc) (ls : Array Slot), B54 x1 x2 x3 M → fx_H G SH M s H locs → lv_has ls 7 [(0, .ref (G.2.2.2 + 159)), (1, .int x1), (2, .int x2), (3, .int x3)] → W p l e (fx_rm (2)) s m args below meth c H locs 0 0 (MQ below (va_Qi K (fx_R G SH) (fx_A G)) args s 0 0 (fx_A G)) (F0 m 54 ls [])) (hB83 : ∀ (x1 : Int32) (x2 : Int32) (x3 : Int32) (x4 : Int32) (x5 : Int32) (x6 : Int32) (M : Mm) (H : Heap) (locs : List Loc) (ls : Array Slot), B83 x1 x2 x3 x4 x5 x6 M → fx_H G SH M s H locs → lv_has ls 7 [(0, .ref (G.2.2.2 + 159)), (1, .int x1), (2, .int x2), (3, .int x3), (4, .int x4), (5, .int x5), (6, .int x6)] → W p l e (fx_rm (2)) s m args below meth c H locs 0 0 (MQ below (va_Qi K (fx_R G SH) (fx_A G)) args s 0 0 (fx_A G)) (F0 m 83 ls [])) : ∀ (x1 : Int32) (x2 : Int32) (x3 : Int32) (x4 : Int32) (x5 : Int32) (x6 : Int32) (M : Mm) (H : Heap) (locs : List Loc) (ls : Array Slot), T_X12_game_129 B54 B83 x1 x2 x3 x4 x5 x6 M K → fx_H G SH M s H locs → lv_has ls 7 [(0, .ref (G.2.2.2 + 159)), (1, .int x1), (2, .int x2), (3, .int x3), (4, .int x4), (5, .int x5), (6, .int x6)] → W p l e (fx_rm (2)) s m args below meth c H locs 0 0 (MQ below (va_Qi K (fx_R G SH) (fx_A G)) args s 0 0 (fx_A G)) (F0 m 129 ls []) := by
  obtain ⟨⟨hx, hb, hml, hown, hts⟩, hK, hQ⟩ := id X
  intro x1 x2 x3 x4 x5 x6 M H locs ls hT h hl
  unfold T_X12_game_129 at hT
  obtain ⟨y1, ey1⟩ : ∃ z : Int32, z = x6 + (1 : Int32) := ⟨_, rfl⟩
  have hT := hT y1 ey1
  refine lv_iinc (v := y1) (lv' := [(6, .int y1), (0, .ref (G.2.2.2 + 159)), (1, .int x1), (2, .int x2), (3, .int x3), (4, .int x4), (5, .int x5)]) hx hb dX12_game_129 hl (k := 6) rfl (by rw [ey1]; rfl) (by decide) rfl (fun ls hl => ?_)
  refine lv_goto (tgt := 83) hx hb dX12_game_132 (by decide) ?_
  exact hB83 x1 x2 x3 x4 x5 y1 M _ _ ls hT h (lv_sub hl [1, 2, 3, 4, 5, 6, 0] rfl)
def T_X12_game_103 (B54 : Int32 → Int32 → Int32 → Mm → Prop) (B83 : Int32 → Int32 → Int32 → Int32 → Int32 → Int32 → Mm → Prop) (x1 : Int32) (x2 : Int32) (x3 : Int32) (x4 : Int32) (x5 : Int32) (x6 : Int32) (M : Mm) (K : Int32 → Mm → Prop) : Prop := (vp_in (x4 - x6) 10 ∧ (((M 198 ((x4 - x6)).toNatClampNeg) = x5 → ((x1 = 0 → (K x3 M)) ∧ (¬ x1 = 0 → (K x6 M)))) ∧ (¬ (M 198 ((x4 - x6)).toNatClampNeg) = x5 → (T_X12_game_129 B54 B83 x1 x2 x3 x4 x5 x6 M K))))
set_option maxHeartbeats 4000000 in
set_option maxRecDepth 100000 in
theorem w_X12_game_103 {p : Program} {l : Launch} {e : Env} {s : State} {m : MethodId} {args : Array Value} {below : List Frame} {meth : Method} {c : Code} {G : fx_G} {K : Int32 → Mm → Prop} {B54 : Int32 → Int32 → Int32 → Mm → Prop} {B83 : Int32 → Int32 → Int32 → Int32 → Int32 → Int32 → Mm → Prop} (X : fx_C G p s m c args cX12_game 7 RX12) (hr : meth.sig.returnType = (some .int)) (hk : meth.locks = false) (hB54 : ∀ (x1 : Int32) (x2 : Int32) (x3 : Int32) (M : Mm) (H : Heap) (locs : List Loc) (ls : Array Slot), B54 x1 x2 x3 M → fx_H G SH M s H locs → lv_has ls 7 [(0, .ref (G.2.2.2 + 159)), (1, .int x1), (2, .int x2), (3, .int x3)] → W p l e (fx_rm (2)) s m args below meth c H locs 0 0 (MQ below (va_Qi K (fx_R G SH) (fx_A G)) args s 0 0 (fx_A G)) (F0 m 54 ls [])) (hB83 : ∀ (x1 : Int32) (x2 : Int32) (x3 : Int32) (x4 : Int32) (x5 : Int32) (x6 : Int32) (M : Mm) (H : Heap) (locs : List Loc) (ls : Array Slot), B83 x1 x2 x3 x4 x5 x6 M → fx_H G SH M s H locs → lv_has ls 7 [(0, .ref (G.2.2.2 + 159)), (1, .int x1), (2, .int x2), (3, .int x3), (4, .int x4), (5, .int x5), (6, .int x6)] → W p l e (fx_rm (2)) s m args below meth c H locs 0 0 (MQ below (va_Qi K (fx_R G SH) (fx_A G)) args s 0 0 (fx_A G)) (F0 m 83 ls [])) : ∀ (x1 : Int32) (x2 : Int32) (x3 : Int32) (x4 : Int32) (x5 : Int32) (x6 : Int32) (M : Mm) (H : Heap) (locs : List Loc) (ls : Array Slot), T_X12_game_103 B54 B83 x1 x2 x3 x4 x5 x6 M K → fx_H G SH M s H locs → lv_has ls 7 [(0, .ref (G.2.2.2 + 159)), (1, .int x1), (2, .int x2), (3, .int x3), (4, .int x4), (5, .int x5), (6, .int x6)] → W p l e (fx_rm (2)) s m args below meth c H locs 0 0 (MQ below (va_Qi K (fx_R G SH) (fx_A G)) args s 0 0 (fx_A G)) (F0 m 103 ls []) := by
  obtain ⟨⟨hx, hb, hml, hown, hts⟩, hK, hQ⟩ := id X
  intro x1 x2 x3 x4 x5 x6 M H locs ls hT h hl
  unfold T_X12_game_103 at hT
  refine lv_aload_n hx hb dX12_game_103 rfl (lv_at hl 0 rfl) ?_
  refine fx_getR X h (k := 159) (j := 67) (r := 198) sh_159 rfl fl_RX12_128 dX12_game_104 ?_
  refine lv_iload hx hb dX12_game_107 (lv_at hl 4 rfl) ?_
  refine lv_iload hx hb dX12_game_109 (lv_at hl 6 rfl) ?_
  refine lv_isub hx hb dX12_game_111 ?_
  obtain ⟨hi2, hT⟩ := hT
  refine fx_iald X h (k := 198) sh_198 hi2 dX12_game_112 ?_
  refine lv_iload hx hb dX12_game_113 (lv_at hl 5 rfl) ?_
  refine lv_icmp_ne (tgt := 129) hx hb dX12_game_115 (by decide) (fun hc3 => ?_) (fun hc3 => ?_)
  · have hT := hT.2 hc3
    exact w_X12_game_129 X hr hk (B54 := B54) hB54 (B83 := B83) hB83 x1 x2 x3 x4 x5 x6 M _ _ ls hT h (lv_sub hl [0, 1, 2, 3, 4, 5, 6] rfl)
  · have hT := hT.1 hc3
    refine lv_iload_n hx hb dX12_game_118 rfl (lv_at hl 1 rfl) ?_
    refine lv_if_ne (tgt := 126) hx hb dX12_game_119 (by decide) (fun hc4 => ?_) (fun hc4 => ?_)
    · have hT := hT.2 hc4
      refine lv_iload hx hb dX12_game_126 (lv_at hl 6 rfl) ?_
      exact fx_iret X hr hk h hT dX12_game_128
    · have hT := hT.1 hc4
      refine lv_iload_n hx hb dX12_game_122 rfl (lv_at hl 3 rfl) ?_
      refine lv_goto (tgt := 128) hx hb dX12_game_123 (by decide) ?_
      exact fx_iret X hr hk h hT dX12_game_128
def T_X12_game_83 (B54 : Int32 → Int32 → Int32 → Mm → Prop) : Nat → Int32 → Int32 → Int32 → Int32 → Int32 → Int32 → Mm → (Int32 → Mm → Prop) → Prop
  | 0, _, _, _, _, _, _, _, _ => False
  | n + 1, x1, x2, x3, x4, x5, x6, M, K => ((x4 < x6 → (∀ y6 : Int32, y6 = x3 + (1 : Int32) → (B54 x1 x2 y6 M))) ∧ (¬ x4 < x6 → ((x6 < (3 : Int32) → (T_X12_game_103 B54 (fun x1 x2 x3 x4 x5 x6 M => T_X12_game_83 B54 n x1 x2 x3 x4 x5 x6 M K) x1 x2 x3 x4 x5 x6 M K)) ∧ (¬ x6 < (3 : Int32) → ((x6 = x4 → (T_X12_game_103 B54 (fun x1 x2 x3 x4 x5 x6 M => T_X12_game_83 B54 n x1 x2 x3 x4 x5 x6 M K) x1 x2 x3 x4 x5 x6 M K)) ∧ (¬ x6 = x4 → (T_X12_game_129 B54 (fun x1 x2 x3 x4 x5 x6 M => T_X12_game_83 B54 n x1 x2 x3 x4 x5 x6 M K) x1 x2 x3 x4 x5 x6 M K)))))))
set_option maxHeartbeats 4000000 in
set_option maxRecDepth 100000 in
theorem w_X12_game_83 {p : Program} {l : Launch} {e : Env} {s : State} {m : MethodId} {args : Array Value} {below : List Frame} {meth : Method} {c : Code} {G : fx_G} {K : Int32 → Mm → Prop} {B54 : Int32 → Int32 → Int32 → Mm → Prop} (X : fx_C G p s m c args cX12_game 7 RX12) (hr : meth.sig.returnType = (some .int)) (hk : meth.locks = false) (hB54 : ∀ (x1 : Int32) (x2 : Int32) (x3 : Int32) (M : Mm) (H : Heap) (locs : List Loc) (ls : Array Slot), B54 x1 x2 x3 M → fx_H G SH M s H locs → lv_has ls 7 [(0, .ref (G.2.2.2 + 159)), (1, .int x1), (2, .int x2), (3, .int x3)] → W p l e (fx_rm (2)) s m args below meth c H locs 0 0 (MQ below (va_Qi K (fx_R G SH) (fx_A G)) args s 0 0 (fx_A G)) (F0 m 54 ls [])) : ∀ (n : Nat) (x1 : Int32) (x2 : Int32) (x3 : Int32) (x4 : Int32) (x5 : Int32) (x6 : Int32) (M : Mm) (H : Heap) (locs : List Loc) (ls : Array Slot), T_X12_game_83 B54 n x1 x2 x3 x4 x5 x6 M K → fx_H G SH M s H locs → lv_has ls 7 [(0, .ref (G.2.2.2 + 159)), (1, .int x1), (2, .int x2), (3, .int x3), (4, .int x4), (5, .int x5), (6, .int x6)] → W p l e (fx_rm (2)) s m args below meth c H locs 0 0 (MQ below (va_Qi K (fx_R G SH) (fx_A G)) args s 0 0 (fx_A G)) (F0 m 83 ls []) := by
  obtain ⟨⟨hx, hb, hml, hown, hts⟩, hK, hQ⟩ := id X
  intro n
  induction n with
  | zero =>
    intro x1 x2 x3 x4 x5 x6 M H locs ls hT
    exact hT.elim
  | succ n ih =>
    intro x1 x2 x3 x4 x5 x6 M H locs ls hT h hl
    rw [T_X12_game_83] at hT
    refine lv_iload hx hb dX12_game_83 (lv_at hl 6 rfl) ?_
    refine lv_iload hx hb dX12_game_85 (lv_at hl 4 rfl) ?_
    refine lv_icmp_gt (tgt := 135) hx hb dX12_game_87 (by decide) (fun hc5 => ?_) (fun hc5 => ?_)
    · have hT := hT.1 hc5
      obtain ⟨y6, ey6⟩ : ∃ z : Int32, z = x3 + (1 : Int32) := ⟨_, rfl⟩
      have hT := hT y6 ey6
      refine lv_iinc (v := y6) (lv' := [(3, .int y6), (0, .ref (G.2.2.2 + 159)), (1, .int x1), (2, .int x2), (4, .int x4), (5, .int x5), (6, .int x6)]) hx hb dX12_game_135 hl (k := 3) rfl (by rw [ey6]; rfl) (by decide) rfl (fun ls hl => ?_)
      refine lv_goto (tgt := 54) hx hb dX12_game_138 (by decide) ?_
      exact hB54 x1 x2 y6 M _ _ ls hT h (lv_sub hl [1, 2, 3, 0] rfl)
    · have hT := hT.2 hc5
      refine lv_iload hx hb dX12_game_90 (lv_at hl 6 rfl) ?_
      refine lv_iconst (v := 3) hx hb dX12_game_92 (by decide) ?_
      refine lv_icmp_lt (tgt := 103) hx hb dX12_game_93 (by decide) (fun hc7 => ?_) (fun hc7 => ?_)
      · have hT := hT.1 hc7
        exact w_X12_game_103 X hr hk (B54 := B54) hB54 (B83 := (fun x1 x2 x3 x4 x5 x6 M => T_X12_game_83 B54 n x1 x2 x3 x4 x5 x6 M K)) ih x1 x2 x3 x4 x5 x6 M _ _ ls hT h (lv_sub hl [0, 1, 2, 3, 4, 5, 6] rfl)
      · have hT := hT.2 hc7
        refine lv_iload hx hb dX12_game_96 (lv_at hl 6 rfl) ?_
        refine lv_iload hx hb dX12_game_98 (lv_at hl 4 rfl) ?_
        refine lv_icmp_ne (tgt := 129) hx hb dX12_game_100 (by decide) (fun hc8 => ?_) (fun hc8 => ?_)
        · have hT := hT.2 hc8
          exact w_X12_game_129 X hr hk (B54 := B54) hB54 (B83 := (fun x1 x2 x3 x4 x5 x6 M => T_X12_game_83 B54 n x1 x2 x3 x4 x5 x6 M K)) ih x1 x2 x3 x4 x5 x6 M _ _ ls hT h (lv_sub hl [0, 1, 2, 3, 4, 5, 6] rfl)
        · have hT := hT.1 hc8
          exact w_X12_game_103 X hr hk (B54 := B54) hB54 (B83 := (fun x1 x2 x3 x4 x5 x6 M => T_X12_game_83 B54 n x1 x2 x3 x4 x5 x6 M K)) ih x1 x2 x3 x4 x5 x6 M _ _ ls hT h (lv_sub hl [0, 1, 2, 3, 4, 5, 6] rfl)
def T_X12_game_54 : Nat → Int32 → Int32 → Int32 → Mm → (Int32 → Mm → Prop) → Prop
  | 0, _, _, _, _, _ => False
  | n + 1, x1, x2, x3, M, K => (((M 159 6) ≤ x3 → (K (-1 : Int32) M)) ∧ (¬ (M 159 6) ≤ x3 → (T_X12_heapOf x3 M (fun r12 M11 => (vp_in r12 10 ∧ (∀ y14 : Int32, y14 = (x2 ^^^ (M11 198 (r12).toNatClampNeg)) → (T_X12_game_83 (fun x1 x2 x3 M => T_X12_game_54 n x1 x2 x3 M K) 5000 x1 x2 x3 r12 y14 (1 : Int32) M11 K)))))))
set_option maxHeartbeats 4000000 in
set_option maxRecDepth 100000 in
theorem w_X12_game_54 {p : Program} {l : Launch} {e : Env} {s : State} {m : MethodId} {args : Array Value} {below : List Frame} {meth : Method} {c : Code} {G : fx_G} {K : Int32 → Mm → Prop} (X : fx_C G p s m c args cX12_game 7 RX12) (hr : meth.sig.returnType = (some .int)) (hk : meth.locks = false) : ∀ (n : Nat) (x1 : Int32) (x2 : Int32) (x3 : Int32) (M : Mm) (H : Heap) (locs : List Loc) (ls : Array Slot), T_X12_game_54 n x1 x2 x3 M K → fx_H G SH M s H locs → lv_has ls 7 [(0, .ref (G.2.2.2 + 159)), (1, .int x1), (2, .int x2), (3, .int x3)] → W p l e (fx_rm (2)) s m args below meth c H locs 0 0 (MQ below (va_Qi K (fx_R G SH) (fx_A G)) args s 0 0 (fx_A G)) (F0 m 54 ls []) := by
  obtain ⟨⟨hx, hb, hml, hown, hts⟩, hK, hQ⟩ := id X
  intro n
  induction n with
  | zero =>
    intro x1 x2 x3 M H locs ls hT
    exact hT.elim
  | succ n ih =>
    intro x1 x2 x3 M H locs ls hT h hl
    rw [T_X12_game_54] at hT
    refine lv_iload_n hx hb dX12_game_54 rfl (lv_at hl 3 rfl) ?_
    refine lv_aload_n hx hb dX12_game_55 rfl (lv_at hl 0 rfl) ?_
    refine fx_getI X h (k := 159) (j := 6) sh_159 rfl fl_RX12_147 dX12_game_56 ?_
    refine lv_icmp_ge (tgt := 141) hx hb dX12_game_59 (by decide) (fun hc9 => ?_) (fun hc9 => ?_)
    · have hT := hT.1 hc9
      refine lv_iconst (v := -1) hx hb dX12_game_141 (by decide) ?_
      exact fx_iret X hr hk h hT dX12_game_142
    · have hT := hT.2 hc9
      refine lv_aload_n hx hb dX12_game_62 rfl (lv_at hl 0 rfl) ?_
      refine lv_iload_n hx hb dX12_game_63 rfl (lv_at hl 3 rfl) ?_
      refine fx_vi X h ym_X12_heapOf yi_X12_heapOf ys_X12_heapOf (fx_s9 (List.mem_of_getElem? (i := 108) rfl) rfl) sh_159 rfl (c_X12_heapOf l G hT) (As := [.int x3]) (rest := []) rfl rfl ⟨Nat.le_of_ble_eq_true rfl, Nat.le_of_ble_eq_true rfl⟩ ⟨Nat.le_refl _, Nat.le_refl _⟩ hl.1 (Nat.le_of_ble_eq_true rfl) dX12_game_64 (fun r12 M11 H locs hT h => ?_)
      refine lv_istore (lv' := [(4, .int r12), (0, .ref (G.2.2.2 + 159)), (1, .int x1), (2, .int x2), (3, .int x3)]) hx hb dX12_game_67 hl (by decide) rfl (fun ls hl => ?_)
      refine lv_iload_n hx hb dX12_game_69 rfl (lv_at hl 3 rfl) ?_
      refine lv_aload_n hx hb dX12_game_70 rfl (lv_at hl 1 rfl) ?_
      refine fx_getR X h (k := 159) (j := 67) (r := 198) sh_159 rfl fl_RX12_128 dX12_game_71 ?_
      refine lv_iload hx hb dX12_game_74 (lv_at hl 0 rfl) ?_
      obtain ⟨hi13, hT⟩ := hT
      refine fx_iald X h (k := 198) sh_198 hi13 dX12_game_76 ?_
      refine lv_ixor hx hb dX12_game_77 ?_
      refine lv_topi (fun y14 ey14 => ?_)
      have hT := hT y14 ey14
      refine lv_istore (lv' := [(5, .int y14), (4, .int r12), (0, .ref (G.2.2.2 + 159)), (1, .int x1), (2, .int x2), (3, .int x3)]) hx hb dX12_game_78 hl (by decide) rfl (fun ls hl => ?_)
      refine lv_iconst (v := 1) hx hb dX12_game_80 (by decide) ?_
      refine lv_istore (lv' := [(6, .int (1 : Int32)), (5, .int y14), (4, .int r12), (0, .ref (G.2.2.2 + 159)), (1, .int x1), (2, .int x2), (3, .int x3)]) hx hb dX12_game_81 hl (by decide) rfl (fun ls hl => ?_)
      exact w_X12_game_83 X hr hk (B54 := (fun x1 x2 x3 M => T_X12_game_54 n x1 x2 x3 M K)) ih 5000 x1 x2 x3 r12 y14 (1 : Int32) M11 _ _ ls hT h (lv_sub hl [3, 4, 5, 6, 2, 1, 0] rfl)
def T_X12_game_25 : Nat → Int32 → Int32 → Int32 → Mm → (Int32 → Mm → Prop) → Prop
  | 0, _, _, _, _, _ => False
  | n + 1, x1, x2, x3, M, K => (((M 159 6) ≤ x3 → (T_X12_game_54 5000 x1 x2 (0 : Int32) M K)) ∧ (¬ (M 159 6) ≤ x3 → (T_X12_heapOf x3 M (fun r18 M17 => (vp_in r18 10 ∧ (∀ y20 : Int32, y20 = (x2 ^^^ (M17 198 (r18).toNatClampNeg)) → (∀ y21 : Int32, y21 = x3 + (1 : Int32) → (T_X12_game_25 n x1 y20 y21 M17 K))))))))
set_option maxHeartbeats 4000000 in
set_option maxRecDepth 100000 in
theorem w_X12_game_25 {p : Program} {l : Launch} {e : Env} {s : State} {m : MethodId} {args : Array Value} {below : List Frame} {meth : Method} {c : Code} {G : fx_G} {K : Int32 → Mm → Prop} (X : fx_C G p s m c args cX12_game 7 RX12) (hr : meth.sig.returnType = (some .int)) (hk : meth.locks = false) : ∀ (n : Nat) (x1 : Int32) (x2 : Int32) (x3 : Int32) (M : Mm) (H : Heap) (locs : List Loc) (ls : Array Slot), T_X12_game_25 n x1 x2 x3 M K → fx_H G SH M s H locs → lv_has ls 7 [(0, .ref (G.2.2.2 + 159)), (1, .int x1), (2, .int x2), (3, .int x3)] → W p l e (fx_rm (2)) s m args below meth c H locs 0 0 (MQ below (va_Qi K (fx_R G SH) (fx_A G)) args s 0 0 (fx_A G)) (F0 m 25 ls []) := by
  obtain ⟨⟨hx, hb, hml, hown, hts⟩, hK, hQ⟩ := id X
  intro n
  induction n with
  | zero =>
    intro x1 x2 x3 M H locs ls hT
    exact hT.elim
  | succ n ih =>
    intro x1 x2 x3 M H locs ls hT h hl
    rw [T_X12_game_25] at hT
    refine lv_iload_n hx hb dX12_game_25 rfl (lv_at hl 3 rfl) ?_
    refine lv_aload_n hx hb dX12_game_26 rfl (lv_at hl 0 rfl) ?_
    refine fx_getI X h (k := 159) (j := 6) sh_159 rfl fl_RX12_147 dX12_game_27 ?_
    refine lv_icmp_ge (tgt := 52) hx hb dX12_game_30 (by decide) (fun hc15 => ?_) (fun hc15 => ?_)
    · have hT := hT.1 hc15
      refine lv_iconst (v := 0) hx hb dX12_game_52 (by decide) ?_
      refine lv_istore_n (lv' := [(3, .int (0 : Int32)), (0, .ref (G.2.2.2 + 159)), (1, .int x1), (2, .int x2)]) hx hb dX12_game_53 rfl hl (by decide) rfl (fun ls hl => ?_)
      exact w_X12_game_54 X hr hk 5000 x1 x2 (0 : Int32) M _ _ ls hT h (lv_sub hl [1, 2, 3, 0] rfl)
    · have hT := hT.2 hc15
      refine lv_iload_n hx hb dX12_game_33 rfl (lv_at hl 2 rfl) ?_
      refine lv_aload_n hx hb dX12_game_34 rfl (lv_at hl 0 rfl) ?_
      refine fx_getR X h (k := 159) (j := 67) (r := 198) sh_159 rfl fl_RX12_128 dX12_game_35 ?_
      refine lv_aload_n hx hb dX12_game_38 rfl (lv_at hl 0 rfl) ?_
      refine lv_iload_n hx hb dX12_game_39 rfl (lv_at hl 3 rfl) ?_
      refine fx_vi X h ym_X12_heapOf yi_X12_heapOf ys_X12_heapOf (fx_s9 (List.mem_of_getElem? (i := 108) rfl) rfl) sh_159 rfl (c_X12_heapOf l G hT) (As := [.int x3]) (rest := [.ref (G.2.2.2 + 198), .int x2]) rfl rfl ⟨Nat.le_of_ble_eq_true rfl, Nat.le_of_ble_eq_true rfl⟩ ⟨Nat.le_refl _, Nat.le_refl _⟩ hl.1 (Nat.le_of_ble_eq_true rfl) dX12_game_40 (fun r18 M17 H locs hT h => ?_)
      obtain ⟨hi19, hT⟩ := hT
      refine fx_iald X h (k := 198) sh_198 hi19 dX12_game_43 ?_
      refine lv_ixor hx hb dX12_game_44 ?_
      refine lv_topi (fun y20 ey20 => ?_)
      have hT := hT y20 ey20
      refine lv_istore_n (lv' := [(2, .int y20), (0, .ref (G.2.2.2 + 159)), (1, .int x1), (3, .int x3)]) hx hb dX12_game_45 rfl hl (by decide) rfl (fun ls hl => ?_)
      obtain ⟨y21, ey21⟩ : ∃ z : Int32, z = x3 + (1 : Int32) := ⟨_, rfl⟩
      have hT := hT y21 ey21
      refine lv_iinc (v := y21) (lv' := [(3, .int y21), (2, .int y20), (0, .ref (G.2.2.2 + 159)), (1, .int x1)]) hx hb dX12_game_46 hl (k := 3) rfl (by rw [ey21]; rfl) (by decide) rfl (fun ls hl => ?_)
      refine lv_goto (tgt := 25) hx hb dX12_game_49 (by decide) ?_
      exact ih x1 y20 y21 M17 _ _ ls hT h (lv_sub hl [2, 3, 1, 0] rfl)
def T_X12_game (x1 : Int32) (M : Mm) (K : Int32 → Mm → Prop) : Prop := (∀ M22 : Mm, M22 = m_up M 159 0 (0 : Int32) → (T_X12_isIn x1 (0 : Int32) (1 : Int32) M22 (fun r25 M24 => ((r25 = 0 → (K (-1 : Int32) M24)) ∧ (¬ r25 = 0 → (T_X12_findsNimbers M24 (fun M28 => (T_X12_game_25 5000 x1 (0 : Int32) (0 : Int32) M28 K))))))))
set_option maxHeartbeats 4000000 in
set_option maxRecDepth 100000 in
theorem c_X12_game (l : Launch) (G : fx_G) {x1 : Int32} {M : Mm} {K : Int32 → Mm → Prop} (hT : T_X12_game x1 M K) : Met l yX12_game (fx_ws yX12_game cX12_game 7 (some .int)) (fx_rm (2)) (va_Pc [.ref (G.2.2.2 + 159), .int x1] (fx_P G SH M)) (va_Qi K (fx_R G SH) (fx_A G)) 0 0 (fx_A G) := by
  refine fx_met (own := RX12) (by decide +kernel) rfl (Nat.le_of_ble_eq_true rfl) (fun p e s m below meth c X hr hk h ls hl => ?_)
  obtain ⟨⟨hx, hb, hml, hown, hts⟩, hK, hQ⟩ := id X
  have hl : lv_has ls 7 [(0, .ref (G.2.2.2 + 159)), (1, .int x1)] := hl
  unfold T_X12_game at hT
  refine lv_aload_n hx hb dX12_game_0 rfl (lv_at hl 0 rfl) ?_
  refine lv_iconst (v := 0) hx hb dX12_game_1 (by decide) ?_
  refine fx_putI X h (k := 159) (j := 0) sh_159 rfl fl_RX12_134 dX12_game_2 (fun H locs h => ?_)
  obtain ⟨M22, eM22⟩ : ∃ z : Mm, z = m_up M 159 0 (0 : Int32) := ⟨_, rfl⟩
  have hT := hT M22 eM22
  rw [← eM22] at h
  refine lv_aload_n hx hb dX12_game_5 rfl (lv_at hl 0 rfl) ?_
  refine lv_iload_n hx hb dX12_game_6 rfl (lv_at hl 1 rfl) ?_
  refine lv_iconst (v := 0) hx hb dX12_game_7 (by decide) ?_
  refine lv_iconst (v := 1) hx hb dX12_game_8 (by decide) ?_
  refine fx_vi X h ym_X12_isIn yi_X12_isIn ys_X12_isIn (fx_s7 (List.mem_of_getElem? (i := 77) rfl) rfl) sh_159 rfl (c_X12_isIn l G hT) (As := [.int x1, .int (0 : Int32), .int (1 : Int32)]) (rest := []) rfl rfl ⟨Nat.le_of_ble_eq_true rfl, Nat.le_of_ble_eq_true rfl⟩ ⟨Nat.le_refl _, Nat.le_refl _⟩ hl.1 (Nat.le_of_ble_eq_true rfl) dX12_game_9 (fun r25 M24 H locs hT h => ?_)
  refine lv_if_ne (tgt := 17) hx hb dX12_game_12 (by decide) (fun hc26 => ?_) (fun hc26 => ?_)
  · have hT := hT.2 hc26
    refine lv_aload_n hx hb dX12_game_17 rfl (lv_at hl 0 rfl) ?_
    refine fx_vv X h ym_X12_findsNimbers yi_X12_findsNimbers ys_X12_findsNimbers (fx_s9 (List.mem_of_getElem? (i := 104) rfl) rfl) sh_159 rfl (c_X12_findsNimbers l G hT) (As := []) (rest := []) rfl rfl ⟨Nat.le_of_ble_eq_true rfl, Nat.le_of_ble_eq_true rfl⟩ ⟨Nat.le_refl _, Nat.le_refl _⟩ hl.1 (Nat.le_of_ble_eq_true rfl) dX12_game_18 (fun M28 H locs hT h => ?_)
    refine lv_iconst (v := 0) hx hb dX12_game_21 (by decide) ?_
    refine lv_istore_n (lv' := [(2, .int (0 : Int32)), (0, .ref (G.2.2.2 + 159)), (1, .int x1)]) hx hb dX12_game_22 rfl hl (by decide) rfl (fun ls hl => ?_)
    refine lv_iconst (v := 0) hx hb dX12_game_23 (by decide) ?_
    refine lv_istore_n (lv' := [(3, .int (0 : Int32)), (2, .int (0 : Int32)), (0, .ref (G.2.2.2 + 159)), (1, .int x1)]) hx hb dX12_game_24 rfl hl (by decide) rfl (fun ls hl => ?_)
    exact w_X12_game_25 X hr hk 5000 x1 (0 : Int32) (0 : Int32) M28 _ _ ls hT h (lv_sub hl [2, 3, 1, 0] rfl)
  · have hT := hT.1 hc26
    refine lv_iconst (v := -1) hx hb dX12_game_15 (by decide) ?_
    exact fx_iret X hr hk h hT dX12_game_16
/-! MockParcelsModel.keeps(I)I -/
theorem dX12_keeps_0 : decode cX12_keeps 0 = .ok (.aload_n 0, 1) := by decide +kernel
theorem dX12_keeps_1 : decode cX12_keeps 1 = .ok (.aload_n 0, 1) := by decide +kernel
theorem dX12_keeps_2 : decode cX12_keeps 2 = .ok (.getfield 518, 3) := by decide +kernel
theorem dX12_keeps_5 : decode cX12_keeps 5 = .ok (.iconst 1, 1) := by decide +kernel
theorem dX12_keeps_6 : decode cX12_keeps 6 = .ok (.iadd, 1) := by decide +kernel
theorem dX12_keeps_7 : decode cX12_keeps 7 = .ok (.putfield 518, 3) := by decide +kernel
theorem dX12_keeps_10 : decode cX12_keeps 10 = .ok (.aload_n 0, 1) := by decide +kernel
theorem dX12_keeps_11 : decode cX12_keeps 11 = .ok (.getfield 521, 3) := by decide +kernel
theorem dX12_keeps_14 : decode cX12_keeps 14 = .ok (.ifCond .ne 15, 3) := by decide +kernel
theorem dX12_keeps_17 : decode cX12_keeps 17 = .ok (.aload_n 0, 1) := by decide +kernel
theorem dX12_keeps_18 : decode cX12_keeps 18 = .ok (.getfield 131, 3) := by decide +kernel
theorem dX12_keeps_21 : decode cX12_keeps 21 = .ok (.aload_n 0, 1) := by decide +kernel
theorem dX12_keeps_22 : decode cX12_keeps 22 = .ok (.getfield 518, 3) := by decide +kernel
theorem dX12_keeps_25 : decode cX12_keeps 25 = .ok (.iconst 1, 1) := by decide +kernel
theorem dX12_keeps_26 : decode cX12_keeps 26 = .ok (.isub, 1) := by decide +kernel
theorem dX12_keeps_27 : decode cX12_keeps 27 = .ok (.iaload, 1) := by decide +kernel
theorem dX12_keeps_28 : decode cX12_keeps 28 = .ok (.ireturn, 1) := by decide +kernel
theorem dX12_keeps_29 : decode cX12_keeps 29 = .ok (.aload_n 0, 1) := by decide +kernel
theorem dX12_keeps_30 : decode cX12_keeps 30 = .ok (.getfield 131, 3) := by decide +kernel
theorem dX12_keeps_33 : decode cX12_keeps 33 = .ok (.aload_n 0, 1) := by decide +kernel
theorem dX12_keeps_34 : decode cX12_keeps 34 = .ok (.getfield 518, 3) := by decide +kernel
theorem dX12_keeps_37 : decode cX12_keeps 37 = .ok (.iconst 1, 1) := by decide +kernel
theorem dX12_keeps_38 : decode cX12_keeps 38 = .ok (.isub, 1) := by decide +kernel
theorem dX12_keeps_39 : decode cX12_keeps 39 = .ok (.iload_n 1, 1) := by decide +kernel
theorem dX12_keeps_40 : decode cX12_keeps 40 = .ok (.iastore, 1) := by decide +kernel
theorem dX12_keeps_41 : decode cX12_keeps 41 = .ok (.iload_n 1, 1) := by decide +kernel
theorem dX12_keeps_42 : decode cX12_keeps 42 = .ok (.ireturn, 1) := by decide +kernel
def T_X12_keeps (x1 : Int32) (M : Mm) (K : Int32 → Mm → Prop) : Prop := (∀ M1 : Mm, M1 = m_up M 159 70 ((M 159 70) + (1 : Int32)) → (((M1 159 68) = 0 → (vp_in ((M1 159 70) - (1 : Int32)) 2300 ∧ (K (M1 199 (((M1 159 70) - (1 : Int32))).toNatClampNeg) M1))) ∧ (¬ (M1 159 68) = 0 → (vp_in ((M1 159 70) - (1 : Int32)) 2300 ∧ (∀ M3 : Mm, M3 = m_up M1 199 (((M1 159 70) - (1 : Int32))).toNatClampNeg x1 → (K x1 M3))))))
set_option maxHeartbeats 4000000 in
set_option maxRecDepth 100000 in
theorem c_X12_keeps (l : Launch) (G : fx_G) {x1 : Int32} {M : Mm} {K : Int32 → Mm → Prop} (hT : T_X12_keeps x1 M K) : Met l yX12_keeps (fx_ws yX12_keeps cX12_keeps 2 (some .int)) (fx_rm (0)) (va_Pc [.ref (G.2.2.2 + 159), .int x1] (fx_P G SH M)) (va_Qi K (fx_R G SH) (fx_A G)) 0 0 (fx_A G) := by
  refine fx_met (own := RX12) (by decide +kernel) rfl (Nat.le_of_ble_eq_true rfl) (fun p e s m below meth c X hr hk h ls hl => ?_)
  obtain ⟨⟨hx, hb, hml, hown, hts⟩, hK, hQ⟩ := id X
  have hl : lv_has ls 2 [(0, .ref (G.2.2.2 + 159)), (1, .int x1)] := hl
  unfold T_X12_keeps at hT
  refine lv_aload_n hx hb dX12_keeps_0 rfl (lv_at hl 0 rfl) ?_
  refine lv_aload_n hx hb dX12_keeps_1 rfl (lv_at hl 0 rfl) ?_
  refine fx_getI X h (k := 159) (j := 70) sh_159 rfl fl_RX12_518 dX12_keeps_2 ?_
  refine lv_iconst (v := 1) hx hb dX12_keeps_5 (by decide) ?_
  refine lv_iadd hx hb dX12_keeps_6 ?_
  refine fx_putI X h (k := 159) (j := 70) sh_159 rfl fl_RX12_518 dX12_keeps_7 (fun H locs h => ?_)
  obtain ⟨M1, eM1⟩ : ∃ z : Mm, z = m_up M 159 70 ((M 159 70) + (1 : Int32)) := ⟨_, rfl⟩
  have hT := hT M1 eM1
  rw [← eM1] at h
  refine lv_aload_n hx hb dX12_keeps_10 rfl (lv_at hl 0 rfl) ?_
  refine fx_getI X h (k := 159) (j := 68) sh_159 rfl fl_RX12_521 dX12_keeps_11 ?_
  refine lv_if_ne (tgt := 29) hx hb dX12_keeps_14 (by decide) (fun hc2 => ?_) (fun hc2 => ?_)
  · have hT := hT.2 hc2
    refine lv_aload_n hx hb dX12_keeps_29 rfl (lv_at hl 0 rfl) ?_
    refine fx_getR X h (k := 159) (j := 71) (r := 199) sh_159 rfl fl_RX12_131 dX12_keeps_30 ?_
    refine lv_aload_n hx hb dX12_keeps_33 rfl (lv_at hl 0 rfl) ?_
    refine fx_getI X h (k := 159) (j := 70) sh_159 rfl fl_RX12_518 dX12_keeps_34 ?_
    refine lv_iconst (v := 1) hx hb dX12_keeps_37 (by decide) ?_
    refine lv_isub hx hb dX12_keeps_38 ?_
    refine lv_iload_n hx hb dX12_keeps_39 rfl (lv_at hl 1 rfl) ?_
    obtain ⟨hi4, hT⟩ := hT
    refine fx_iast X h (k := 199) sh_199 hi4 dX12_keeps_40 (fun H locs h => ?_)
    obtain ⟨M3, eM3⟩ : ∃ z : Mm, z = m_up M1 199 (((M1 159 70) - (1 : Int32))).toNatClampNeg x1 := ⟨_, rfl⟩
    have hT := hT M3 eM3
    rw [← eM3] at h
    refine lv_iload_n hx hb dX12_keeps_41 rfl (lv_at hl 1 rfl) ?_
    exact fx_iret X hr hk h hT dX12_keeps_42
  · have hT := hT.1 hc2
    refine lv_aload_n hx hb dX12_keeps_17 rfl (lv_at hl 0 rfl) ?_
    refine fx_getR X h (k := 159) (j := 71) (r := 199) sh_159 rfl fl_RX12_131 dX12_keeps_18 ?_
    refine lv_aload_n hx hb dX12_keeps_21 rfl (lv_at hl 0 rfl) ?_
    refine fx_getI X h (k := 159) (j := 70) sh_159 rfl fl_RX12_518 dX12_keeps_22 ?_
    refine lv_iconst (v := 1) hx hb dX12_keeps_25 (by decide) ?_
    refine lv_isub hx hb dX12_keeps_26 ?_
    obtain ⟨hi5, hT⟩ := hT
    refine fx_iald X h (k := 199) sh_199 hi5 dX12_keeps_27 ?_
    exact fx_iret X hr hk h hT dX12_keeps_28
/-! MockParcelsModel.keepsLaw()V -/
theorem dX12_keepsLaw_0 : decode cX12_keepsLaw 0 = .ok (.aload_n 0, 1) := by decide +kernel
theorem dX12_keepsLaw_1 : decode cX12_keepsLaw 1 = .ok (.getfield 43, 3) := by decide +kernel
theorem dX12_keepsLaw_4 : decode cX12_keepsLaw 4 = .ok (.iconst 0, 1) := by decide +kernel
theorem dX12_keepsLaw_5 : decode cX12_keepsLaw 5 = .ok (.aload_n 0, 1) := by decide +kernel
theorem dX12_keepsLaw_6 : decode cX12_keepsLaw 6 = .ok (.aload_n 0, 1) := by decide +kernel
theorem dX12_keepsLaw_7 : decode cX12_keepsLaw 7 = .ok (.getfield 43, 3) := by decide +kernel
theorem dX12_keepsLaw_10 : decode cX12_keepsLaw 10 = .ok (.iconst 0, 1) := by decide +kernel
theorem dX12_keepsLaw_11 : decode cX12_keepsLaw 11 = .ok (.iaload, 1) := by decide +kernel
theorem dX12_keepsLaw_12 : decode cX12_keepsLaw 12 = .ok (.invokevirtual 524, 3) := by decide +kernel
theorem dX12_keepsLaw_15 : decode cX12_keepsLaw 15 = .ok (.iastore, 1) := by decide +kernel
theorem dX12_keepsLaw_16 : decode cX12_keepsLaw 16 = .ok (.iconst 0, 1) := by decide +kernel
theorem dX12_keepsLaw_17 : decode cX12_keepsLaw 17 = .ok (.istore_n 1, 1) := by decide +kernel
theorem dX12_keepsLaw_18 : decode cX12_keepsLaw 18 = .ok (.iload_n 1, 1) := by decide +kernel
theorem dX12_keepsLaw_19 : decode cX12_keepsLaw 19 = .ok (.bipush 16, 2) := by decide +kernel
theorem dX12_keepsLaw_21 : decode cX12_keepsLaw 21 = .ok (.if_icmp .ge 73, 3) := by decide +kernel
theorem dX12_keepsLaw_24 : decode cX12_keepsLaw 24 = .ok (.aload_n 0, 1) := by decide +kernel
theorem dX12_keepsLaw_25 : decode cX12_keepsLaw 25 = .ok (.getfield 46, 3) := by decide +kernel
theorem dX12_keepsLaw_28 : decode cX12_keepsLaw 28 = .ok (.iload_n 1, 1) := by decide +kernel
theorem dX12_keepsLaw_29 : decode cX12_keepsLaw 29 = .ok (.aload_n 0, 1) := by decide +kernel
theorem dX12_keepsLaw_30 : decode cX12_keepsLaw 30 = .ok (.aload_n 0, 1) := by decide +kernel
theorem dX12_keepsLaw_31 : decode cX12_keepsLaw 31 = .ok (.getfield 46, 3) := by decide +kernel
theorem dX12_keepsLaw_34 : decode cX12_keepsLaw 34 = .ok (.iload_n 1, 1) := by decide +kernel
theorem dX12_keepsLaw_35 : decode cX12_keepsLaw 35 = .ok (.iaload, 1) := by decide +kernel
theorem dX12_keepsLaw_36 : decode cX12_keepsLaw 36 = .ok (.invokevirtual 524, 3) := by decide +kernel
theorem dX12_keepsLaw_39 : decode cX12_keepsLaw 39 = .ok (.iastore, 1) := by decide +kernel
theorem dX12_keepsLaw_40 : decode cX12_keepsLaw 40 = .ok (.aload_n 0, 1) := by decide +kernel
theorem dX12_keepsLaw_41 : decode cX12_keepsLaw 41 = .ok (.getfield 49, 3) := by decide +kernel
theorem dX12_keepsLaw_44 : decode cX12_keepsLaw 44 = .ok (.iload_n 1, 1) := by decide +kernel
theorem dX12_keepsLaw_45 : decode cX12_keepsLaw 45 = .ok (.aload_n 0, 1) := by decide +kernel
theorem dX12_keepsLaw_46 : decode cX12_keepsLaw 46 = .ok (.aload_n 0, 1) := by decide +kernel
theorem dX12_keepsLaw_47 : decode cX12_keepsLaw 47 = .ok (.getfield 49, 3) := by decide +kernel
theorem dX12_keepsLaw_50 : decode cX12_keepsLaw 50 = .ok (.iload_n 1, 1) := by decide +kernel
theorem dX12_keepsLaw_51 : decode cX12_keepsLaw 51 = .ok (.iaload, 1) := by decide +kernel
theorem dX12_keepsLaw_52 : decode cX12_keepsLaw 52 = .ok (.invokevirtual 524, 3) := by decide +kernel
theorem dX12_keepsLaw_55 : decode cX12_keepsLaw 55 = .ok (.iastore, 1) := by decide +kernel
theorem dX12_keepsLaw_56 : decode cX12_keepsLaw 56 = .ok (.aload_n 0, 1) := by decide +kernel
theorem dX12_keepsLaw_57 : decode cX12_keepsLaw 57 = .ok (.getfield 52, 3) := by decide +kernel
theorem dX12_keepsLaw_60 : decode cX12_keepsLaw 60 = .ok (.iload_n 1, 1) := by decide +kernel
theorem dX12_keepsLaw_61 : decode cX12_keepsLaw 61 = .ok (.aload_n 0, 1) := by decide +kernel
theorem dX12_keepsLaw_62 : decode cX12_keepsLaw 62 = .ok (.aload_n 0, 1) := by decide +kernel
theorem dX12_keepsLaw_63 : decode cX12_keepsLaw 63 = .ok (.getfield 52, 3) := by decide +kernel
theorem dX12_keepsLaw_66 : decode cX12_keepsLaw 66 = .ok (.iload_n 1, 1) := by decide +kernel
theorem dX12_keepsLaw_67 : decode cX12_keepsLaw 67 = .ok (.iaload, 1) := by decide +kernel
theorem dX12_keepsLaw_68 : decode cX12_keepsLaw 68 = .ok (.invokevirtual 524, 3) := by decide +kernel
theorem dX12_keepsLaw_71 : decode cX12_keepsLaw 71 = .ok (.iastore, 1) := by decide +kernel
theorem dX12_keepsLaw_72 : decode cX12_keepsLaw 72 = .ok (.aload_n 0, 1) := by decide +kernel
theorem dX12_keepsLaw_73 : decode cX12_keepsLaw 73 = .ok (.getfield 55, 3) := by decide +kernel
theorem dX12_keepsLaw_76 : decode cX12_keepsLaw 76 = .ok (.iload_n 1, 1) := by decide +kernel
theorem dX12_keepsLaw_77 : decode cX12_keepsLaw 77 = .ok (.aload_n 0, 1) := by decide +kernel
theorem dX12_keepsLaw_78 : decode cX12_keepsLaw 78 = .ok (.aload_n 0, 1) := by decide +kernel
theorem dX12_keepsLaw_79 : decode cX12_keepsLaw 79 = .ok (.getfield 55, 3) := by decide +kernel
theorem dX12_keepsLaw_82 : decode cX12_keepsLaw 82 = .ok (.iload_n 1, 1) := by decide +kernel
theorem dX12_keepsLaw_83 : decode cX12_keepsLaw 83 = .ok (.iaload, 1) := by decide +kernel
theorem dX12_keepsLaw_84 : decode cX12_keepsLaw 84 = .ok (.invokevirtual 524, 3) := by decide +kernel
theorem dX12_keepsLaw_87 : decode cX12_keepsLaw 87 = .ok (.iastore, 1) := by decide +kernel
theorem dX12_keepsLaw_88 : decode cX12_keepsLaw 88 = .ok (.iinc 1 1, 3) := by decide +kernel
theorem dX12_keepsLaw_91 : decode cX12_keepsLaw 91 = .ok (.goto (-73), 3) := by decide +kernel
theorem dX12_keepsLaw_94 : decode cX12_keepsLaw 94 = .ok (.iconst 0, 1) := by decide +kernel
theorem dX12_keepsLaw_95 : decode cX12_keepsLaw 95 = .ok (.istore_n 1, 1) := by decide +kernel
theorem dX12_keepsLaw_96 : decode cX12_keepsLaw 96 = .ok (.iload_n 1, 1) := by decide +kernel
theorem dX12_keepsLaw_97 : decode cX12_keepsLaw 97 = .ok (.sipush 400, 3) := by decide +kernel
theorem dX12_keepsLaw_100 : decode cX12_keepsLaw 100 = .ok (.if_icmp .ge 41, 3) := by decide +kernel
theorem dX12_keepsLaw_103 : decode cX12_keepsLaw 103 = .ok (.aload_n 0, 1) := by decide +kernel
theorem dX12_keepsLaw_104 : decode cX12_keepsLaw 104 = .ok (.getfield 58, 3) := by decide +kernel
theorem dX12_keepsLaw_107 : decode cX12_keepsLaw 107 = .ok (.iload_n 1, 1) := by decide +kernel
theorem dX12_keepsLaw_108 : decode cX12_keepsLaw 108 = .ok (.aload_n 0, 1) := by decide +kernel
theorem dX12_keepsLaw_109 : decode cX12_keepsLaw 109 = .ok (.aload_n 0, 1) := by decide +kernel
theorem dX12_keepsLaw_110 : decode cX12_keepsLaw 110 = .ok (.getfield 58, 3) := by decide +kernel
theorem dX12_keepsLaw_113 : decode cX12_keepsLaw 113 = .ok (.iload_n 1, 1) := by decide +kernel
theorem dX12_keepsLaw_114 : decode cX12_keepsLaw 114 = .ok (.iaload, 1) := by decide +kernel
theorem dX12_keepsLaw_115 : decode cX12_keepsLaw 115 = .ok (.invokevirtual 524, 3) := by decide +kernel
theorem dX12_keepsLaw_118 : decode cX12_keepsLaw 118 = .ok (.iastore, 1) := by decide +kernel
theorem dX12_keepsLaw_119 : decode cX12_keepsLaw 119 = .ok (.aload_n 0, 1) := by decide +kernel
theorem dX12_keepsLaw_120 : decode cX12_keepsLaw 120 = .ok (.getfield 61, 3) := by decide +kernel
theorem dX12_keepsLaw_123 : decode cX12_keepsLaw 123 = .ok (.iload_n 1, 1) := by decide +kernel
theorem dX12_keepsLaw_124 : decode cX12_keepsLaw 124 = .ok (.aload_n 0, 1) := by decide +kernel
theorem dX12_keepsLaw_125 : decode cX12_keepsLaw 125 = .ok (.aload_n 0, 1) := by decide +kernel
theorem dX12_keepsLaw_126 : decode cX12_keepsLaw 126 = .ok (.getfield 61, 3) := by decide +kernel
theorem dX12_keepsLaw_129 : decode cX12_keepsLaw 129 = .ok (.iload_n 1, 1) := by decide +kernel
theorem dX12_keepsLaw_130 : decode cX12_keepsLaw 130 = .ok (.iaload, 1) := by decide +kernel
theorem dX12_keepsLaw_131 : decode cX12_keepsLaw 131 = .ok (.invokevirtual 524, 3) := by decide +kernel
theorem dX12_keepsLaw_134 : decode cX12_keepsLaw 134 = .ok (.iastore, 1) := by decide +kernel
theorem dX12_keepsLaw_135 : decode cX12_keepsLaw 135 = .ok (.iinc 1 1, 3) := by decide +kernel
theorem dX12_keepsLaw_138 : decode cX12_keepsLaw 138 = .ok (.goto (-42), 3) := by decide +kernel
theorem dX12_keepsLaw_141 : decode cX12_keepsLaw 141 = .ok (.return_, 1) := by decide +kernel
def T_X12_keepsLaw_96 : Nat → Int32 → Mm → (Mm → Prop) → Prop
  | 0, _, _, _ => False
  | n + 1, x1, M, K => (((400 : Int32) ≤ x1 → (K M)) ∧ (¬ (400 : Int32) ≤ x1 → (vp_in x1 1200 ∧ (T_X12_keeps (M 176 (x1).toNatClampNeg) M (fun r5 M4 => (vp_in x1 1200 ∧ (∀ M6 : Mm, M6 = m_up M4 176 (x1).toNatClampNeg r5 → (vp_in x1 1200 ∧ (T_X12_keeps (M6 177 (x1).toNatClampNeg) M6 (fun r11 M10 => (vp_in x1 1200 ∧ (∀ M12 : Mm, M12 = m_up M10 177 (x1).toNatClampNeg r11 → (∀ y14 : Int32, y14 = x1 + (1 : Int32) → (T_X12_keepsLaw_96 n y14 M12 K))))))))))))))
set_option maxHeartbeats 4000000 in
set_option maxRecDepth 100000 in
theorem w_X12_keepsLaw_96 {p : Program} {l : Launch} {e : Env} {s : State} {m : MethodId} {args : Array Value} {below : List Frame} {meth : Method} {c : Code} {G : fx_G} {K : Mm → Prop} (X : fx_C G p s m c args cX12_keepsLaw 2 RX12) (hr : meth.sig.returnType = none) (hk : meth.locks = false) : ∀ (n : Nat) (x1 : Int32) (M : Mm) (H : Heap) (locs : List Loc) (ls : Array Slot), T_X12_keepsLaw_96 n x1 M K → fx_H G SH M s H locs → lv_has ls 2 [(0, .ref (G.2.2.2 + 159)), (1, .int x1)] → W p l e (fx_rm (1)) s m args below meth c H locs 0 0 (MQ below (va_Qv K (fx_R G SH) (fx_A G)) args s 0 0 (fx_A G)) (F0 m 96 ls []) := by
  obtain ⟨⟨hx, hb, hml, hown, hts⟩, hK, hQ⟩ := id X
  intro n
  induction n with
  | zero =>
    intro x1 M H locs ls hT
    exact hT.elim
  | succ n ih =>
    intro x1 M H locs ls hT h hl
    rw [T_X12_keepsLaw_96] at hT
    refine lv_iload_n hx hb dX12_keepsLaw_96 rfl (lv_at hl 1 rfl) ?_
    refine lv_sipush (v := 400) hx hb dX12_keepsLaw_97 (by decide) ?_
    refine lv_icmp_ge (tgt := 141) hx hb dX12_keepsLaw_100 (by decide) (fun hc1 => ?_) (fun hc1 => ?_)
    · have hT := hT.1 hc1
      exact fx_vret X hr hk h hT dX12_keepsLaw_141
    · have hT := hT.2 hc1
      refine lv_aload_n hx hb dX12_keepsLaw_103 rfl (lv_at hl 0 rfl) ?_
      refine fx_getR X h (k := 159) (j := 26) (r := 176) sh_159 rfl fl_RX12_58 dX12_keepsLaw_104 ?_
      refine lv_iload_n hx hb dX12_keepsLaw_107 rfl (lv_at hl 1 rfl) ?_
      refine lv_aload_n hx hb dX12_keepsLaw_108 rfl (lv_at hl 0 rfl) ?_
      refine lv_aload_n hx hb dX12_keepsLaw_109 rfl (lv_at hl 0 rfl) ?_
      refine fx_getR X h (k := 159) (j := 26) (r := 176) sh_159 rfl fl_RX12_58 dX12_keepsLaw_110 ?_
      refine lv_iload_n hx hb dX12_keepsLaw_113 rfl (lv_at hl 1 rfl) ?_
      obtain ⟨hi2, hT⟩ := hT
      refine fx_iald X h (k := 176) sh_176 hi2 dX12_keepsLaw_114 ?_
      refine fx_vi X h ym_X12_keeps yi_X12_keeps ys_X12_keeps (fx_s9 (List.mem_of_getElem? (i := 116) rfl) rfl) sh_159 rfl (c_X12_keeps l G hT) (As := [.int (M 176 (x1).toNatClampNeg)]) (rest := [.int x1, .ref (G.2.2.2 + 176)]) rfl rfl ⟨Nat.le_of_ble_eq_true rfl, Nat.le_of_ble_eq_true rfl⟩ ⟨Nat.le_refl _, Nat.le_refl _⟩ hl.1 (Nat.le_of_ble_eq_true rfl) dX12_keepsLaw_115 (fun r5 M4 H locs hT h => ?_)
      obtain ⟨hi7, hT⟩ := hT
      refine fx_iast X h (k := 176) sh_176 hi7 dX12_keepsLaw_118 (fun H locs h => ?_)
      obtain ⟨M6, eM6⟩ : ∃ z : Mm, z = m_up M4 176 (x1).toNatClampNeg r5 := ⟨_, rfl⟩
      have hT := hT M6 eM6
      rw [← eM6] at h
      refine lv_aload_n hx hb dX12_keepsLaw_119 rfl (lv_at hl 0 rfl) ?_
      refine fx_getR X h (k := 159) (j := 27) (r := 177) sh_159 rfl fl_RX12_61 dX12_keepsLaw_120 ?_
      refine lv_iload_n hx hb dX12_keepsLaw_123 rfl (lv_at hl 1 rfl) ?_
      refine lv_aload_n hx hb dX12_keepsLaw_124 rfl (lv_at hl 0 rfl) ?_
      refine lv_aload_n hx hb dX12_keepsLaw_125 rfl (lv_at hl 0 rfl) ?_
      refine fx_getR X h (k := 159) (j := 27) (r := 177) sh_159 rfl fl_RX12_61 dX12_keepsLaw_126 ?_
      refine lv_iload_n hx hb dX12_keepsLaw_129 rfl (lv_at hl 1 rfl) ?_
      obtain ⟨hi8, hT⟩ := hT
      refine fx_iald X h (k := 177) sh_177 hi8 dX12_keepsLaw_130 ?_
      refine fx_vi X h ym_X12_keeps yi_X12_keeps ys_X12_keeps (fx_s9 (List.mem_of_getElem? (i := 116) rfl) rfl) sh_159 rfl (c_X12_keeps l G hT) (As := [.int (M6 177 (x1).toNatClampNeg)]) (rest := [.int x1, .ref (G.2.2.2 + 177)]) rfl rfl ⟨Nat.le_of_ble_eq_true rfl, Nat.le_of_ble_eq_true rfl⟩ ⟨Nat.le_refl _, Nat.le_refl _⟩ hl.1 (Nat.le_of_ble_eq_true rfl) dX12_keepsLaw_131 (fun r11 M10 H locs hT h => ?_)
      obtain ⟨hi13, hT⟩ := hT
      refine fx_iast X h (k := 177) sh_177 hi13 dX12_keepsLaw_134 (fun H locs h => ?_)
      obtain ⟨M12, eM12⟩ : ∃ z : Mm, z = m_up M10 177 (x1).toNatClampNeg r11 := ⟨_, rfl⟩
      have hT := hT M12 eM12
      rw [← eM12] at h
      obtain ⟨y14, ey14⟩ : ∃ z : Int32, z = x1 + (1 : Int32) := ⟨_, rfl⟩
      have hT := hT y14 ey14
      refine lv_iinc (v := y14) (lv' := [(1, .int y14), (0, .ref (G.2.2.2 + 159))]) hx hb dX12_keepsLaw_135 hl (k := 1) rfl (by rw [ey14]; rfl) (by decide) rfl (fun ls hl => ?_)
      refine lv_goto (tgt := 96) hx hb dX12_keepsLaw_138 (by decide) ?_
      exact ih y14 M12 _ _ ls hT h (lv_sub hl [1, 0] rfl)
def T_X12_keepsLaw_18 : Nat → Int32 → Mm → (Mm → Prop) → Prop
  | 0, _, _, _ => False
  | n + 1, x1, M, K => (((16 : Int32) ≤ x1 → (T_X12_keepsLaw_96 5000 (0 : Int32) M K)) ∧ (¬ (16 : Int32) ≤ x1 → (vp_in x1 48 ∧ (T_X12_keeps (M 172 (x1).toNatClampNeg) M (fun r19 M18 => (vp_in x1 48 ∧ (∀ M20 : Mm, M20 = m_up M18 172 (x1).toNatClampNeg r19 → (vp_in x1 48 ∧ (T_X12_keeps (M20 173 (x1).toNatClampNeg) M20 (fun r25 M24 => (vp_in x1 48 ∧ (∀ M26 : Mm, M26 = m_up M24 173 (x1).toNatClampNeg r25 → (vp_in x1 48 ∧ (T_X12_keeps (M26 174 (x1).toNatClampNeg) M26 (fun r31 M30 => (vp_in x1 48 ∧ (∀ M32 : Mm, M32 = m_up M30 174 (x1).toNatClampNeg r31 → (vp_in x1 48 ∧ (T_X12_keeps (M32 175 (x1).toNatClampNeg) M32 (fun r37 M36 => (vp_in x1 48 ∧ (∀ M38 : Mm, M38 = m_up M36 175 (x1).toNatClampNeg r37 → (∀ y40 : Int32, y40 = x1 + (1 : Int32) → (T_X12_keepsLaw_18 n y40 M38 K))))))))))))))))))))))))
set_option maxHeartbeats 4000000 in
set_option maxRecDepth 100000 in
theorem w_X12_keepsLaw_18 {p : Program} {l : Launch} {e : Env} {s : State} {m : MethodId} {args : Array Value} {below : List Frame} {meth : Method} {c : Code} {G : fx_G} {K : Mm → Prop} (X : fx_C G p s m c args cX12_keepsLaw 2 RX12) (hr : meth.sig.returnType = none) (hk : meth.locks = false) : ∀ (n : Nat) (x1 : Int32) (M : Mm) (H : Heap) (locs : List Loc) (ls : Array Slot), T_X12_keepsLaw_18 n x1 M K → fx_H G SH M s H locs → lv_has ls 2 [(0, .ref (G.2.2.2 + 159)), (1, .int x1)] → W p l e (fx_rm (1)) s m args below meth c H locs 0 0 (MQ below (va_Qv K (fx_R G SH) (fx_A G)) args s 0 0 (fx_A G)) (F0 m 18 ls []) := by
  obtain ⟨⟨hx, hb, hml, hown, hts⟩, hK, hQ⟩ := id X
  intro n
  induction n with
  | zero =>
    intro x1 M H locs ls hT
    exact hT.elim
  | succ n ih =>
    intro x1 M H locs ls hT h hl
    rw [T_X12_keepsLaw_18] at hT
    refine lv_iload_n hx hb dX12_keepsLaw_18 rfl (lv_at hl 1 rfl) ?_
    refine lv_bipush (v := 16) hx hb dX12_keepsLaw_19 (by decide) ?_
    refine lv_icmp_ge (tgt := 94) hx hb dX12_keepsLaw_21 (by decide) (fun hc15 => ?_) (fun hc15 => ?_)
    · have hT := hT.1 hc15
      refine lv_iconst (v := 0) hx hb dX12_keepsLaw_94 (by decide) ?_
      refine lv_istore_n (lv' := [(1, .int (0 : Int32)), (0, .ref (G.2.2.2 + 159))]) hx hb dX12_keepsLaw_95 rfl hl (by decide) rfl (fun ls hl => ?_)
      exact w_X12_keepsLaw_96 X hr hk 5000 (0 : Int32) M _ _ ls hT h (lv_sub hl [1, 0] rfl)
    · have hT := hT.2 hc15
      refine lv_aload_n hx hb dX12_keepsLaw_24 rfl (lv_at hl 0 rfl) ?_
      refine fx_getR X h (k := 159) (j := 22) (r := 172) sh_159 rfl fl_RX12_46 dX12_keepsLaw_25 ?_
      refine lv_iload_n hx hb dX12_keepsLaw_28 rfl (lv_at hl 1 rfl) ?_
      refine lv_aload_n hx hb dX12_keepsLaw_29 rfl (lv_at hl 0 rfl) ?_
      refine lv_aload_n hx hb dX12_keepsLaw_30 rfl (lv_at hl 0 rfl) ?_
      refine fx_getR X h (k := 159) (j := 22) (r := 172) sh_159 rfl fl_RX12_46 dX12_keepsLaw_31 ?_
      refine lv_iload_n hx hb dX12_keepsLaw_34 rfl (lv_at hl 1 rfl) ?_
      obtain ⟨hi16, hT⟩ := hT
      refine fx_iald X h (k := 172) sh_172 hi16 dX12_keepsLaw_35 ?_
      refine fx_vi X h ym_X12_keeps yi_X12_keeps ys_X12_keeps (fx_s9 (List.mem_of_getElem? (i := 116) rfl) rfl) sh_159 rfl (c_X12_keeps l G hT) (As := [.int (M 172 (x1).toNatClampNeg)]) (rest := [.int x1, .ref (G.2.2.2 + 172)]) rfl rfl ⟨Nat.le_of_ble_eq_true rfl, Nat.le_of_ble_eq_true rfl⟩ ⟨Nat.le_refl _, Nat.le_refl _⟩ hl.1 (Nat.le_of_ble_eq_true rfl) dX12_keepsLaw_36 (fun r19 M18 H locs hT h => ?_)
      obtain ⟨hi21, hT⟩ := hT
      refine fx_iast X h (k := 172) sh_172 hi21 dX12_keepsLaw_39 (fun H locs h => ?_)
      obtain ⟨M20, eM20⟩ : ∃ z : Mm, z = m_up M18 172 (x1).toNatClampNeg r19 := ⟨_, rfl⟩
      have hT := hT M20 eM20
      rw [← eM20] at h
      refine lv_aload_n hx hb dX12_keepsLaw_40 rfl (lv_at hl 0 rfl) ?_
      refine fx_getR X h (k := 159) (j := 23) (r := 173) sh_159 rfl fl_RX12_49 dX12_keepsLaw_41 ?_
      refine lv_iload_n hx hb dX12_keepsLaw_44 rfl (lv_at hl 1 rfl) ?_
      refine lv_aload_n hx hb dX12_keepsLaw_45 rfl (lv_at hl 0 rfl) ?_
      refine lv_aload_n hx hb dX12_keepsLaw_46 rfl (lv_at hl 0 rfl) ?_
      refine fx_getR X h (k := 159) (j := 23) (r := 173) sh_159 rfl fl_RX12_49 dX12_keepsLaw_47 ?_
      refine lv_iload_n hx hb dX12_keepsLaw_50 rfl (lv_at hl 1 rfl) ?_
      obtain ⟨hi22, hT⟩ := hT
      refine fx_iald X h (k := 173) sh_173 hi22 dX12_keepsLaw_51 ?_
      refine fx_vi X h ym_X12_keeps yi_X12_keeps ys_X12_keeps (fx_s9 (List.mem_of_getElem? (i := 116) rfl) rfl) sh_159 rfl (c_X12_keeps l G hT) (As := [.int (M20 173 (x1).toNatClampNeg)]) (rest := [.int x1, .ref (G.2.2.2 + 173)]) rfl rfl ⟨Nat.le_of_ble_eq_true rfl, Nat.le_of_ble_eq_true rfl⟩ ⟨Nat.le_refl _, Nat.le_refl _⟩ hl.1 (Nat.le_of_ble_eq_true rfl) dX12_keepsLaw_52 (fun r25 M24 H locs hT h => ?_)
      obtain ⟨hi27, hT⟩ := hT
      refine fx_iast X h (k := 173) sh_173 hi27 dX12_keepsLaw_55 (fun H locs h => ?_)
      obtain ⟨M26, eM26⟩ : ∃ z : Mm, z = m_up M24 173 (x1).toNatClampNeg r25 := ⟨_, rfl⟩
      have hT := hT M26 eM26
      rw [← eM26] at h
      refine lv_aload_n hx hb dX12_keepsLaw_56 rfl (lv_at hl 0 rfl) ?_
      refine fx_getR X h (k := 159) (j := 24) (r := 174) sh_159 rfl fl_RX12_52 dX12_keepsLaw_57 ?_
      refine lv_iload_n hx hb dX12_keepsLaw_60 rfl (lv_at hl 1 rfl) ?_
      refine lv_aload_n hx hb dX12_keepsLaw_61 rfl (lv_at hl 0 rfl) ?_
      refine lv_aload_n hx hb dX12_keepsLaw_62 rfl (lv_at hl 0 rfl) ?_
      refine fx_getR X h (k := 159) (j := 24) (r := 174) sh_159 rfl fl_RX12_52 dX12_keepsLaw_63 ?_
      refine lv_iload_n hx hb dX12_keepsLaw_66 rfl (lv_at hl 1 rfl) ?_
      obtain ⟨hi28, hT⟩ := hT
      refine fx_iald X h (k := 174) sh_174 hi28 dX12_keepsLaw_67 ?_
      refine fx_vi X h ym_X12_keeps yi_X12_keeps ys_X12_keeps (fx_s9 (List.mem_of_getElem? (i := 116) rfl) rfl) sh_159 rfl (c_X12_keeps l G hT) (As := [.int (M26 174 (x1).toNatClampNeg)]) (rest := [.int x1, .ref (G.2.2.2 + 174)]) rfl rfl ⟨Nat.le_of_ble_eq_true rfl, Nat.le_of_ble_eq_true rfl⟩ ⟨Nat.le_refl _, Nat.le_refl _⟩ hl.1 (Nat.le_of_ble_eq_true rfl) dX12_keepsLaw_68 (fun r31 M30 H locs hT h => ?_)
      obtain ⟨hi33, hT⟩ := hT
      refine fx_iast X h (k := 174) sh_174 hi33 dX12_keepsLaw_71 (fun H locs h => ?_)
      obtain ⟨M32, eM32⟩ : ∃ z : Mm, z = m_up M30 174 (x1).toNatClampNeg r31 := ⟨_, rfl⟩
      have hT := hT M32 eM32
      rw [← eM32] at h
      refine lv_aload_n hx hb dX12_keepsLaw_72 rfl (lv_at hl 0 rfl) ?_
      refine fx_getR X h (k := 159) (j := 25) (r := 175) sh_159 rfl fl_RX12_55 dX12_keepsLaw_73 ?_
      refine lv_iload_n hx hb dX12_keepsLaw_76 rfl (lv_at hl 1 rfl) ?_
      refine lv_aload_n hx hb dX12_keepsLaw_77 rfl (lv_at hl 0 rfl) ?_
      refine lv_aload_n hx hb dX12_keepsLaw_78 rfl (lv_at hl 0 rfl) ?_
      refine fx_getR X h (k := 159) (j := 25) (r := 175) sh_159 rfl fl_RX12_55 dX12_keepsLaw_79 ?_
      refine lv_iload_n hx hb dX12_keepsLaw_82 rfl (lv_at hl 1 rfl) ?_
      obtain ⟨hi34, hT⟩ := hT
      refine fx_iald X h (k := 175) sh_175 hi34 dX12_keepsLaw_83 ?_
      refine fx_vi X h ym_X12_keeps yi_X12_keeps ys_X12_keeps (fx_s9 (List.mem_of_getElem? (i := 116) rfl) rfl) sh_159 rfl (c_X12_keeps l G hT) (As := [.int (M32 175 (x1).toNatClampNeg)]) (rest := [.int x1, .ref (G.2.2.2 + 175)]) rfl rfl ⟨Nat.le_of_ble_eq_true rfl, Nat.le_of_ble_eq_true rfl⟩ ⟨Nat.le_refl _, Nat.le_refl _⟩ hl.1 (Nat.le_of_ble_eq_true rfl) dX12_keepsLaw_84 (fun r37 M36 H locs hT h => ?_)
      obtain ⟨hi39, hT⟩ := hT
      refine fx_iast X h (k := 175) sh_175 hi39 dX12_keepsLaw_87 (fun H locs h => ?_)
      obtain ⟨M38, eM38⟩ : ∃ z : Mm, z = m_up M36 175 (x1).toNatClampNeg r37 := ⟨_, rfl⟩
      have hT := hT M38 eM38
      rw [← eM38] at h
      obtain ⟨y40, ey40⟩ : ∃ z : Int32, z = x1 + (1 : Int32) := ⟨_, rfl⟩
      have hT := hT y40 ey40
      refine lv_iinc (v := y40) (lv' := [(1, .int y40), (0, .ref (G.2.2.2 + 159))]) hx hb dX12_keepsLaw_88 hl (k := 1) rfl (by rw [ey40]; rfl) (by decide) rfl (fun ls hl => ?_)
      refine lv_goto (tgt := 18) hx hb dX12_keepsLaw_91 (by decide) ?_
      exact ih y40 M38 _ _ ls hT h (lv_sub hl [1, 0] rfl)
def T_X12_keepsLaw (M : Mm) (K : Mm → Prop) : Prop := (T_X12_keeps (M 171 0) M (fun r43 M42 => (∀ M44 : Mm, M44 = m_up M42 171 0 r43 → (T_X12_keepsLaw_18 5000 (0 : Int32) M44 K))))
set_option maxHeartbeats 4000000 in
set_option maxRecDepth 100000 in
theorem c_X12_keepsLaw (l : Launch) (G : fx_G) {M : Mm} {K : Mm → Prop} (hT : T_X12_keepsLaw M K) : Met l yX12_keepsLaw (fx_ws yX12_keepsLaw cX12_keepsLaw 2 none) (fx_rm (1)) (va_Pc [.ref (G.2.2.2 + 159)] (fx_P G SH M)) (va_Qv K (fx_R G SH) (fx_A G)) 0 0 (fx_A G) := by
  refine fx_met (own := RX12) (by decide +kernel) rfl (Nat.le_of_ble_eq_true rfl) (fun p e s m below meth c X hr hk h ls hl => ?_)
  obtain ⟨⟨hx, hb, hml, hown, hts⟩, hK, hQ⟩ := id X
  have hl : lv_has ls 2 [(0, .ref (G.2.2.2 + 159))] := hl
  unfold T_X12_keepsLaw at hT
  refine lv_aload_n hx hb dX12_keepsLaw_0 rfl (lv_at hl 0 rfl) ?_
  refine fx_getR X h (k := 159) (j := 21) (r := 171) sh_159 rfl fl_RX12_43 dX12_keepsLaw_1 ?_
  refine lv_iconst (v := 0) hx hb dX12_keepsLaw_4 (by decide) ?_
  refine lv_aload_n hx hb dX12_keepsLaw_5 rfl (lv_at hl 0 rfl) ?_
  refine lv_aload_n hx hb dX12_keepsLaw_6 rfl (lv_at hl 0 rfl) ?_
  refine fx_getR X h (k := 159) (j := 21) (r := 171) sh_159 rfl fl_RX12_43 dX12_keepsLaw_7 ?_
  refine lv_iconst (v := 0) hx hb dX12_keepsLaw_10 (by decide) ?_
  refine fx_iald X h (k := 171) sh_171 (by unfold vp_in; decide) dX12_keepsLaw_11 ?_
  rw [show ((0 : Int32)).toNatClampNeg = 0 by decide]
  refine fx_vi X h ym_X12_keeps yi_X12_keeps ys_X12_keeps (fx_s9 (List.mem_of_getElem? (i := 116) rfl) rfl) sh_159 rfl (c_X12_keeps l G hT) (As := [.int (M 171 0)]) (rest := [.int (0 : Int32), .ref (G.2.2.2 + 171)]) rfl rfl ⟨Nat.le_of_ble_eq_true rfl, Nat.le_of_ble_eq_true rfl⟩ ⟨Nat.le_refl _, Nat.le_refl _⟩ hl.1 (Nat.le_of_ble_eq_true rfl) dX12_keepsLaw_12 (fun r43 M42 H locs hT h => ?_)
  refine fx_iast X h (k := 171) sh_171 (by unfold vp_in; decide) dX12_keepsLaw_15 (fun H locs h => ?_)
  rw [show ((0 : Int32)).toNatClampNeg = 0 by decide] at h
  obtain ⟨M44, eM44⟩ : ∃ z : Mm, z = m_up M42 171 0 r43 := ⟨_, rfl⟩
  have hT := hT M44 eM44
  rw [← eM44] at h
  refine lv_iconst (v := 0) hx hb dX12_keepsLaw_16 (by decide) ?_
  refine lv_istore_n (lv' := [(1, .int (0 : Int32)), (0, .ref (G.2.2.2 + 159))]) hx hb dX12_keepsLaw_17 rfl hl (by decide) rfl (fun ls hl => ?_)
  exact w_X12_keepsLaw_18 X hr hk 5000 (0 : Int32) M44 _ _ ls hT h (lv_sub hl [1, 0] rfl)
/-! MockParcelsModel.keepsMany()V -/
theorem dX12_keepsMany_0 : decode cX12_keepsMany 0 = .ok (.aload_n 0, 1) := by decide +kernel
theorem dX12_keepsMany_1 : decode cX12_keepsMany 1 = .ok (.aload_n 0, 1) := by decide +kernel
theorem dX12_keepsMany_2 : decode cX12_keepsMany 2 = .ok (.aload_n 0, 1) := by decide +kernel
theorem dX12_keepsMany_3 : decode cX12_keepsMany 3 = .ok (.getfield 147, 3) := by decide +kernel
theorem dX12_keepsMany_6 : decode cX12_keepsMany 6 = .ok (.invokevirtual 524, 3) := by decide +kernel
theorem dX12_keepsMany_9 : decode cX12_keepsMany 9 = .ok (.putfield 147, 3) := by decide +kernel
theorem dX12_keepsMany_12 : decode cX12_keepsMany 12 = .ok (.aload_n 0, 1) := by decide +kernel
theorem dX12_keepsMany_13 : decode cX12_keepsMany 13 = .ok (.aload_n 0, 1) := by decide +kernel
theorem dX12_keepsMany_14 : decode cX12_keepsMany 14 = .ok (.aload_n 0, 1) := by decide +kernel
theorem dX12_keepsMany_15 : decode cX12_keepsMany 15 = .ok (.getfield 150, 3) := by decide +kernel
theorem dX12_keepsMany_18 : decode cX12_keepsMany 18 = .ok (.invokevirtual 524, 3) := by decide +kernel
theorem dX12_keepsMany_21 : decode cX12_keepsMany 21 = .ok (.putfield 150, 3) := by decide +kernel
theorem dX12_keepsMany_24 : decode cX12_keepsMany 24 = .ok (.aload_n 0, 1) := by decide +kernel
theorem dX12_keepsMany_25 : decode cX12_keepsMany 25 = .ok (.aload_n 0, 1) := by decide +kernel
theorem dX12_keepsMany_26 : decode cX12_keepsMany 26 = .ok (.aload_n 0, 1) := by decide +kernel
theorem dX12_keepsMany_27 : decode cX12_keepsMany 27 = .ok (.getfield 309, 3) := by decide +kernel
theorem dX12_keepsMany_30 : decode cX12_keepsMany 30 = .ok (.invokevirtual 524, 3) := by decide +kernel
theorem dX12_keepsMany_33 : decode cX12_keepsMany 33 = .ok (.putfield 309, 3) := by decide +kernel
theorem dX12_keepsMany_36 : decode cX12_keepsMany 36 = .ok (.aload_n 0, 1) := by decide +kernel
theorem dX12_keepsMany_37 : decode cX12_keepsMany 37 = .ok (.aload_n 0, 1) := by decide +kernel
theorem dX12_keepsMany_38 : decode cX12_keepsMany 38 = .ok (.aload_n 0, 1) := by decide +kernel
theorem dX12_keepsMany_39 : decode cX12_keepsMany 39 = .ok (.getfield 312, 3) := by decide +kernel
theorem dX12_keepsMany_42 : decode cX12_keepsMany 42 = .ok (.invokevirtual 524, 3) := by decide +kernel
theorem dX12_keepsMany_45 : decode cX12_keepsMany 45 = .ok (.putfield 312, 3) := by decide +kernel
theorem dX12_keepsMany_48 : decode cX12_keepsMany 48 = .ok (.aload_n 0, 1) := by decide +kernel
theorem dX12_keepsMany_49 : decode cX12_keepsMany 49 = .ok (.aload_n 0, 1) := by decide +kernel
theorem dX12_keepsMany_50 : decode cX12_keepsMany 50 = .ok (.aload_n 0, 1) := by decide +kernel
theorem dX12_keepsMany_51 : decode cX12_keepsMany 51 = .ok (.getfield 306, 3) := by decide +kernel
theorem dX12_keepsMany_54 : decode cX12_keepsMany 54 = .ok (.invokevirtual 524, 3) := by decide +kernel
theorem dX12_keepsMany_57 : decode cX12_keepsMany 57 = .ok (.putfield 306, 3) := by decide +kernel
theorem dX12_keepsMany_60 : decode cX12_keepsMany 60 = .ok (.aload_n 0, 1) := by decide +kernel
theorem dX12_keepsMany_61 : decode cX12_keepsMany 61 = .ok (.aload_n 0, 1) := by decide +kernel
theorem dX12_keepsMany_62 : decode cX12_keepsMany 62 = .ok (.aload_n 0, 1) := by decide +kernel
theorem dX12_keepsMany_63 : decode cX12_keepsMany 63 = .ok (.getfield 436, 3) := by decide +kernel
theorem dX12_keepsMany_66 : decode cX12_keepsMany 66 = .ok (.invokevirtual 524, 3) := by decide +kernel
theorem dX12_keepsMany_69 : decode cX12_keepsMany 69 = .ok (.putfield 436, 3) := by decide +kernel
theorem dX12_keepsMany_72 : decode cX12_keepsMany 72 = .ok (.aload_n 0, 1) := by decide +kernel
theorem dX12_keepsMany_73 : decode cX12_keepsMany 73 = .ok (.aload_n 0, 1) := by decide +kernel
theorem dX12_keepsMany_74 : decode cX12_keepsMany 74 = .ok (.aload_n 0, 1) := by decide +kernel
theorem dX12_keepsMany_75 : decode cX12_keepsMany 75 = .ok (.getfield 439, 3) := by decide +kernel
theorem dX12_keepsMany_78 : decode cX12_keepsMany 78 = .ok (.invokevirtual 524, 3) := by decide +kernel
theorem dX12_keepsMany_81 : decode cX12_keepsMany 81 = .ok (.putfield 439, 3) := by decide +kernel
theorem dX12_keepsMany_84 : decode cX12_keepsMany 84 = .ok (.aload_n 0, 1) := by decide +kernel
theorem dX12_keepsMany_85 : decode cX12_keepsMany 85 = .ok (.aload_n 0, 1) := by decide +kernel
theorem dX12_keepsMany_86 : decode cX12_keepsMany 86 = .ok (.aload_n 0, 1) := by decide +kernel
theorem dX12_keepsMany_87 : decode cX12_keepsMany 87 = .ok (.getfield 474, 3) := by decide +kernel
theorem dX12_keepsMany_90 : decode cX12_keepsMany 90 = .ok (.invokevirtual 524, 3) := by decide +kernel
theorem dX12_keepsMany_93 : decode cX12_keepsMany 93 = .ok (.putfield 474, 3) := by decide +kernel
theorem dX12_keepsMany_96 : decode cX12_keepsMany 96 = .ok (.aload_n 0, 1) := by decide +kernel
theorem dX12_keepsMany_97 : decode cX12_keepsMany 97 = .ok (.aload_n 0, 1) := by decide +kernel
theorem dX12_keepsMany_98 : decode cX12_keepsMany 98 = .ok (.aload_n 0, 1) := by decide +kernel
theorem dX12_keepsMany_99 : decode cX12_keepsMany 99 = .ok (.getfield 483, 3) := by decide +kernel
theorem dX12_keepsMany_102 : decode cX12_keepsMany 102 = .ok (.invokevirtual 524, 3) := by decide +kernel
theorem dX12_keepsMany_105 : decode cX12_keepsMany 105 = .ok (.putfield 483, 3) := by decide +kernel
theorem dX12_keepsMany_108 : decode cX12_keepsMany 108 = .ok (.aload_n 0, 1) := by decide +kernel
theorem dX12_keepsMany_109 : decode cX12_keepsMany 109 = .ok (.aload_n 0, 1) := by decide +kernel
theorem dX12_keepsMany_110 : decode cX12_keepsMany 110 = .ok (.aload_n 0, 1) := by decide +kernel
theorem dX12_keepsMany_111 : decode cX12_keepsMany 111 = .ok (.getfield 493, 3) := by decide +kernel
theorem dX12_keepsMany_114 : decode cX12_keepsMany 114 = .ok (.invokevirtual 524, 3) := by decide +kernel
theorem dX12_keepsMany_117 : decode cX12_keepsMany 117 = .ok (.putfield 493, 3) := by decide +kernel
theorem dX12_keepsMany_120 : decode cX12_keepsMany 120 = .ok (.return_, 1) := by decide +kernel
def T_X12_keepsMany (M : Mm) (K : Mm → Prop) : Prop := (T_X12_keeps (M 159 6) M (fun r3 M2 => (∀ M4 : Mm, M4 = m_up M2 159 6 r3 → (T_X12_keeps (M4 159 7) M4 (fun r7 M6 => (∀ M8 : Mm, M8 = m_up M6 159 7 r7 → (T_X12_keeps (M8 159 37) M8 (fun r11 M10 => (∀ M12 : Mm, M12 = m_up M10 159 37 r11 → (T_X12_keeps (M12 159 39) M12 (fun r15 M14 => (∀ M16 : Mm, M16 = m_up M14 159 39 r15 → (T_X12_keeps (M16 159 41) M16 (fun r19 M18 => (∀ M20 : Mm, M20 = m_up M18 159 41 r19 → (T_X12_keeps (M20 159 51) M20 (fun r23 M22 => (∀ M24 : Mm, M24 = m_up M22 159 51 r23 → (T_X12_keeps (M24 159 53) M24 (fun r27 M26 => (∀ M28 : Mm, M28 = m_up M26 159 53 r27 → (T_X12_keeps (M28 159 59) M28 (fun r31 M30 => (∀ M32 : Mm, M32 = m_up M30 159 59 r31 → (T_X12_keeps (M32 159 62) M32 (fun r35 M34 => (∀ M36 : Mm, M36 = m_up M34 159 62 r35 → (T_X12_keeps (M36 159 65) M36 (fun r39 M38 => (∀ M40 : Mm, M40 = m_up M38 159 65 r39 → (K M40)))))))))))))))))))))))))))))))
set_option maxHeartbeats 4000000 in
set_option maxRecDepth 100000 in
theorem c_X12_keepsMany (l : Launch) (G : fx_G) {M : Mm} {K : Mm → Prop} (hT : T_X12_keepsMany M K) : Met l yX12_keepsMany (fx_ws yX12_keepsMany cX12_keepsMany 1 none) (fx_rm (1)) (va_Pc [.ref (G.2.2.2 + 159)] (fx_P G SH M)) (va_Qv K (fx_R G SH) (fx_A G)) 0 0 (fx_A G) := by
  refine fx_met (own := RX12) (by decide +kernel) rfl (Nat.le_of_ble_eq_true rfl) (fun p e s m below meth c X hr hk h ls hl => ?_)
  obtain ⟨⟨hx, hb, hml, hown, hts⟩, hK, hQ⟩ := id X
  have hl : lv_has ls 1 [(0, .ref (G.2.2.2 + 159))] := hl
  unfold T_X12_keepsMany at hT
  refine lv_aload_n hx hb dX12_keepsMany_0 rfl (lv_at hl 0 rfl) ?_
  refine lv_aload_n hx hb dX12_keepsMany_1 rfl (lv_at hl 0 rfl) ?_
  refine lv_aload_n hx hb dX12_keepsMany_2 rfl (lv_at hl 0 rfl) ?_
  refine fx_getI X h (k := 159) (j := 6) sh_159 rfl fl_RX12_147 dX12_keepsMany_3 ?_
  refine fx_vi X h ym_X12_keeps yi_X12_keeps ys_X12_keeps (fx_s9 (List.mem_of_getElem? (i := 116) rfl) rfl) sh_159 rfl (c_X12_keeps l G hT) (As := [.int (M 159 6)]) (rest := [.ref (G.2.2.2 + 159)]) rfl rfl ⟨Nat.le_of_ble_eq_true rfl, Nat.le_of_ble_eq_true rfl⟩ ⟨Nat.le_refl _, Nat.le_refl _⟩ hl.1 (Nat.le_of_ble_eq_true rfl) dX12_keepsMany_6 (fun r3 M2 H locs hT h => ?_)
  refine fx_putI X h (k := 159) (j := 6) sh_159 rfl fl_RX12_147 dX12_keepsMany_9 (fun H locs h => ?_)
  obtain ⟨M4, eM4⟩ : ∃ z : Mm, z = m_up M2 159 6 r3 := ⟨_, rfl⟩
  have hT := hT M4 eM4
  rw [← eM4] at h
  refine lv_aload_n hx hb dX12_keepsMany_12 rfl (lv_at hl 0 rfl) ?_
  refine lv_aload_n hx hb dX12_keepsMany_13 rfl (lv_at hl 0 rfl) ?_
  refine lv_aload_n hx hb dX12_keepsMany_14 rfl (lv_at hl 0 rfl) ?_
  refine fx_getI X h (k := 159) (j := 7) sh_159 rfl fl_RX12_150 dX12_keepsMany_15 ?_
  refine fx_vi X h ym_X12_keeps yi_X12_keeps ys_X12_keeps (fx_s9 (List.mem_of_getElem? (i := 116) rfl) rfl) sh_159 rfl (c_X12_keeps l G hT) (As := [.int (M4 159 7)]) (rest := [.ref (G.2.2.2 + 159)]) rfl rfl ⟨Nat.le_of_ble_eq_true rfl, Nat.le_of_ble_eq_true rfl⟩ ⟨Nat.le_refl _, Nat.le_refl _⟩ hl.1 (Nat.le_of_ble_eq_true rfl) dX12_keepsMany_18 (fun r7 M6 H locs hT h => ?_)
  refine fx_putI X h (k := 159) (j := 7) sh_159 rfl fl_RX12_150 dX12_keepsMany_21 (fun H locs h => ?_)
  obtain ⟨M8, eM8⟩ : ∃ z : Mm, z = m_up M6 159 7 r7 := ⟨_, rfl⟩
  have hT := hT M8 eM8
  rw [← eM8] at h
  refine lv_aload_n hx hb dX12_keepsMany_24 rfl (lv_at hl 0 rfl) ?_
  refine lv_aload_n hx hb dX12_keepsMany_25 rfl (lv_at hl 0 rfl) ?_
  refine lv_aload_n hx hb dX12_keepsMany_26 rfl (lv_at hl 0 rfl) ?_
  refine fx_getI X h (k := 159) (j := 37) sh_159 rfl fl_RX12_309 dX12_keepsMany_27 ?_
  refine fx_vi X h ym_X12_keeps yi_X12_keeps ys_X12_keeps (fx_s9 (List.mem_of_getElem? (i := 116) rfl) rfl) sh_159 rfl (c_X12_keeps l G hT) (As := [.int (M8 159 37)]) (rest := [.ref (G.2.2.2 + 159)]) rfl rfl ⟨Nat.le_of_ble_eq_true rfl, Nat.le_of_ble_eq_true rfl⟩ ⟨Nat.le_refl _, Nat.le_refl _⟩ hl.1 (Nat.le_of_ble_eq_true rfl) dX12_keepsMany_30 (fun r11 M10 H locs hT h => ?_)
  refine fx_putI X h (k := 159) (j := 37) sh_159 rfl fl_RX12_309 dX12_keepsMany_33 (fun H locs h => ?_)
  obtain ⟨M12, eM12⟩ : ∃ z : Mm, z = m_up M10 159 37 r11 := ⟨_, rfl⟩
  have hT := hT M12 eM12
  rw [← eM12] at h
  refine lv_aload_n hx hb dX12_keepsMany_36 rfl (lv_at hl 0 rfl) ?_
  refine lv_aload_n hx hb dX12_keepsMany_37 rfl (lv_at hl 0 rfl) ?_
  refine lv_aload_n hx hb dX12_keepsMany_38 rfl (lv_at hl 0 rfl) ?_
  refine fx_getI X h (k := 159) (j := 39) sh_159 rfl fl_RX12_312 dX12_keepsMany_39 ?_
  refine fx_vi X h ym_X12_keeps yi_X12_keeps ys_X12_keeps (fx_s9 (List.mem_of_getElem? (i := 116) rfl) rfl) sh_159 rfl (c_X12_keeps l G hT) (As := [.int (M12 159 39)]) (rest := [.ref (G.2.2.2 + 159)]) rfl rfl ⟨Nat.le_of_ble_eq_true rfl, Nat.le_of_ble_eq_true rfl⟩ ⟨Nat.le_refl _, Nat.le_refl _⟩ hl.1 (Nat.le_of_ble_eq_true rfl) dX12_keepsMany_42 (fun r15 M14 H locs hT h => ?_)
  refine fx_putI X h (k := 159) (j := 39) sh_159 rfl fl_RX12_312 dX12_keepsMany_45 (fun H locs h => ?_)
  obtain ⟨M16, eM16⟩ : ∃ z : Mm, z = m_up M14 159 39 r15 := ⟨_, rfl⟩
  have hT := hT M16 eM16
  rw [← eM16] at h
  refine lv_aload_n hx hb dX12_keepsMany_48 rfl (lv_at hl 0 rfl) ?_
  refine lv_aload_n hx hb dX12_keepsMany_49 rfl (lv_at hl 0 rfl) ?_
  refine lv_aload_n hx hb dX12_keepsMany_50 rfl (lv_at hl 0 rfl) ?_
  refine fx_getI X h (k := 159) (j := 41) sh_159 rfl fl_RX12_306 dX12_keepsMany_51 ?_
  refine fx_vi X h ym_X12_keeps yi_X12_keeps ys_X12_keeps (fx_s9 (List.mem_of_getElem? (i := 116) rfl) rfl) sh_159 rfl (c_X12_keeps l G hT) (As := [.int (M16 159 41)]) (rest := [.ref (G.2.2.2 + 159)]) rfl rfl ⟨Nat.le_of_ble_eq_true rfl, Nat.le_of_ble_eq_true rfl⟩ ⟨Nat.le_refl _, Nat.le_refl _⟩ hl.1 (Nat.le_of_ble_eq_true rfl) dX12_keepsMany_54 (fun r19 M18 H locs hT h => ?_)
  refine fx_putI X h (k := 159) (j := 41) sh_159 rfl fl_RX12_306 dX12_keepsMany_57 (fun H locs h => ?_)
  obtain ⟨M20, eM20⟩ : ∃ z : Mm, z = m_up M18 159 41 r19 := ⟨_, rfl⟩
  have hT := hT M20 eM20
  rw [← eM20] at h
  refine lv_aload_n hx hb dX12_keepsMany_60 rfl (lv_at hl 0 rfl) ?_
  refine lv_aload_n hx hb dX12_keepsMany_61 rfl (lv_at hl 0 rfl) ?_
  refine lv_aload_n hx hb dX12_keepsMany_62 rfl (lv_at hl 0 rfl) ?_
  refine fx_getI X h (k := 159) (j := 51) sh_159 rfl fl_RX12_436 dX12_keepsMany_63 ?_
  refine fx_vi X h ym_X12_keeps yi_X12_keeps ys_X12_keeps (fx_s9 (List.mem_of_getElem? (i := 116) rfl) rfl) sh_159 rfl (c_X12_keeps l G hT) (As := [.int (M20 159 51)]) (rest := [.ref (G.2.2.2 + 159)]) rfl rfl ⟨Nat.le_of_ble_eq_true rfl, Nat.le_of_ble_eq_true rfl⟩ ⟨Nat.le_refl _, Nat.le_refl _⟩ hl.1 (Nat.le_of_ble_eq_true rfl) dX12_keepsMany_66 (fun r23 M22 H locs hT h => ?_)
  refine fx_putI X h (k := 159) (j := 51) sh_159 rfl fl_RX12_436 dX12_keepsMany_69 (fun H locs h => ?_)
  obtain ⟨M24, eM24⟩ : ∃ z : Mm, z = m_up M22 159 51 r23 := ⟨_, rfl⟩
  have hT := hT M24 eM24
  rw [← eM24] at h
  refine lv_aload_n hx hb dX12_keepsMany_72 rfl (lv_at hl 0 rfl) ?_
  refine lv_aload_n hx hb dX12_keepsMany_73 rfl (lv_at hl 0 rfl) ?_
  refine lv_aload_n hx hb dX12_keepsMany_74 rfl (lv_at hl 0 rfl) ?_
  refine fx_getI X h (k := 159) (j := 53) sh_159 rfl fl_RX12_439 dX12_keepsMany_75 ?_
  refine fx_vi X h ym_X12_keeps yi_X12_keeps ys_X12_keeps (fx_s9 (List.mem_of_getElem? (i := 116) rfl) rfl) sh_159 rfl (c_X12_keeps l G hT) (As := [.int (M24 159 53)]) (rest := [.ref (G.2.2.2 + 159)]) rfl rfl ⟨Nat.le_of_ble_eq_true rfl, Nat.le_of_ble_eq_true rfl⟩ ⟨Nat.le_refl _, Nat.le_refl _⟩ hl.1 (Nat.le_of_ble_eq_true rfl) dX12_keepsMany_78 (fun r27 M26 H locs hT h => ?_)
  refine fx_putI X h (k := 159) (j := 53) sh_159 rfl fl_RX12_439 dX12_keepsMany_81 (fun H locs h => ?_)
  obtain ⟨M28, eM28⟩ : ∃ z : Mm, z = m_up M26 159 53 r27 := ⟨_, rfl⟩
  have hT := hT M28 eM28
  rw [← eM28] at h
  refine lv_aload_n hx hb dX12_keepsMany_84 rfl (lv_at hl 0 rfl) ?_
  refine lv_aload_n hx hb dX12_keepsMany_85 rfl (lv_at hl 0 rfl) ?_
  refine lv_aload_n hx hb dX12_keepsMany_86 rfl (lv_at hl 0 rfl) ?_
  refine fx_getI X h (k := 159) (j := 59) sh_159 rfl fl_RX12_474 dX12_keepsMany_87 ?_
  refine fx_vi X h ym_X12_keeps yi_X12_keeps ys_X12_keeps (fx_s9 (List.mem_of_getElem? (i := 116) rfl) rfl) sh_159 rfl (c_X12_keeps l G hT) (As := [.int (M28 159 59)]) (rest := [.ref (G.2.2.2 + 159)]) rfl rfl ⟨Nat.le_of_ble_eq_true rfl, Nat.le_of_ble_eq_true rfl⟩ ⟨Nat.le_refl _, Nat.le_refl _⟩ hl.1 (Nat.le_of_ble_eq_true rfl) dX12_keepsMany_90 (fun r31 M30 H locs hT h => ?_)
  refine fx_putI X h (k := 159) (j := 59) sh_159 rfl fl_RX12_474 dX12_keepsMany_93 (fun H locs h => ?_)
  obtain ⟨M32, eM32⟩ : ∃ z : Mm, z = m_up M30 159 59 r31 := ⟨_, rfl⟩
  have hT := hT M32 eM32
  rw [← eM32] at h
  refine lv_aload_n hx hb dX12_keepsMany_96 rfl (lv_at hl 0 rfl) ?_
  refine lv_aload_n hx hb dX12_keepsMany_97 rfl (lv_at hl 0 rfl) ?_
  refine lv_aload_n hx hb dX12_keepsMany_98 rfl (lv_at hl 0 rfl) ?_
  refine fx_getI X h (k := 159) (j := 62) sh_159 rfl fl_RX12_483 dX12_keepsMany_99 ?_
  refine fx_vi X h ym_X12_keeps yi_X12_keeps ys_X12_keeps (fx_s9 (List.mem_of_getElem? (i := 116) rfl) rfl) sh_159 rfl (c_X12_keeps l G hT) (As := [.int (M32 159 62)]) (rest := [.ref (G.2.2.2 + 159)]) rfl rfl ⟨Nat.le_of_ble_eq_true rfl, Nat.le_of_ble_eq_true rfl⟩ ⟨Nat.le_refl _, Nat.le_refl _⟩ hl.1 (Nat.le_of_ble_eq_true rfl) dX12_keepsMany_102 (fun r35 M34 H locs hT h => ?_)
  refine fx_putI X h (k := 159) (j := 62) sh_159 rfl fl_RX12_483 dX12_keepsMany_105 (fun H locs h => ?_)
  obtain ⟨M36, eM36⟩ : ∃ z : Mm, z = m_up M34 159 62 r35 := ⟨_, rfl⟩
  have hT := hT M36 eM36
  rw [← eM36] at h
  refine lv_aload_n hx hb dX12_keepsMany_108 rfl (lv_at hl 0 rfl) ?_
  refine lv_aload_n hx hb dX12_keepsMany_109 rfl (lv_at hl 0 rfl) ?_
  refine lv_aload_n hx hb dX12_keepsMany_110 rfl (lv_at hl 0 rfl) ?_
  refine fx_getI X h (k := 159) (j := 65) sh_159 rfl fl_RX12_493 dX12_keepsMany_111 ?_
  refine fx_vi X h ym_X12_keeps yi_X12_keeps ys_X12_keeps (fx_s9 (List.mem_of_getElem? (i := 116) rfl) rfl) sh_159 rfl (c_X12_keeps l G hT) (As := [.int (M36 159 65)]) (rest := [.ref (G.2.2.2 + 159)]) rfl rfl ⟨Nat.le_of_ble_eq_true rfl, Nat.le_of_ble_eq_true rfl⟩ ⟨Nat.le_refl _, Nat.le_refl _⟩ hl.1 (Nat.le_of_ble_eq_true rfl) dX12_keepsMany_114 (fun r39 M38 H locs hT h => ?_)
  refine fx_putI X h (k := 159) (j := 65) sh_159 rfl fl_RX12_493 dX12_keepsMany_117 (fun H locs h => ?_)
  obtain ⟨M40, eM40⟩ : ∃ z : Mm, z = m_up M38 159 65 r39 := ⟨_, rfl⟩
  have hT := hT M40 eM40
  rw [← eM40] at h
  exact fx_vret X hr hk h hT dX12_keepsMany_120
/-! MockParcelsModel.keepsTold()V -/
theorem dX12_keepsTold_0 : decode cX12_keepsTold 0 = .ok (.iconst 0, 1) := by decide +kernel
theorem dX12_keepsTold_1 : decode cX12_keepsTold 1 = .ok (.istore_n 1, 1) := by decide +kernel
theorem dX12_keepsTold_2 : decode cX12_keepsTold 2 = .ok (.iload_n 1, 1) := by decide +kernel
theorem dX12_keepsTold_3 : decode cX12_keepsTold 3 = .ok (.bipush 16, 2) := by decide +kernel
theorem dX12_keepsTold_5 : decode cX12_keepsTold 5 = .ok (.if_icmp .ge 57, 3) := by decide +kernel
theorem dX12_keepsTold_8 : decode cX12_keepsTold 8 = .ok (.aload_n 0, 1) := by decide +kernel
theorem dX12_keepsTold_9 : decode cX12_keepsTold 9 = .ok (.getfield 19, 3) := by decide +kernel
theorem dX12_keepsTold_12 : decode cX12_keepsTold 12 = .ok (.iload_n 1, 1) := by decide +kernel
theorem dX12_keepsTold_13 : decode cX12_keepsTold 13 = .ok (.aload_n 0, 1) := by decide +kernel
theorem dX12_keepsTold_14 : decode cX12_keepsTold 14 = .ok (.aload_n 0, 1) := by decide +kernel
theorem dX12_keepsTold_15 : decode cX12_keepsTold 15 = .ok (.getfield 19, 3) := by decide +kernel
theorem dX12_keepsTold_18 : decode cX12_keepsTold 18 = .ok (.iload_n 1, 1) := by decide +kernel
theorem dX12_keepsTold_19 : decode cX12_keepsTold 19 = .ok (.iaload, 1) := by decide +kernel
theorem dX12_keepsTold_20 : decode cX12_keepsTold 20 = .ok (.invokevirtual 524, 3) := by decide +kernel
theorem dX12_keepsTold_23 : decode cX12_keepsTold 23 = .ok (.iastore, 1) := by decide +kernel
theorem dX12_keepsTold_24 : decode cX12_keepsTold 24 = .ok (.aload_n 0, 1) := by decide +kernel
theorem dX12_keepsTold_25 : decode cX12_keepsTold 25 = .ok (.getfield 22, 3) := by decide +kernel
theorem dX12_keepsTold_28 : decode cX12_keepsTold 28 = .ok (.iload_n 1, 1) := by decide +kernel
theorem dX12_keepsTold_29 : decode cX12_keepsTold 29 = .ok (.aload_n 0, 1) := by decide +kernel
theorem dX12_keepsTold_30 : decode cX12_keepsTold 30 = .ok (.aload_n 0, 1) := by decide +kernel
theorem dX12_keepsTold_31 : decode cX12_keepsTold 31 = .ok (.getfield 22, 3) := by decide +kernel
theorem dX12_keepsTold_34 : decode cX12_keepsTold 34 = .ok (.iload_n 1, 1) := by decide +kernel
theorem dX12_keepsTold_35 : decode cX12_keepsTold 35 = .ok (.iaload, 1) := by decide +kernel
theorem dX12_keepsTold_36 : decode cX12_keepsTold 36 = .ok (.invokevirtual 524, 3) := by decide +kernel
theorem dX12_keepsTold_39 : decode cX12_keepsTold 39 = .ok (.iastore, 1) := by decide +kernel
theorem dX12_keepsTold_40 : decode cX12_keepsTold 40 = .ok (.aload_n 0, 1) := by decide +kernel
theorem dX12_keepsTold_41 : decode cX12_keepsTold 41 = .ok (.getfield 25, 3) := by decide +kernel
theorem dX12_keepsTold_44 : decode cX12_keepsTold 44 = .ok (.iload_n 1, 1) := by decide +kernel
theorem dX12_keepsTold_45 : decode cX12_keepsTold 45 = .ok (.aload_n 0, 1) := by decide +kernel
theorem dX12_keepsTold_46 : decode cX12_keepsTold 46 = .ok (.aload_n 0, 1) := by decide +kernel
theorem dX12_keepsTold_47 : decode cX12_keepsTold 47 = .ok (.getfield 25, 3) := by decide +kernel
theorem dX12_keepsTold_50 : decode cX12_keepsTold 50 = .ok (.iload_n 1, 1) := by decide +kernel
theorem dX12_keepsTold_51 : decode cX12_keepsTold 51 = .ok (.iaload, 1) := by decide +kernel
theorem dX12_keepsTold_52 : decode cX12_keepsTold 52 = .ok (.invokevirtual 524, 3) := by decide +kernel
theorem dX12_keepsTold_55 : decode cX12_keepsTold 55 = .ok (.iastore, 1) := by decide +kernel
theorem dX12_keepsTold_56 : decode cX12_keepsTold 56 = .ok (.iinc 1 1, 3) := by decide +kernel
theorem dX12_keepsTold_59 : decode cX12_keepsTold 59 = .ok (.goto (-57), 3) := by decide +kernel
theorem dX12_keepsTold_62 : decode cX12_keepsTold 62 = .ok (.iconst 0, 1) := by decide +kernel
theorem dX12_keepsTold_63 : decode cX12_keepsTold 63 = .ok (.istore_n 1, 1) := by decide +kernel
theorem dX12_keepsTold_64 : decode cX12_keepsTold 64 = .ok (.iload_n 1, 1) := by decide +kernel
theorem dX12_keepsTold_65 : decode cX12_keepsTold 65 = .ok (.bipush 8, 2) := by decide +kernel
theorem dX12_keepsTold_67 : decode cX12_keepsTold 67 = .ok (.if_icmp .ge 105, 3) := by decide +kernel
theorem dX12_keepsTold_70 : decode cX12_keepsTold 70 = .ok (.aload_n 0, 1) := by decide +kernel
theorem dX12_keepsTold_71 : decode cX12_keepsTold 71 = .ok (.getfield 28, 3) := by decide +kernel
theorem dX12_keepsTold_74 : decode cX12_keepsTold 74 = .ok (.iload_n 1, 1) := by decide +kernel
theorem dX12_keepsTold_75 : decode cX12_keepsTold 75 = .ok (.aload_n 0, 1) := by decide +kernel
theorem dX12_keepsTold_76 : decode cX12_keepsTold 76 = .ok (.aload_n 0, 1) := by decide +kernel
theorem dX12_keepsTold_77 : decode cX12_keepsTold 77 = .ok (.getfield 28, 3) := by decide +kernel
theorem dX12_keepsTold_80 : decode cX12_keepsTold 80 = .ok (.iload_n 1, 1) := by decide +kernel
theorem dX12_keepsTold_81 : decode cX12_keepsTold 81 = .ok (.iaload, 1) := by decide +kernel
theorem dX12_keepsTold_82 : decode cX12_keepsTold 82 = .ok (.invokevirtual 524, 3) := by decide +kernel
theorem dX12_keepsTold_85 : decode cX12_keepsTold 85 = .ok (.iastore, 1) := by decide +kernel
theorem dX12_keepsTold_86 : decode cX12_keepsTold 86 = .ok (.aload_n 0, 1) := by decide +kernel
theorem dX12_keepsTold_87 : decode cX12_keepsTold 87 = .ok (.getfield 31, 3) := by decide +kernel
theorem dX12_keepsTold_90 : decode cX12_keepsTold 90 = .ok (.iload_n 1, 1) := by decide +kernel
theorem dX12_keepsTold_91 : decode cX12_keepsTold 91 = .ok (.aload_n 0, 1) := by decide +kernel
theorem dX12_keepsTold_92 : decode cX12_keepsTold 92 = .ok (.aload_n 0, 1) := by decide +kernel
theorem dX12_keepsTold_93 : decode cX12_keepsTold 93 = .ok (.getfield 31, 3) := by decide +kernel
theorem dX12_keepsTold_96 : decode cX12_keepsTold 96 = .ok (.iload_n 1, 1) := by decide +kernel
theorem dX12_keepsTold_97 : decode cX12_keepsTold 97 = .ok (.iaload, 1) := by decide +kernel
theorem dX12_keepsTold_98 : decode cX12_keepsTold 98 = .ok (.invokevirtual 524, 3) := by decide +kernel
theorem dX12_keepsTold_101 : decode cX12_keepsTold 101 = .ok (.iastore, 1) := by decide +kernel
theorem dX12_keepsTold_102 : decode cX12_keepsTold 102 = .ok (.aload_n 0, 1) := by decide +kernel
theorem dX12_keepsTold_103 : decode cX12_keepsTold 103 = .ok (.getfield 71, 3) := by decide +kernel
theorem dX12_keepsTold_106 : decode cX12_keepsTold 106 = .ok (.iload_n 1, 1) := by decide +kernel
theorem dX12_keepsTold_107 : decode cX12_keepsTold 107 = .ok (.aload_n 0, 1) := by decide +kernel
theorem dX12_keepsTold_108 : decode cX12_keepsTold 108 = .ok (.aload_n 0, 1) := by decide +kernel
theorem dX12_keepsTold_109 : decode cX12_keepsTold 109 = .ok (.getfield 71, 3) := by decide +kernel
theorem dX12_keepsTold_112 : decode cX12_keepsTold 112 = .ok (.iload_n 1, 1) := by decide +kernel
theorem dX12_keepsTold_113 : decode cX12_keepsTold 113 = .ok (.iaload, 1) := by decide +kernel
theorem dX12_keepsTold_114 : decode cX12_keepsTold 114 = .ok (.invokevirtual 524, 3) := by decide +kernel
theorem dX12_keepsTold_117 : decode cX12_keepsTold 117 = .ok (.iastore, 1) := by decide +kernel
theorem dX12_keepsTold_118 : decode cX12_keepsTold 118 = .ok (.aload_n 0, 1) := by decide +kernel
theorem dX12_keepsTold_119 : decode cX12_keepsTold 119 = .ok (.getfield 86, 3) := by decide +kernel
theorem dX12_keepsTold_122 : decode cX12_keepsTold 122 = .ok (.iload_n 1, 1) := by decide +kernel
theorem dX12_keepsTold_123 : decode cX12_keepsTold 123 = .ok (.aload_n 0, 1) := by decide +kernel
theorem dX12_keepsTold_124 : decode cX12_keepsTold 124 = .ok (.aload_n 0, 1) := by decide +kernel
theorem dX12_keepsTold_125 : decode cX12_keepsTold 125 = .ok (.getfield 86, 3) := by decide +kernel
theorem dX12_keepsTold_128 : decode cX12_keepsTold 128 = .ok (.iload_n 1, 1) := by decide +kernel
theorem dX12_keepsTold_129 : decode cX12_keepsTold 129 = .ok (.iaload, 1) := by decide +kernel
theorem dX12_keepsTold_130 : decode cX12_keepsTold 130 = .ok (.invokevirtual 524, 3) := by decide +kernel
theorem dX12_keepsTold_133 : decode cX12_keepsTold 133 = .ok (.iastore, 1) := by decide +kernel
theorem dX12_keepsTold_134 : decode cX12_keepsTold 134 = .ok (.aload_n 0, 1) := by decide +kernel
theorem dX12_keepsTold_135 : decode cX12_keepsTold 135 = .ok (.getfield 119, 3) := by decide +kernel
theorem dX12_keepsTold_138 : decode cX12_keepsTold 138 = .ok (.iload_n 1, 1) := by decide +kernel
theorem dX12_keepsTold_139 : decode cX12_keepsTold 139 = .ok (.aload_n 0, 1) := by decide +kernel
theorem dX12_keepsTold_140 : decode cX12_keepsTold 140 = .ok (.aload_n 0, 1) := by decide +kernel
theorem dX12_keepsTold_141 : decode cX12_keepsTold 141 = .ok (.getfield 119, 3) := by decide +kernel
theorem dX12_keepsTold_144 : decode cX12_keepsTold 144 = .ok (.iload_n 1, 1) := by decide +kernel
theorem dX12_keepsTold_145 : decode cX12_keepsTold 145 = .ok (.iaload, 1) := by decide +kernel
theorem dX12_keepsTold_146 : decode cX12_keepsTold 146 = .ok (.invokevirtual 524, 3) := by decide +kernel
theorem dX12_keepsTold_149 : decode cX12_keepsTold 149 = .ok (.iastore, 1) := by decide +kernel
theorem dX12_keepsTold_150 : decode cX12_keepsTold 150 = .ok (.aload_n 0, 1) := by decide +kernel
theorem dX12_keepsTold_151 : decode cX12_keepsTold 151 = .ok (.getfield 122, 3) := by decide +kernel
theorem dX12_keepsTold_154 : decode cX12_keepsTold 154 = .ok (.iload_n 1, 1) := by decide +kernel
theorem dX12_keepsTold_155 : decode cX12_keepsTold 155 = .ok (.aload_n 0, 1) := by decide +kernel
theorem dX12_keepsTold_156 : decode cX12_keepsTold 156 = .ok (.aload_n 0, 1) := by decide +kernel
theorem dX12_keepsTold_157 : decode cX12_keepsTold 157 = .ok (.getfield 122, 3) := by decide +kernel
theorem dX12_keepsTold_160 : decode cX12_keepsTold 160 = .ok (.iload_n 1, 1) := by decide +kernel
theorem dX12_keepsTold_161 : decode cX12_keepsTold 161 = .ok (.iaload, 1) := by decide +kernel
theorem dX12_keepsTold_162 : decode cX12_keepsTold 162 = .ok (.invokevirtual 524, 3) := by decide +kernel
theorem dX12_keepsTold_165 : decode cX12_keepsTold 165 = .ok (.iastore, 1) := by decide +kernel
theorem dX12_keepsTold_166 : decode cX12_keepsTold 166 = .ok (.iinc 1 1, 3) := by decide +kernel
theorem dX12_keepsTold_169 : decode cX12_keepsTold 169 = .ok (.goto (-105), 3) := by decide +kernel
theorem dX12_keepsTold_172 : decode cX12_keepsTold 172 = .ok (.iconst 0, 1) := by decide +kernel
theorem dX12_keepsTold_173 : decode cX12_keepsTold 173 = .ok (.istore_n 1, 1) := by decide +kernel
theorem dX12_keepsTold_174 : decode cX12_keepsTold 174 = .ok (.iload_n 1, 1) := by decide +kernel
theorem dX12_keepsTold_175 : decode cX12_keepsTold 175 = .ok (.bipush 6, 2) := by decide +kernel
theorem dX12_keepsTold_177 : decode cX12_keepsTold 177 = .ok (.if_icmp .ge 25, 3) := by decide +kernel
theorem dX12_keepsTold_180 : decode cX12_keepsTold 180 = .ok (.aload_n 0, 1) := by decide +kernel
theorem dX12_keepsTold_181 : decode cX12_keepsTold 181 = .ok (.getfield 95, 3) := by decide +kernel
theorem dX12_keepsTold_184 : decode cX12_keepsTold 184 = .ok (.iload_n 1, 1) := by decide +kernel
theorem dX12_keepsTold_185 : decode cX12_keepsTold 185 = .ok (.aload_n 0, 1) := by decide +kernel
theorem dX12_keepsTold_186 : decode cX12_keepsTold 186 = .ok (.aload_n 0, 1) := by decide +kernel
theorem dX12_keepsTold_187 : decode cX12_keepsTold 187 = .ok (.getfield 95, 3) := by decide +kernel
theorem dX12_keepsTold_190 : decode cX12_keepsTold 190 = .ok (.iload_n 1, 1) := by decide +kernel
theorem dX12_keepsTold_191 : decode cX12_keepsTold 191 = .ok (.iaload, 1) := by decide +kernel
theorem dX12_keepsTold_192 : decode cX12_keepsTold 192 = .ok (.invokevirtual 524, 3) := by decide +kernel
theorem dX12_keepsTold_195 : decode cX12_keepsTold 195 = .ok (.iastore, 1) := by decide +kernel
theorem dX12_keepsTold_196 : decode cX12_keepsTold 196 = .ok (.iinc 1 1, 3) := by decide +kernel
theorem dX12_keepsTold_199 : decode cX12_keepsTold 199 = .ok (.goto (-25), 3) := by decide +kernel
theorem dX12_keepsTold_202 : decode cX12_keepsTold 202 = .ok (.iconst 0, 1) := by decide +kernel
theorem dX12_keepsTold_203 : decode cX12_keepsTold 203 = .ok (.istore_n 1, 1) := by decide +kernel
theorem dX12_keepsTold_204 : decode cX12_keepsTold 204 = .ok (.iload_n 1, 1) := by decide +kernel
theorem dX12_keepsTold_205 : decode cX12_keepsTold 205 = .ok (.bipush 7, 2) := by decide +kernel
theorem dX12_keepsTold_207 : decode cX12_keepsTold 207 = .ok (.if_icmp .ge 41, 3) := by decide +kernel
theorem dX12_keepsTold_210 : decode cX12_keepsTold 210 = .ok (.aload_n 0, 1) := by decide +kernel
theorem dX12_keepsTold_211 : decode cX12_keepsTold 211 = .ok (.getfield 113, 3) := by decide +kernel
theorem dX12_keepsTold_214 : decode cX12_keepsTold 214 = .ok (.iload_n 1, 1) := by decide +kernel
theorem dX12_keepsTold_215 : decode cX12_keepsTold 215 = .ok (.aload_n 0, 1) := by decide +kernel
theorem dX12_keepsTold_216 : decode cX12_keepsTold 216 = .ok (.aload_n 0, 1) := by decide +kernel
theorem dX12_keepsTold_217 : decode cX12_keepsTold 217 = .ok (.getfield 113, 3) := by decide +kernel
theorem dX12_keepsTold_220 : decode cX12_keepsTold 220 = .ok (.iload_n 1, 1) := by decide +kernel
theorem dX12_keepsTold_221 : decode cX12_keepsTold 221 = .ok (.iaload, 1) := by decide +kernel
theorem dX12_keepsTold_222 : decode cX12_keepsTold 222 = .ok (.invokevirtual 524, 3) := by decide +kernel
theorem dX12_keepsTold_225 : decode cX12_keepsTold 225 = .ok (.iastore, 1) := by decide +kernel
theorem dX12_keepsTold_226 : decode cX12_keepsTold 226 = .ok (.aload_n 0, 1) := by decide +kernel
theorem dX12_keepsTold_227 : decode cX12_keepsTold 227 = .ok (.getfield 116, 3) := by decide +kernel
theorem dX12_keepsTold_230 : decode cX12_keepsTold 230 = .ok (.iload_n 1, 1) := by decide +kernel
theorem dX12_keepsTold_231 : decode cX12_keepsTold 231 = .ok (.aload_n 0, 1) := by decide +kernel
theorem dX12_keepsTold_232 : decode cX12_keepsTold 232 = .ok (.aload_n 0, 1) := by decide +kernel
theorem dX12_keepsTold_233 : decode cX12_keepsTold 233 = .ok (.getfield 116, 3) := by decide +kernel
theorem dX12_keepsTold_236 : decode cX12_keepsTold 236 = .ok (.iload_n 1, 1) := by decide +kernel
theorem dX12_keepsTold_237 : decode cX12_keepsTold 237 = .ok (.iaload, 1) := by decide +kernel
theorem dX12_keepsTold_238 : decode cX12_keepsTold 238 = .ok (.invokevirtual 524, 3) := by decide +kernel
theorem dX12_keepsTold_241 : decode cX12_keepsTold 241 = .ok (.iastore, 1) := by decide +kernel
theorem dX12_keepsTold_242 : decode cX12_keepsTold 242 = .ok (.iinc 1 1, 3) := by decide +kernel
theorem dX12_keepsTold_245 : decode cX12_keepsTold 245 = .ok (.goto (-41), 3) := by decide +kernel
theorem dX12_keepsTold_248 : decode cX12_keepsTold 248 = .ok (.iconst 0, 1) := by decide +kernel
theorem dX12_keepsTold_249 : decode cX12_keepsTold 249 = .ok (.istore_n 1, 1) := by decide +kernel
theorem dX12_keepsTold_250 : decode cX12_keepsTold 250 = .ok (.iload_n 1, 1) := by decide +kernel
theorem dX12_keepsTold_251 : decode cX12_keepsTold 251 = .ok (.bipush 9, 2) := by decide +kernel
theorem dX12_keepsTold_253 : decode cX12_keepsTold 253 = .ok (.if_icmp .ge 25, 3) := by decide +kernel
theorem dX12_keepsTold_256 : decode cX12_keepsTold 256 = .ok (.aload_n 0, 1) := by decide +kernel
theorem dX12_keepsTold_257 : decode cX12_keepsTold 257 = .ok (.getfield 98, 3) := by decide +kernel
theorem dX12_keepsTold_260 : decode cX12_keepsTold 260 = .ok (.iload_n 1, 1) := by decide +kernel
theorem dX12_keepsTold_261 : decode cX12_keepsTold 261 = .ok (.aload_n 0, 1) := by decide +kernel
theorem dX12_keepsTold_262 : decode cX12_keepsTold 262 = .ok (.aload_n 0, 1) := by decide +kernel
theorem dX12_keepsTold_263 : decode cX12_keepsTold 263 = .ok (.getfield 98, 3) := by decide +kernel
theorem dX12_keepsTold_266 : decode cX12_keepsTold 266 = .ok (.iload_n 1, 1) := by decide +kernel
theorem dX12_keepsTold_267 : decode cX12_keepsTold 267 = .ok (.iaload, 1) := by decide +kernel
theorem dX12_keepsTold_268 : decode cX12_keepsTold 268 = .ok (.invokevirtual 524, 3) := by decide +kernel
theorem dX12_keepsTold_271 : decode cX12_keepsTold 271 = .ok (.iastore, 1) := by decide +kernel
theorem dX12_keepsTold_272 : decode cX12_keepsTold 272 = .ok (.iinc 1 1, 3) := by decide +kernel
theorem dX12_keepsTold_275 : decode cX12_keepsTold 275 = .ok (.goto (-25), 3) := by decide +kernel
theorem dX12_keepsTold_278 : decode cX12_keepsTold 278 = .ok (.iconst 0, 1) := by decide +kernel
theorem dX12_keepsTold_279 : decode cX12_keepsTold 279 = .ok (.istore_n 1, 1) := by decide +kernel
theorem dX12_keepsTold_280 : decode cX12_keepsTold 280 = .ok (.iload_n 1, 1) := by decide +kernel
theorem dX12_keepsTold_281 : decode cX12_keepsTold 281 = .ok (.bipush 20, 2) := by decide +kernel
theorem dX12_keepsTold_283 : decode cX12_keepsTold 283 = .ok (.if_icmp .ge 25, 3) := by decide +kernel
theorem dX12_keepsTold_286 : decode cX12_keepsTold 286 = .ok (.aload_n 0, 1) := by decide +kernel
theorem dX12_keepsTold_287 : decode cX12_keepsTold 287 = .ok (.getfield 125, 3) := by decide +kernel
theorem dX12_keepsTold_290 : decode cX12_keepsTold 290 = .ok (.iload_n 1, 1) := by decide +kernel
theorem dX12_keepsTold_291 : decode cX12_keepsTold 291 = .ok (.aload_n 0, 1) := by decide +kernel
theorem dX12_keepsTold_292 : decode cX12_keepsTold 292 = .ok (.aload_n 0, 1) := by decide +kernel
theorem dX12_keepsTold_293 : decode cX12_keepsTold 293 = .ok (.getfield 125, 3) := by decide +kernel
theorem dX12_keepsTold_296 : decode cX12_keepsTold 296 = .ok (.iload_n 1, 1) := by decide +kernel
theorem dX12_keepsTold_297 : decode cX12_keepsTold 297 = .ok (.iaload, 1) := by decide +kernel
theorem dX12_keepsTold_298 : decode cX12_keepsTold 298 = .ok (.invokevirtual 524, 3) := by decide +kernel
theorem dX12_keepsTold_301 : decode cX12_keepsTold 301 = .ok (.iastore, 1) := by decide +kernel
theorem dX12_keepsTold_302 : decode cX12_keepsTold 302 = .ok (.iinc 1 1, 3) := by decide +kernel
theorem dX12_keepsTold_305 : decode cX12_keepsTold 305 = .ok (.goto (-25), 3) := by decide +kernel
theorem dX12_keepsTold_308 : decode cX12_keepsTold 308 = .ok (.iconst 0, 1) := by decide +kernel
theorem dX12_keepsTold_309 : decode cX12_keepsTold 309 = .ok (.istore_n 1, 1) := by decide +kernel
theorem dX12_keepsTold_310 : decode cX12_keepsTold 310 = .ok (.iload_n 1, 1) := by decide +kernel
theorem dX12_keepsTold_311 : decode cX12_keepsTold 311 = .ok (.bipush 64, 2) := by decide +kernel
theorem dX12_keepsTold_313 : decode cX12_keepsTold 313 = .ok (.if_icmp .ge 57, 3) := by decide +kernel
theorem dX12_keepsTold_316 : decode cX12_keepsTold 316 = .ok (.aload_n 0, 1) := by decide +kernel
theorem dX12_keepsTold_317 : decode cX12_keepsTold 317 = .ok (.getfield 104, 3) := by decide +kernel
theorem dX12_keepsTold_320 : decode cX12_keepsTold 320 = .ok (.iload_n 1, 1) := by decide +kernel
theorem dX12_keepsTold_321 : decode cX12_keepsTold 321 = .ok (.aload_n 0, 1) := by decide +kernel
theorem dX12_keepsTold_322 : decode cX12_keepsTold 322 = .ok (.aload_n 0, 1) := by decide +kernel
theorem dX12_keepsTold_323 : decode cX12_keepsTold 323 = .ok (.getfield 104, 3) := by decide +kernel
theorem dX12_keepsTold_326 : decode cX12_keepsTold 326 = .ok (.iload_n 1, 1) := by decide +kernel
theorem dX12_keepsTold_327 : decode cX12_keepsTold 327 = .ok (.iaload, 1) := by decide +kernel
theorem dX12_keepsTold_328 : decode cX12_keepsTold 328 = .ok (.invokevirtual 524, 3) := by decide +kernel
theorem dX12_keepsTold_331 : decode cX12_keepsTold 331 = .ok (.iastore, 1) := by decide +kernel
theorem dX12_keepsTold_332 : decode cX12_keepsTold 332 = .ok (.aload_n 0, 1) := by decide +kernel
theorem dX12_keepsTold_333 : decode cX12_keepsTold 333 = .ok (.getfield 77, 3) := by decide +kernel
theorem dX12_keepsTold_336 : decode cX12_keepsTold 336 = .ok (.iload_n 1, 1) := by decide +kernel
theorem dX12_keepsTold_337 : decode cX12_keepsTold 337 = .ok (.aload_n 0, 1) := by decide +kernel
theorem dX12_keepsTold_338 : decode cX12_keepsTold 338 = .ok (.aload_n 0, 1) := by decide +kernel
theorem dX12_keepsTold_339 : decode cX12_keepsTold 339 = .ok (.getfield 77, 3) := by decide +kernel
theorem dX12_keepsTold_342 : decode cX12_keepsTold 342 = .ok (.iload_n 1, 1) := by decide +kernel
theorem dX12_keepsTold_343 : decode cX12_keepsTold 343 = .ok (.iaload, 1) := by decide +kernel
theorem dX12_keepsTold_344 : decode cX12_keepsTold 344 = .ok (.invokevirtual 524, 3) := by decide +kernel
theorem dX12_keepsTold_347 : decode cX12_keepsTold 347 = .ok (.iastore, 1) := by decide +kernel
theorem dX12_keepsTold_348 : decode cX12_keepsTold 348 = .ok (.aload_n 0, 1) := by decide +kernel
theorem dX12_keepsTold_349 : decode cX12_keepsTold 349 = .ok (.getfield 74, 3) := by decide +kernel
theorem dX12_keepsTold_352 : decode cX12_keepsTold 352 = .ok (.iload_n 1, 1) := by decide +kernel
theorem dX12_keepsTold_353 : decode cX12_keepsTold 353 = .ok (.aload_n 0, 1) := by decide +kernel
theorem dX12_keepsTold_354 : decode cX12_keepsTold 354 = .ok (.aload_n 0, 1) := by decide +kernel
theorem dX12_keepsTold_355 : decode cX12_keepsTold 355 = .ok (.getfield 74, 3) := by decide +kernel
theorem dX12_keepsTold_358 : decode cX12_keepsTold 358 = .ok (.iload_n 1, 1) := by decide +kernel
theorem dX12_keepsTold_359 : decode cX12_keepsTold 359 = .ok (.iaload, 1) := by decide +kernel
theorem dX12_keepsTold_360 : decode cX12_keepsTold 360 = .ok (.invokevirtual 524, 3) := by decide +kernel
theorem dX12_keepsTold_363 : decode cX12_keepsTold 363 = .ok (.iastore, 1) := by decide +kernel
theorem dX12_keepsTold_364 : decode cX12_keepsTold 364 = .ok (.iinc 1 1, 3) := by decide +kernel
theorem dX12_keepsTold_367 : decode cX12_keepsTold 367 = .ok (.goto (-57), 3) := by decide +kernel
theorem dX12_keepsTold_370 : decode cX12_keepsTold 370 = .ok (.return_, 1) := by decide +kernel
def T_X12_keepsTold_310 : Nat → Int32 → Mm → (Mm → Prop) → Prop
  | 0, _, _, _ => False
  | n + 1, x1, M, K => (((64 : Int32) ≤ x1 → (K M)) ∧ (¬ (64 : Int32) ≤ x1 → (vp_in x1 64 ∧ (T_X12_keeps (M 190 (x1).toNatClampNeg) M (fun r5 M4 => (vp_in x1 64 ∧ (∀ M6 : Mm, M6 = m_up M4 190 (x1).toNatClampNeg r5 → (vp_in x1 128 ∧ (T_X12_keeps (M6 181 (x1).toNatClampNeg) M6 (fun r11 M10 => (vp_in x1 128 ∧ (∀ M12 : Mm, M12 = m_up M10 181 (x1).toNatClampNeg r11 → (vp_in x1 128 ∧ (T_X12_keeps (M12 180 (x1).toNatClampNeg) M12 (fun r17 M16 => (vp_in x1 128 ∧ (∀ M18 : Mm, M18 = m_up M16 180 (x1).toNatClampNeg r17 → (∀ y20 : Int32, y20 = x1 + (1 : Int32) → (T_X12_keepsTold_310 n y20 M18 K)))))))))))))))))))
set_option maxHeartbeats 4000000 in
set_option maxRecDepth 100000 in
theorem w_X12_keepsTold_310 {p : Program} {l : Launch} {e : Env} {s : State} {m : MethodId} {args : Array Value} {below : List Frame} {meth : Method} {c : Code} {G : fx_G} {K : Mm → Prop} (X : fx_C G p s m c args cX12_keepsTold 2 RX12) (hr : meth.sig.returnType = none) (hk : meth.locks = false) : ∀ (n : Nat) (x1 : Int32) (M : Mm) (H : Heap) (locs : List Loc) (ls : Array Slot), T_X12_keepsTold_310 n x1 M K → fx_H G SH M s H locs → lv_has ls 2 [(0, .ref (G.2.2.2 + 159)), (1, .int x1)] → W p l e (fx_rm (1)) s m args below meth c H locs 0 0 (MQ below (va_Qv K (fx_R G SH) (fx_A G)) args s 0 0 (fx_A G)) (F0 m 310 ls []) := by
  obtain ⟨⟨hx, hb, hml, hown, hts⟩, hK, hQ⟩ := id X
  intro n
  induction n with
  | zero =>
    intro x1 M H locs ls hT
    exact hT.elim
  | succ n ih =>
    intro x1 M H locs ls hT h hl
    rw [T_X12_keepsTold_310] at hT
    refine lv_iload_n hx hb dX12_keepsTold_310 rfl (lv_at hl 1 rfl) ?_
    refine lv_bipush (v := 64) hx hb dX12_keepsTold_311 (by decide) ?_
    refine lv_icmp_ge (tgt := 370) hx hb dX12_keepsTold_313 (by decide) (fun hc1 => ?_) (fun hc1 => ?_)
    · have hT := hT.1 hc1
      exact fx_vret X hr hk h hT dX12_keepsTold_370
    · have hT := hT.2 hc1
      refine lv_aload_n hx hb dX12_keepsTold_316 rfl (lv_at hl 0 rfl) ?_
      refine fx_getR X h (k := 159) (j := 56) (r := 190) sh_159 rfl fl_RX12_104 dX12_keepsTold_317 ?_
      refine lv_iload_n hx hb dX12_keepsTold_320 rfl (lv_at hl 1 rfl) ?_
      refine lv_aload_n hx hb dX12_keepsTold_321 rfl (lv_at hl 0 rfl) ?_
      refine lv_aload_n hx hb dX12_keepsTold_322 rfl (lv_at hl 0 rfl) ?_
      refine fx_getR X h (k := 159) (j := 56) (r := 190) sh_159 rfl fl_RX12_104 dX12_keepsTold_323 ?_
      refine lv_iload_n hx hb dX12_keepsTold_326 rfl (lv_at hl 1 rfl) ?_
      obtain ⟨hi2, hT⟩ := hT
      refine fx_iald X h (k := 190) sh_190 hi2 dX12_keepsTold_327 ?_
      refine fx_vi X h ym_X12_keeps yi_X12_keeps ys_X12_keeps (fx_s9 (List.mem_of_getElem? (i := 116) rfl) rfl) sh_159 rfl (c_X12_keeps l G hT) (As := [.int (M 190 (x1).toNatClampNeg)]) (rest := [.int x1, .ref (G.2.2.2 + 190)]) rfl rfl ⟨Nat.le_of_ble_eq_true rfl, Nat.le_of_ble_eq_true rfl⟩ ⟨Nat.le_refl _, Nat.le_refl _⟩ hl.1 (Nat.le_of_ble_eq_true rfl) dX12_keepsTold_328 (fun r5 M4 H locs hT h => ?_)
      obtain ⟨hi7, hT⟩ := hT
      refine fx_iast X h (k := 190) sh_190 hi7 dX12_keepsTold_331 (fun H locs h => ?_)
      obtain ⟨M6, eM6⟩ : ∃ z : Mm, z = m_up M4 190 (x1).toNatClampNeg r5 := ⟨_, rfl⟩
      have hT := hT M6 eM6
      rw [← eM6] at h
      refine lv_aload_n hx hb dX12_keepsTold_332 rfl (lv_at hl 0 rfl) ?_
      refine fx_getR X h (k := 159) (j := 42) (r := 181) sh_159 rfl fl_RX12_77 dX12_keepsTold_333 ?_
      refine lv_iload_n hx hb dX12_keepsTold_336 rfl (lv_at hl 1 rfl) ?_
      refine lv_aload_n hx hb dX12_keepsTold_337 rfl (lv_at hl 0 rfl) ?_
      refine lv_aload_n hx hb dX12_keepsTold_338 rfl (lv_at hl 0 rfl) ?_
      refine fx_getR X h (k := 159) (j := 42) (r := 181) sh_159 rfl fl_RX12_77 dX12_keepsTold_339 ?_
      refine lv_iload_n hx hb dX12_keepsTold_342 rfl (lv_at hl 1 rfl) ?_
      obtain ⟨hi8, hT⟩ := hT
      refine fx_iald X h (k := 181) sh_181 hi8 dX12_keepsTold_343 ?_
      refine fx_vi X h ym_X12_keeps yi_X12_keeps ys_X12_keeps (fx_s9 (List.mem_of_getElem? (i := 116) rfl) rfl) sh_159 rfl (c_X12_keeps l G hT) (As := [.int (M6 181 (x1).toNatClampNeg)]) (rest := [.int x1, .ref (G.2.2.2 + 181)]) rfl rfl ⟨Nat.le_of_ble_eq_true rfl, Nat.le_of_ble_eq_true rfl⟩ ⟨Nat.le_refl _, Nat.le_refl _⟩ hl.1 (Nat.le_of_ble_eq_true rfl) dX12_keepsTold_344 (fun r11 M10 H locs hT h => ?_)
      obtain ⟨hi13, hT⟩ := hT
      refine fx_iast X h (k := 181) sh_181 hi13 dX12_keepsTold_347 (fun H locs h => ?_)
      obtain ⟨M12, eM12⟩ : ∃ z : Mm, z = m_up M10 181 (x1).toNatClampNeg r11 := ⟨_, rfl⟩
      have hT := hT M12 eM12
      rw [← eM12] at h
      refine lv_aload_n hx hb dX12_keepsTold_348 rfl (lv_at hl 0 rfl) ?_
      refine fx_getR X h (k := 159) (j := 40) (r := 180) sh_159 rfl fl_RX12_74 dX12_keepsTold_349 ?_
      refine lv_iload_n hx hb dX12_keepsTold_352 rfl (lv_at hl 1 rfl) ?_
      refine lv_aload_n hx hb dX12_keepsTold_353 rfl (lv_at hl 0 rfl) ?_
      refine lv_aload_n hx hb dX12_keepsTold_354 rfl (lv_at hl 0 rfl) ?_
      refine fx_getR X h (k := 159) (j := 40) (r := 180) sh_159 rfl fl_RX12_74 dX12_keepsTold_355 ?_
      refine lv_iload_n hx hb dX12_keepsTold_358 rfl (lv_at hl 1 rfl) ?_
      obtain ⟨hi14, hT⟩ := hT
      refine fx_iald X h (k := 180) sh_180 hi14 dX12_keepsTold_359 ?_
      refine fx_vi X h ym_X12_keeps yi_X12_keeps ys_X12_keeps (fx_s9 (List.mem_of_getElem? (i := 116) rfl) rfl) sh_159 rfl (c_X12_keeps l G hT) (As := [.int (M12 180 (x1).toNatClampNeg)]) (rest := [.int x1, .ref (G.2.2.2 + 180)]) rfl rfl ⟨Nat.le_of_ble_eq_true rfl, Nat.le_of_ble_eq_true rfl⟩ ⟨Nat.le_refl _, Nat.le_refl _⟩ hl.1 (Nat.le_of_ble_eq_true rfl) dX12_keepsTold_360 (fun r17 M16 H locs hT h => ?_)
      obtain ⟨hi19, hT⟩ := hT
      refine fx_iast X h (k := 180) sh_180 hi19 dX12_keepsTold_363 (fun H locs h => ?_)
      obtain ⟨M18, eM18⟩ : ∃ z : Mm, z = m_up M16 180 (x1).toNatClampNeg r17 := ⟨_, rfl⟩
      have hT := hT M18 eM18
      rw [← eM18] at h
      obtain ⟨y20, ey20⟩ : ∃ z : Int32, z = x1 + (1 : Int32) := ⟨_, rfl⟩
      have hT := hT y20 ey20
      refine lv_iinc (v := y20) (lv' := [(1, .int y20), (0, .ref (G.2.2.2 + 159))]) hx hb dX12_keepsTold_364 hl (k := 1) rfl (by rw [ey20]; rfl) (by decide) rfl (fun ls hl => ?_)
      refine lv_goto (tgt := 310) hx hb dX12_keepsTold_367 (by decide) ?_
      exact ih y20 M18 _ _ ls hT h (lv_sub hl [1, 0] rfl)
def T_X12_keepsTold_280 : Nat → Int32 → Mm → (Mm → Prop) → Prop
  | 0, _, _, _ => False
  | n + 1, x1, M, K => (((20 : Int32) ≤ x1 → (T_X12_keepsTold_310 5000 (0 : Int32) M K)) ∧ (¬ (20 : Int32) ≤ x1 → (vp_in x1 20 ∧ (T_X12_keeps (M 197 (x1).toNatClampNeg) M (fun r25 M24 => (vp_in x1 20 ∧ (∀ M26 : Mm, M26 = m_up M24 197 (x1).toNatClampNeg r25 → (∀ y28 : Int32, y28 = x1 + (1 : Int32) → (T_X12_keepsTold_280 n y28 M26 K)))))))))
set_option maxHeartbeats 4000000 in
set_option maxRecDepth 100000 in
theorem w_X12_keepsTold_280 {p : Program} {l : Launch} {e : Env} {s : State} {m : MethodId} {args : Array Value} {below : List Frame} {meth : Method} {c : Code} {G : fx_G} {K : Mm → Prop} (X : fx_C G p s m c args cX12_keepsTold 2 RX12) (hr : meth.sig.returnType = none) (hk : meth.locks = false) : ∀ (n : Nat) (x1 : Int32) (M : Mm) (H : Heap) (locs : List Loc) (ls : Array Slot), T_X12_keepsTold_280 n x1 M K → fx_H G SH M s H locs → lv_has ls 2 [(0, .ref (G.2.2.2 + 159)), (1, .int x1)] → W p l e (fx_rm (1)) s m args below meth c H locs 0 0 (MQ below (va_Qv K (fx_R G SH) (fx_A G)) args s 0 0 (fx_A G)) (F0 m 280 ls []) := by
  obtain ⟨⟨hx, hb, hml, hown, hts⟩, hK, hQ⟩ := id X
  intro n
  induction n with
  | zero =>
    intro x1 M H locs ls hT
    exact hT.elim
  | succ n ih =>
    intro x1 M H locs ls hT h hl
    rw [T_X12_keepsTold_280] at hT
    refine lv_iload_n hx hb dX12_keepsTold_280 rfl (lv_at hl 1 rfl) ?_
    refine lv_bipush (v := 20) hx hb dX12_keepsTold_281 (by decide) ?_
    refine lv_icmp_ge (tgt := 308) hx hb dX12_keepsTold_283 (by decide) (fun hc21 => ?_) (fun hc21 => ?_)
    · have hT := hT.1 hc21
      refine lv_iconst (v := 0) hx hb dX12_keepsTold_308 (by decide) ?_
      refine lv_istore_n (lv' := [(1, .int (0 : Int32)), (0, .ref (G.2.2.2 + 159))]) hx hb dX12_keepsTold_309 rfl hl (by decide) rfl (fun ls hl => ?_)
      exact w_X12_keepsTold_310 X hr hk 5000 (0 : Int32) M _ _ ls hT h (lv_sub hl [1, 0] rfl)
    · have hT := hT.2 hc21
      refine lv_aload_n hx hb dX12_keepsTold_286 rfl (lv_at hl 0 rfl) ?_
      refine fx_getR X h (k := 159) (j := 66) (r := 197) sh_159 rfl fl_RX12_125 dX12_keepsTold_287 ?_
      refine lv_iload_n hx hb dX12_keepsTold_290 rfl (lv_at hl 1 rfl) ?_
      refine lv_aload_n hx hb dX12_keepsTold_291 rfl (lv_at hl 0 rfl) ?_
      refine lv_aload_n hx hb dX12_keepsTold_292 rfl (lv_at hl 0 rfl) ?_
      refine fx_getR X h (k := 159) (j := 66) (r := 197) sh_159 rfl fl_RX12_125 dX12_keepsTold_293 ?_
      refine lv_iload_n hx hb dX12_keepsTold_296 rfl (lv_at hl 1 rfl) ?_
      obtain ⟨hi22, hT⟩ := hT
      refine fx_iald X h (k := 197) sh_197 hi22 dX12_keepsTold_297 ?_
      refine fx_vi X h ym_X12_keeps yi_X12_keeps ys_X12_keeps (fx_s9 (List.mem_of_getElem? (i := 116) rfl) rfl) sh_159 rfl (c_X12_keeps l G hT) (As := [.int (M 197 (x1).toNatClampNeg)]) (rest := [.int x1, .ref (G.2.2.2 + 197)]) rfl rfl ⟨Nat.le_of_ble_eq_true rfl, Nat.le_of_ble_eq_true rfl⟩ ⟨Nat.le_refl _, Nat.le_refl _⟩ hl.1 (Nat.le_of_ble_eq_true rfl) dX12_keepsTold_298 (fun r25 M24 H locs hT h => ?_)
      obtain ⟨hi27, hT⟩ := hT
      refine fx_iast X h (k := 197) sh_197 hi27 dX12_keepsTold_301 (fun H locs h => ?_)
      obtain ⟨M26, eM26⟩ : ∃ z : Mm, z = m_up M24 197 (x1).toNatClampNeg r25 := ⟨_, rfl⟩
      have hT := hT M26 eM26
      rw [← eM26] at h
      obtain ⟨y28, ey28⟩ : ∃ z : Int32, z = x1 + (1 : Int32) := ⟨_, rfl⟩
      have hT := hT y28 ey28
      refine lv_iinc (v := y28) (lv' := [(1, .int y28), (0, .ref (G.2.2.2 + 159))]) hx hb dX12_keepsTold_302 hl (k := 1) rfl (by rw [ey28]; rfl) (by decide) rfl (fun ls hl => ?_)
      refine lv_goto (tgt := 280) hx hb dX12_keepsTold_305 (by decide) ?_
      exact ih y28 M26 _ _ ls hT h (lv_sub hl [1, 0] rfl)
def T_X12_keepsTold_250 : Nat → Int32 → Mm → (Mm → Prop) → Prop
  | 0, _, _, _ => False
  | n + 1, x1, M, K => (((9 : Int32) ≤ x1 → (T_X12_keepsTold_280 5000 (0 : Int32) M K)) ∧ (¬ (9 : Int32) ≤ x1 → (vp_in x1 9 ∧ (T_X12_keeps (M 188 (x1).toNatClampNeg) M (fun r33 M32 => (vp_in x1 9 ∧ (∀ M34 : Mm, M34 = m_up M32 188 (x1).toNatClampNeg r33 → (∀ y36 : Int32, y36 = x1 + (1 : Int32) → (T_X12_keepsTold_250 n y36 M34 K)))))))))
set_option maxHeartbeats 4000000 in
set_option maxRecDepth 100000 in
theorem w_X12_keepsTold_250 {p : Program} {l : Launch} {e : Env} {s : State} {m : MethodId} {args : Array Value} {below : List Frame} {meth : Method} {c : Code} {G : fx_G} {K : Mm → Prop} (X : fx_C G p s m c args cX12_keepsTold 2 RX12) (hr : meth.sig.returnType = none) (hk : meth.locks = false) : ∀ (n : Nat) (x1 : Int32) (M : Mm) (H : Heap) (locs : List Loc) (ls : Array Slot), T_X12_keepsTold_250 n x1 M K → fx_H G SH M s H locs → lv_has ls 2 [(0, .ref (G.2.2.2 + 159)), (1, .int x1)] → W p l e (fx_rm (1)) s m args below meth c H locs 0 0 (MQ below (va_Qv K (fx_R G SH) (fx_A G)) args s 0 0 (fx_A G)) (F0 m 250 ls []) := by
  obtain ⟨⟨hx, hb, hml, hown, hts⟩, hK, hQ⟩ := id X
  intro n
  induction n with
  | zero =>
    intro x1 M H locs ls hT
    exact hT.elim
  | succ n ih =>
    intro x1 M H locs ls hT h hl
    rw [T_X12_keepsTold_250] at hT
    refine lv_iload_n hx hb dX12_keepsTold_250 rfl (lv_at hl 1 rfl) ?_
    refine lv_bipush (v := 9) hx hb dX12_keepsTold_251 (by decide) ?_
    refine lv_icmp_ge (tgt := 278) hx hb dX12_keepsTold_253 (by decide) (fun hc29 => ?_) (fun hc29 => ?_)
    · have hT := hT.1 hc29
      refine lv_iconst (v := 0) hx hb dX12_keepsTold_278 (by decide) ?_
      refine lv_istore_n (lv' := [(1, .int (0 : Int32)), (0, .ref (G.2.2.2 + 159))]) hx hb dX12_keepsTold_279 rfl hl (by decide) rfl (fun ls hl => ?_)
      exact w_X12_keepsTold_280 X hr hk 5000 (0 : Int32) M _ _ ls hT h (lv_sub hl [1, 0] rfl)
    · have hT := hT.2 hc29
      refine lv_aload_n hx hb dX12_keepsTold_256 rfl (lv_at hl 0 rfl) ?_
      refine fx_getR X h (k := 159) (j := 54) (r := 188) sh_159 rfl fl_RX12_98 dX12_keepsTold_257 ?_
      refine lv_iload_n hx hb dX12_keepsTold_260 rfl (lv_at hl 1 rfl) ?_
      refine lv_aload_n hx hb dX12_keepsTold_261 rfl (lv_at hl 0 rfl) ?_
      refine lv_aload_n hx hb dX12_keepsTold_262 rfl (lv_at hl 0 rfl) ?_
      refine fx_getR X h (k := 159) (j := 54) (r := 188) sh_159 rfl fl_RX12_98 dX12_keepsTold_263 ?_
      refine lv_iload_n hx hb dX12_keepsTold_266 rfl (lv_at hl 1 rfl) ?_
      obtain ⟨hi30, hT⟩ := hT
      refine fx_iald X h (k := 188) sh_188 hi30 dX12_keepsTold_267 ?_
      refine fx_vi X h ym_X12_keeps yi_X12_keeps ys_X12_keeps (fx_s9 (List.mem_of_getElem? (i := 116) rfl) rfl) sh_159 rfl (c_X12_keeps l G hT) (As := [.int (M 188 (x1).toNatClampNeg)]) (rest := [.int x1, .ref (G.2.2.2 + 188)]) rfl rfl ⟨Nat.le_of_ble_eq_true rfl, Nat.le_of_ble_eq_true rfl⟩ ⟨Nat.le_refl _, Nat.le_refl _⟩ hl.1 (Nat.le_of_ble_eq_true rfl) dX12_keepsTold_268 (fun r33 M32 H locs hT h => ?_)
      obtain ⟨hi35, hT⟩ := hT
      refine fx_iast X h (k := 188) sh_188 hi35 dX12_keepsTold_271 (fun H locs h => ?_)
      obtain ⟨M34, eM34⟩ : ∃ z : Mm, z = m_up M32 188 (x1).toNatClampNeg r33 := ⟨_, rfl⟩
      have hT := hT M34 eM34
      rw [← eM34] at h
      obtain ⟨y36, ey36⟩ : ∃ z : Int32, z = x1 + (1 : Int32) := ⟨_, rfl⟩
      have hT := hT y36 ey36
      refine lv_iinc (v := y36) (lv' := [(1, .int y36), (0, .ref (G.2.2.2 + 159))]) hx hb dX12_keepsTold_272 hl (k := 1) rfl (by rw [ey36]; rfl) (by decide) rfl (fun ls hl => ?_)
      refine lv_goto (tgt := 250) hx hb dX12_keepsTold_275 (by decide) ?_
      exact ih y36 M34 _ _ ls hT h (lv_sub hl [1, 0] rfl)
def T_X12_keepsTold_204 : Nat → Int32 → Mm → (Mm → Prop) → Prop
  | 0, _, _, _ => False
  | n + 1, x1, M, K => (((7 : Int32) ≤ x1 → (T_X12_keepsTold_250 5000 (0 : Int32) M K)) ∧ (¬ (7 : Int32) ≤ x1 → (vp_in x1 7 ∧ (T_X12_keeps (M 193 (x1).toNatClampNeg) M (fun r41 M40 => (vp_in x1 7 ∧ (∀ M42 : Mm, M42 = m_up M40 193 (x1).toNatClampNeg r41 → (vp_in x1 7 ∧ (T_X12_keeps (M42 194 (x1).toNatClampNeg) M42 (fun r47 M46 => (vp_in x1 7 ∧ (∀ M48 : Mm, M48 = m_up M46 194 (x1).toNatClampNeg r47 → (∀ y50 : Int32, y50 = x1 + (1 : Int32) → (T_X12_keepsTold_204 n y50 M48 K))))))))))))))
set_option maxHeartbeats 4000000 in
set_option maxRecDepth 100000 in
theorem w_X12_keepsTold_204 {p : Program} {l : Launch} {e : Env} {s : State} {m : MethodId} {args : Array Value} {below : List Frame} {meth : Method} {c : Code} {G : fx_G} {K : Mm → Prop} (X : fx_C G p s m c args cX12_keepsTold 2 RX12) (hr : meth.sig.returnType = none) (hk : meth.locks = false) : ∀ (n : Nat) (x1 : Int32) (M : Mm) (H : Heap) (locs : List Loc) (ls : Array Slot), T_X12_keepsTold_204 n x1 M K → fx_H G SH M s H locs → lv_has ls 2 [(0, .ref (G.2.2.2 + 159)), (1, .int x1)] → W p l e (fx_rm (1)) s m args below meth c H locs 0 0 (MQ below (va_Qv K (fx_R G SH) (fx_A G)) args s 0 0 (fx_A G)) (F0 m 204 ls []) := by
  obtain ⟨⟨hx, hb, hml, hown, hts⟩, hK, hQ⟩ := id X
  intro n
  induction n with
  | zero =>
    intro x1 M H locs ls hT
    exact hT.elim
  | succ n ih =>
    intro x1 M H locs ls hT h hl
    rw [T_X12_keepsTold_204] at hT
    refine lv_iload_n hx hb dX12_keepsTold_204 rfl (lv_at hl 1 rfl) ?_
    refine lv_bipush (v := 7) hx hb dX12_keepsTold_205 (by decide) ?_
    refine lv_icmp_ge (tgt := 248) hx hb dX12_keepsTold_207 (by decide) (fun hc37 => ?_) (fun hc37 => ?_)
    · have hT := hT.1 hc37
      refine lv_iconst (v := 0) hx hb dX12_keepsTold_248 (by decide) ?_
      refine lv_istore_n (lv' := [(1, .int (0 : Int32)), (0, .ref (G.2.2.2 + 159))]) hx hb dX12_keepsTold_249 rfl hl (by decide) rfl (fun ls hl => ?_)
      exact w_X12_keepsTold_250 X hr hk 5000 (0 : Int32) M _ _ ls hT h (lv_sub hl [1, 0] rfl)
    · have hT := hT.2 hc37
      refine lv_aload_n hx hb dX12_keepsTold_210 rfl (lv_at hl 0 rfl) ?_
      refine fx_getR X h (k := 159) (j := 60) (r := 193) sh_159 rfl fl_RX12_113 dX12_keepsTold_211 ?_
      refine lv_iload_n hx hb dX12_keepsTold_214 rfl (lv_at hl 1 rfl) ?_
      refine lv_aload_n hx hb dX12_keepsTold_215 rfl (lv_at hl 0 rfl) ?_
      refine lv_aload_n hx hb dX12_keepsTold_216 rfl (lv_at hl 0 rfl) ?_
      refine fx_getR X h (k := 159) (j := 60) (r := 193) sh_159 rfl fl_RX12_113 dX12_keepsTold_217 ?_
      refine lv_iload_n hx hb dX12_keepsTold_220 rfl (lv_at hl 1 rfl) ?_
      obtain ⟨hi38, hT⟩ := hT
      refine fx_iald X h (k := 193) sh_193 hi38 dX12_keepsTold_221 ?_
      refine fx_vi X h ym_X12_keeps yi_X12_keeps ys_X12_keeps (fx_s9 (List.mem_of_getElem? (i := 116) rfl) rfl) sh_159 rfl (c_X12_keeps l G hT) (As := [.int (M 193 (x1).toNatClampNeg)]) (rest := [.int x1, .ref (G.2.2.2 + 193)]) rfl rfl ⟨Nat.le_of_ble_eq_true rfl, Nat.le_of_ble_eq_true rfl⟩ ⟨Nat.le_refl _, Nat.le_refl _⟩ hl.1 (Nat.le_of_ble_eq_true rfl) dX12_keepsTold_222 (fun r41 M40 H locs hT h => ?_)
      obtain ⟨hi43, hT⟩ := hT
      refine fx_iast X h (k := 193) sh_193 hi43 dX12_keepsTold_225 (fun H locs h => ?_)
      obtain ⟨M42, eM42⟩ : ∃ z : Mm, z = m_up M40 193 (x1).toNatClampNeg r41 := ⟨_, rfl⟩
      have hT := hT M42 eM42
      rw [← eM42] at h
      refine lv_aload_n hx hb dX12_keepsTold_226 rfl (lv_at hl 0 rfl) ?_
      refine fx_getR X h (k := 159) (j := 61) (r := 194) sh_159 rfl fl_RX12_116 dX12_keepsTold_227 ?_
      refine lv_iload_n hx hb dX12_keepsTold_230 rfl (lv_at hl 1 rfl) ?_
      refine lv_aload_n hx hb dX12_keepsTold_231 rfl (lv_at hl 0 rfl) ?_
      refine lv_aload_n hx hb dX12_keepsTold_232 rfl (lv_at hl 0 rfl) ?_
      refine fx_getR X h (k := 159) (j := 61) (r := 194) sh_159 rfl fl_RX12_116 dX12_keepsTold_233 ?_
      refine lv_iload_n hx hb dX12_keepsTold_236 rfl (lv_at hl 1 rfl) ?_
      obtain ⟨hi44, hT⟩ := hT
      refine fx_iald X h (k := 194) sh_194 hi44 dX12_keepsTold_237 ?_
      refine fx_vi X h ym_X12_keeps yi_X12_keeps ys_X12_keeps (fx_s9 (List.mem_of_getElem? (i := 116) rfl) rfl) sh_159 rfl (c_X12_keeps l G hT) (As := [.int (M42 194 (x1).toNatClampNeg)]) (rest := [.int x1, .ref (G.2.2.2 + 194)]) rfl rfl ⟨Nat.le_of_ble_eq_true rfl, Nat.le_of_ble_eq_true rfl⟩ ⟨Nat.le_refl _, Nat.le_refl _⟩ hl.1 (Nat.le_of_ble_eq_true rfl) dX12_keepsTold_238 (fun r47 M46 H locs hT h => ?_)
      obtain ⟨hi49, hT⟩ := hT
      refine fx_iast X h (k := 194) sh_194 hi49 dX12_keepsTold_241 (fun H locs h => ?_)
      obtain ⟨M48, eM48⟩ : ∃ z : Mm, z = m_up M46 194 (x1).toNatClampNeg r47 := ⟨_, rfl⟩
      have hT := hT M48 eM48
      rw [← eM48] at h
      obtain ⟨y50, ey50⟩ : ∃ z : Int32, z = x1 + (1 : Int32) := ⟨_, rfl⟩
      have hT := hT y50 ey50
      refine lv_iinc (v := y50) (lv' := [(1, .int y50), (0, .ref (G.2.2.2 + 159))]) hx hb dX12_keepsTold_242 hl (k := 1) rfl (by rw [ey50]; rfl) (by decide) rfl (fun ls hl => ?_)
      refine lv_goto (tgt := 204) hx hb dX12_keepsTold_245 (by decide) ?_
      exact ih y50 M48 _ _ ls hT h (lv_sub hl [1, 0] rfl)
def T_X12_keepsTold_174 : Nat → Int32 → Mm → (Mm → Prop) → Prop
  | 0, _, _, _ => False
  | n + 1, x1, M, K => (((6 : Int32) ≤ x1 → (T_X12_keepsTold_204 5000 (0 : Int32) M K)) ∧ (¬ (6 : Int32) ≤ x1 → (vp_in x1 6 ∧ (T_X12_keeps (M 187 (x1).toNatClampNeg) M (fun r55 M54 => (vp_in x1 6 ∧ (∀ M56 : Mm, M56 = m_up M54 187 (x1).toNatClampNeg r55 → (∀ y58 : Int32, y58 = x1 + (1 : Int32) → (T_X12_keepsTold_174 n y58 M56 K)))))))))
set_option maxHeartbeats 4000000 in
set_option maxRecDepth 100000 in
theorem w_X12_keepsTold_174 {p : Program} {l : Launch} {e : Env} {s : State} {m : MethodId} {args : Array Value} {below : List Frame} {meth : Method} {c : Code} {G : fx_G} {K : Mm → Prop} (X : fx_C G p s m c args cX12_keepsTold 2 RX12) (hr : meth.sig.returnType = none) (hk : meth.locks = false) : ∀ (n : Nat) (x1 : Int32) (M : Mm) (H : Heap) (locs : List Loc) (ls : Array Slot), T_X12_keepsTold_174 n x1 M K → fx_H G SH M s H locs → lv_has ls 2 [(0, .ref (G.2.2.2 + 159)), (1, .int x1)] → W p l e (fx_rm (1)) s m args below meth c H locs 0 0 (MQ below (va_Qv K (fx_R G SH) (fx_A G)) args s 0 0 (fx_A G)) (F0 m 174 ls []) := by
  obtain ⟨⟨hx, hb, hml, hown, hts⟩, hK, hQ⟩ := id X
  intro n
  induction n with
  | zero =>
    intro x1 M H locs ls hT
    exact hT.elim
  | succ n ih =>
    intro x1 M H locs ls hT h hl
    rw [T_X12_keepsTold_174] at hT
    refine lv_iload_n hx hb dX12_keepsTold_174 rfl (lv_at hl 1 rfl) ?_
    refine lv_bipush (v := 6) hx hb dX12_keepsTold_175 (by decide) ?_
    refine lv_icmp_ge (tgt := 202) hx hb dX12_keepsTold_177 (by decide) (fun hc51 => ?_) (fun hc51 => ?_)
    · have hT := hT.1 hc51
      refine lv_iconst (v := 0) hx hb dX12_keepsTold_202 (by decide) ?_
      refine lv_istore_n (lv' := [(1, .int (0 : Int32)), (0, .ref (G.2.2.2 + 159))]) hx hb dX12_keepsTold_203 rfl hl (by decide) rfl (fun ls hl => ?_)
      exact w_X12_keepsTold_204 X hr hk 5000 (0 : Int32) M _ _ ls hT h (lv_sub hl [1, 0] rfl)
    · have hT := hT.2 hc51
      refine lv_aload_n hx hb dX12_keepsTold_180 rfl (lv_at hl 0 rfl) ?_
      refine fx_getR X h (k := 159) (j := 52) (r := 187) sh_159 rfl fl_RX12_95 dX12_keepsTold_181 ?_
      refine lv_iload_n hx hb dX12_keepsTold_184 rfl (lv_at hl 1 rfl) ?_
      refine lv_aload_n hx hb dX12_keepsTold_185 rfl (lv_at hl 0 rfl) ?_
      refine lv_aload_n hx hb dX12_keepsTold_186 rfl (lv_at hl 0 rfl) ?_
      refine fx_getR X h (k := 159) (j := 52) (r := 187) sh_159 rfl fl_RX12_95 dX12_keepsTold_187 ?_
      refine lv_iload_n hx hb dX12_keepsTold_190 rfl (lv_at hl 1 rfl) ?_
      obtain ⟨hi52, hT⟩ := hT
      refine fx_iald X h (k := 187) sh_187 hi52 dX12_keepsTold_191 ?_
      refine fx_vi X h ym_X12_keeps yi_X12_keeps ys_X12_keeps (fx_s9 (List.mem_of_getElem? (i := 116) rfl) rfl) sh_159 rfl (c_X12_keeps l G hT) (As := [.int (M 187 (x1).toNatClampNeg)]) (rest := [.int x1, .ref (G.2.2.2 + 187)]) rfl rfl ⟨Nat.le_of_ble_eq_true rfl, Nat.le_of_ble_eq_true rfl⟩ ⟨Nat.le_refl _, Nat.le_refl _⟩ hl.1 (Nat.le_of_ble_eq_true rfl) dX12_keepsTold_192 (fun r55 M54 H locs hT h => ?_)
      obtain ⟨hi57, hT⟩ := hT
      refine fx_iast X h (k := 187) sh_187 hi57 dX12_keepsTold_195 (fun H locs h => ?_)
      obtain ⟨M56, eM56⟩ : ∃ z : Mm, z = m_up M54 187 (x1).toNatClampNeg r55 := ⟨_, rfl⟩
      have hT := hT M56 eM56
      rw [← eM56] at h
      obtain ⟨y58, ey58⟩ : ∃ z : Int32, z = x1 + (1 : Int32) := ⟨_, rfl⟩
      have hT := hT y58 ey58
      refine lv_iinc (v := y58) (lv' := [(1, .int y58), (0, .ref (G.2.2.2 + 159))]) hx hb dX12_keepsTold_196 hl (k := 1) rfl (by rw [ey58]; rfl) (by decide) rfl (fun ls hl => ?_)
      refine lv_goto (tgt := 174) hx hb dX12_keepsTold_199 (by decide) ?_
      exact ih y58 M56 _ _ ls hT h (lv_sub hl [1, 0] rfl)
def T_X12_keepsTold_64 : Nat → Int32 → Mm → (Mm → Prop) → Prop
  | 0, _, _, _ => False
  | n + 1, x1, M, K => (((8 : Int32) ≤ x1 → (T_X12_keepsTold_174 5000 (0 : Int32) M K)) ∧ (¬ (8 : Int32) ≤ x1 → (vp_in x1 8 ∧ (T_X12_keeps (M 166 (x1).toNatClampNeg) M (fun r63 M62 => (vp_in x1 8 ∧ (∀ M64 : Mm, M64 = m_up M62 166 (x1).toNatClampNeg r63 → (vp_in x1 8 ∧ (T_X12_keeps (M64 167 (x1).toNatClampNeg) M64 (fun r69 M68 => (vp_in x1 8 ∧ (∀ M70 : Mm, M70 = m_up M68 167 (x1).toNatClampNeg r69 → (vp_in x1 16 ∧ (T_X12_keeps (M70 179 (x1).toNatClampNeg) M70 (fun r75 M74 => (vp_in x1 16 ∧ (∀ M76 : Mm, M76 = m_up M74 179 (x1).toNatClampNeg r75 → (vp_in x1 8 ∧ (T_X12_keeps (M76 184 (x1).toNatClampNeg) M76 (fun r81 M80 => (vp_in x1 8 ∧ (∀ M82 : Mm, M82 = m_up M80 184 (x1).toNatClampNeg r81 → (vp_in x1 8 ∧ (T_X12_keeps (M82 195 (x1).toNatClampNeg) M82 (fun r87 M86 => (vp_in x1 8 ∧ (∀ M88 : Mm, M88 = m_up M86 195 (x1).toNatClampNeg r87 → (vp_in x1 8 ∧ (T_X12_keeps (M88 196 (x1).toNatClampNeg) M88 (fun r93 M92 => (vp_in x1 8 ∧ (∀ M94 : Mm, M94 = m_up M92 196 (x1).toNatClampNeg r93 → (∀ y96 : Int32, y96 = x1 + (1 : Int32) → (T_X12_keepsTold_64 n y96 M94 K))))))))))))))))))))))))))))))))))
set_option maxHeartbeats 4000000 in
set_option maxRecDepth 100000 in
theorem w_X12_keepsTold_64 {p : Program} {l : Launch} {e : Env} {s : State} {m : MethodId} {args : Array Value} {below : List Frame} {meth : Method} {c : Code} {G : fx_G} {K : Mm → Prop} (X : fx_C G p s m c args cX12_keepsTold 2 RX12) (hr : meth.sig.returnType = none) (hk : meth.locks = false) : ∀ (n : Nat) (x1 : Int32) (M : Mm) (H : Heap) (locs : List Loc) (ls : Array Slot), T_X12_keepsTold_64 n x1 M K → fx_H G SH M s H locs → lv_has ls 2 [(0, .ref (G.2.2.2 + 159)), (1, .int x1)] → W p l e (fx_rm (1)) s m args below meth c H locs 0 0 (MQ below (va_Qv K (fx_R G SH) (fx_A G)) args s 0 0 (fx_A G)) (F0 m 64 ls []) := by
  obtain ⟨⟨hx, hb, hml, hown, hts⟩, hK, hQ⟩ := id X
  intro n
  induction n with
  | zero =>
    intro x1 M H locs ls hT
    exact hT.elim
  | succ n ih =>
    intro x1 M H locs ls hT h hl
    rw [T_X12_keepsTold_64] at hT
    refine lv_iload_n hx hb dX12_keepsTold_64 rfl (lv_at hl 1 rfl) ?_
    refine lv_bipush (v := 8) hx hb dX12_keepsTold_65 (by decide) ?_
    refine lv_icmp_ge (tgt := 172) hx hb dX12_keepsTold_67 (by decide) (fun hc59 => ?_) (fun hc59 => ?_)
    · have hT := hT.1 hc59
      refine lv_iconst (v := 0) hx hb dX12_keepsTold_172 (by decide) ?_
      refine lv_istore_n (lv' := [(1, .int (0 : Int32)), (0, .ref (G.2.2.2 + 159))]) hx hb dX12_keepsTold_173 rfl hl (by decide) rfl (fun ls hl => ?_)
      exact w_X12_keepsTold_174 X hr hk 5000 (0 : Int32) M _ _ ls hT h (lv_sub hl [1, 0] rfl)
    · have hT := hT.2 hc59
      refine lv_aload_n hx hb dX12_keepsTold_70 rfl (lv_at hl 0 rfl) ?_
      refine fx_getR X h (k := 159) (j := 11) (r := 166) sh_159 rfl fl_RX12_28 dX12_keepsTold_71 ?_
      refine lv_iload_n hx hb dX12_keepsTold_74 rfl (lv_at hl 1 rfl) ?_
      refine lv_aload_n hx hb dX12_keepsTold_75 rfl (lv_at hl 0 rfl) ?_
      refine lv_aload_n hx hb dX12_keepsTold_76 rfl (lv_at hl 0 rfl) ?_
      refine fx_getR X h (k := 159) (j := 11) (r := 166) sh_159 rfl fl_RX12_28 dX12_keepsTold_77 ?_
      refine lv_iload_n hx hb dX12_keepsTold_80 rfl (lv_at hl 1 rfl) ?_
      obtain ⟨hi60, hT⟩ := hT
      refine fx_iald X h (k := 166) sh_166 hi60 dX12_keepsTold_81 ?_
      refine fx_vi X h ym_X12_keeps yi_X12_keeps ys_X12_keeps (fx_s9 (List.mem_of_getElem? (i := 116) rfl) rfl) sh_159 rfl (c_X12_keeps l G hT) (As := [.int (M 166 (x1).toNatClampNeg)]) (rest := [.int x1, .ref (G.2.2.2 + 166)]) rfl rfl ⟨Nat.le_of_ble_eq_true rfl, Nat.le_of_ble_eq_true rfl⟩ ⟨Nat.le_refl _, Nat.le_refl _⟩ hl.1 (Nat.le_of_ble_eq_true rfl) dX12_keepsTold_82 (fun r63 M62 H locs hT h => ?_)
      obtain ⟨hi65, hT⟩ := hT
      refine fx_iast X h (k := 166) sh_166 hi65 dX12_keepsTold_85 (fun H locs h => ?_)
      obtain ⟨M64, eM64⟩ : ∃ z : Mm, z = m_up M62 166 (x1).toNatClampNeg r63 := ⟨_, rfl⟩
      have hT := hT M64 eM64
      rw [← eM64] at h
      refine lv_aload_n hx hb dX12_keepsTold_86 rfl (lv_at hl 0 rfl) ?_
      refine fx_getR X h (k := 159) (j := 12) (r := 167) sh_159 rfl fl_RX12_31 dX12_keepsTold_87 ?_
      refine lv_iload_n hx hb dX12_keepsTold_90 rfl (lv_at hl 1 rfl) ?_
      refine lv_aload_n hx hb dX12_keepsTold_91 rfl (lv_at hl 0 rfl) ?_
      refine lv_aload_n hx hb dX12_keepsTold_92 rfl (lv_at hl 0 rfl) ?_
      refine fx_getR X h (k := 159) (j := 12) (r := 167) sh_159 rfl fl_RX12_31 dX12_keepsTold_93 ?_
      refine lv_iload_n hx hb dX12_keepsTold_96 rfl (lv_at hl 1 rfl) ?_
      obtain ⟨hi66, hT⟩ := hT
      refine fx_iald X h (k := 167) sh_167 hi66 dX12_keepsTold_97 ?_
      refine fx_vi X h ym_X12_keeps yi_X12_keeps ys_X12_keeps (fx_s9 (List.mem_of_getElem? (i := 116) rfl) rfl) sh_159 rfl (c_X12_keeps l G hT) (As := [.int (M64 167 (x1).toNatClampNeg)]) (rest := [.int x1, .ref (G.2.2.2 + 167)]) rfl rfl ⟨Nat.le_of_ble_eq_true rfl, Nat.le_of_ble_eq_true rfl⟩ ⟨Nat.le_refl _, Nat.le_refl _⟩ hl.1 (Nat.le_of_ble_eq_true rfl) dX12_keepsTold_98 (fun r69 M68 H locs hT h => ?_)
      obtain ⟨hi71, hT⟩ := hT
      refine fx_iast X h (k := 167) sh_167 hi71 dX12_keepsTold_101 (fun H locs h => ?_)
      obtain ⟨M70, eM70⟩ : ∃ z : Mm, z = m_up M68 167 (x1).toNatClampNeg r69 := ⟨_, rfl⟩
      have hT := hT M70 eM70
      rw [← eM70] at h
      refine lv_aload_n hx hb dX12_keepsTold_102 rfl (lv_at hl 0 rfl) ?_
      refine fx_getR X h (k := 159) (j := 38) (r := 179) sh_159 rfl fl_RX12_71 dX12_keepsTold_103 ?_
      refine lv_iload_n hx hb dX12_keepsTold_106 rfl (lv_at hl 1 rfl) ?_
      refine lv_aload_n hx hb dX12_keepsTold_107 rfl (lv_at hl 0 rfl) ?_
      refine lv_aload_n hx hb dX12_keepsTold_108 rfl (lv_at hl 0 rfl) ?_
      refine fx_getR X h (k := 159) (j := 38) (r := 179) sh_159 rfl fl_RX12_71 dX12_keepsTold_109 ?_
      refine lv_iload_n hx hb dX12_keepsTold_112 rfl (lv_at hl 1 rfl) ?_
      obtain ⟨hi72, hT⟩ := hT
      refine fx_iald X h (k := 179) sh_179 hi72 dX12_keepsTold_113 ?_
      refine fx_vi X h ym_X12_keeps yi_X12_keeps ys_X12_keeps (fx_s9 (List.mem_of_getElem? (i := 116) rfl) rfl) sh_159 rfl (c_X12_keeps l G hT) (As := [.int (M70 179 (x1).toNatClampNeg)]) (rest := [.int x1, .ref (G.2.2.2 + 179)]) rfl rfl ⟨Nat.le_of_ble_eq_true rfl, Nat.le_of_ble_eq_true rfl⟩ ⟨Nat.le_refl _, Nat.le_refl _⟩ hl.1 (Nat.le_of_ble_eq_true rfl) dX12_keepsTold_114 (fun r75 M74 H locs hT h => ?_)
      obtain ⟨hi77, hT⟩ := hT
      refine fx_iast X h (k := 179) sh_179 hi77 dX12_keepsTold_117 (fun H locs h => ?_)
      obtain ⟨M76, eM76⟩ : ∃ z : Mm, z = m_up M74 179 (x1).toNatClampNeg r75 := ⟨_, rfl⟩
      have hT := hT M76 eM76
      rw [← eM76] at h
      refine lv_aload_n hx hb dX12_keepsTold_118 rfl (lv_at hl 0 rfl) ?_
      refine fx_getR X h (k := 159) (j := 48) (r := 184) sh_159 rfl fl_RX12_86 dX12_keepsTold_119 ?_
      refine lv_iload_n hx hb dX12_keepsTold_122 rfl (lv_at hl 1 rfl) ?_
      refine lv_aload_n hx hb dX12_keepsTold_123 rfl (lv_at hl 0 rfl) ?_
      refine lv_aload_n hx hb dX12_keepsTold_124 rfl (lv_at hl 0 rfl) ?_
      refine fx_getR X h (k := 159) (j := 48) (r := 184) sh_159 rfl fl_RX12_86 dX12_keepsTold_125 ?_
      refine lv_iload_n hx hb dX12_keepsTold_128 rfl (lv_at hl 1 rfl) ?_
      obtain ⟨hi78, hT⟩ := hT
      refine fx_iald X h (k := 184) sh_184 hi78 dX12_keepsTold_129 ?_
      refine fx_vi X h ym_X12_keeps yi_X12_keeps ys_X12_keeps (fx_s9 (List.mem_of_getElem? (i := 116) rfl) rfl) sh_159 rfl (c_X12_keeps l G hT) (As := [.int (M76 184 (x1).toNatClampNeg)]) (rest := [.int x1, .ref (G.2.2.2 + 184)]) rfl rfl ⟨Nat.le_of_ble_eq_true rfl, Nat.le_of_ble_eq_true rfl⟩ ⟨Nat.le_refl _, Nat.le_refl _⟩ hl.1 (Nat.le_of_ble_eq_true rfl) dX12_keepsTold_130 (fun r81 M80 H locs hT h => ?_)
      obtain ⟨hi83, hT⟩ := hT
      refine fx_iast X h (k := 184) sh_184 hi83 dX12_keepsTold_133 (fun H locs h => ?_)
      obtain ⟨M82, eM82⟩ : ∃ z : Mm, z = m_up M80 184 (x1).toNatClampNeg r81 := ⟨_, rfl⟩
      have hT := hT M82 eM82
      rw [← eM82] at h
      refine lv_aload_n hx hb dX12_keepsTold_134 rfl (lv_at hl 0 rfl) ?_
      refine fx_getR X h (k := 159) (j := 63) (r := 195) sh_159 rfl fl_RX12_119 dX12_keepsTold_135 ?_
      refine lv_iload_n hx hb dX12_keepsTold_138 rfl (lv_at hl 1 rfl) ?_
      refine lv_aload_n hx hb dX12_keepsTold_139 rfl (lv_at hl 0 rfl) ?_
      refine lv_aload_n hx hb dX12_keepsTold_140 rfl (lv_at hl 0 rfl) ?_
      refine fx_getR X h (k := 159) (j := 63) (r := 195) sh_159 rfl fl_RX12_119 dX12_keepsTold_141 ?_
      refine lv_iload_n hx hb dX12_keepsTold_144 rfl (lv_at hl 1 rfl) ?_
      obtain ⟨hi84, hT⟩ := hT
      refine fx_iald X h (k := 195) sh_195 hi84 dX12_keepsTold_145 ?_
      refine fx_vi X h ym_X12_keeps yi_X12_keeps ys_X12_keeps (fx_s9 (List.mem_of_getElem? (i := 116) rfl) rfl) sh_159 rfl (c_X12_keeps l G hT) (As := [.int (M82 195 (x1).toNatClampNeg)]) (rest := [.int x1, .ref (G.2.2.2 + 195)]) rfl rfl ⟨Nat.le_of_ble_eq_true rfl, Nat.le_of_ble_eq_true rfl⟩ ⟨Nat.le_refl _, Nat.le_refl _⟩ hl.1 (Nat.le_of_ble_eq_true rfl) dX12_keepsTold_146 (fun r87 M86 H locs hT h => ?_)
      obtain ⟨hi89, hT⟩ := hT
      refine fx_iast X h (k := 195) sh_195 hi89 dX12_keepsTold_149 (fun H locs h => ?_)
      obtain ⟨M88, eM88⟩ : ∃ z : Mm, z = m_up M86 195 (x1).toNatClampNeg r87 := ⟨_, rfl⟩
      have hT := hT M88 eM88
      rw [← eM88] at h
      refine lv_aload_n hx hb dX12_keepsTold_150 rfl (lv_at hl 0 rfl) ?_
      refine fx_getR X h (k := 159) (j := 64) (r := 196) sh_159 rfl fl_RX12_122 dX12_keepsTold_151 ?_
      refine lv_iload_n hx hb dX12_keepsTold_154 rfl (lv_at hl 1 rfl) ?_
      refine lv_aload_n hx hb dX12_keepsTold_155 rfl (lv_at hl 0 rfl) ?_
      refine lv_aload_n hx hb dX12_keepsTold_156 rfl (lv_at hl 0 rfl) ?_
      refine fx_getR X h (k := 159) (j := 64) (r := 196) sh_159 rfl fl_RX12_122 dX12_keepsTold_157 ?_
      refine lv_iload_n hx hb dX12_keepsTold_160 rfl (lv_at hl 1 rfl) ?_
      obtain ⟨hi90, hT⟩ := hT
      refine fx_iald X h (k := 196) sh_196 hi90 dX12_keepsTold_161 ?_
      refine fx_vi X h ym_X12_keeps yi_X12_keeps ys_X12_keeps (fx_s9 (List.mem_of_getElem? (i := 116) rfl) rfl) sh_159 rfl (c_X12_keeps l G hT) (As := [.int (M88 196 (x1).toNatClampNeg)]) (rest := [.int x1, .ref (G.2.2.2 + 196)]) rfl rfl ⟨Nat.le_of_ble_eq_true rfl, Nat.le_of_ble_eq_true rfl⟩ ⟨Nat.le_refl _, Nat.le_refl _⟩ hl.1 (Nat.le_of_ble_eq_true rfl) dX12_keepsTold_162 (fun r93 M92 H locs hT h => ?_)
      obtain ⟨hi95, hT⟩ := hT
      refine fx_iast X h (k := 196) sh_196 hi95 dX12_keepsTold_165 (fun H locs h => ?_)
      obtain ⟨M94, eM94⟩ : ∃ z : Mm, z = m_up M92 196 (x1).toNatClampNeg r93 := ⟨_, rfl⟩
      have hT := hT M94 eM94
      rw [← eM94] at h
      obtain ⟨y96, ey96⟩ : ∃ z : Int32, z = x1 + (1 : Int32) := ⟨_, rfl⟩
      have hT := hT y96 ey96
      refine lv_iinc (v := y96) (lv' := [(1, .int y96), (0, .ref (G.2.2.2 + 159))]) hx hb dX12_keepsTold_166 hl (k := 1) rfl (by rw [ey96]; rfl) (by decide) rfl (fun ls hl => ?_)
      refine lv_goto (tgt := 64) hx hb dX12_keepsTold_169 (by decide) ?_
      exact ih y96 M94 _ _ ls hT h (lv_sub hl [1, 0] rfl)
def T_X12_keepsTold_2 : Nat → Int32 → Mm → (Mm → Prop) → Prop
  | 0, _, _, _ => False
  | n + 1, x1, M, K => (((16 : Int32) ≤ x1 → (T_X12_keepsTold_64 5000 (0 : Int32) M K)) ∧ (¬ (16 : Int32) ≤ x1 → (vp_in x1 16 ∧ (T_X12_keeps (M 163 (x1).toNatClampNeg) M (fun r101 M100 => (vp_in x1 16 ∧ (∀ M102 : Mm, M102 = m_up M100 163 (x1).toNatClampNeg r101 → (vp_in x1 16 ∧ (T_X12_keeps (M102 164 (x1).toNatClampNeg) M102 (fun r107 M106 => (vp_in x1 16 ∧ (∀ M108 : Mm, M108 = m_up M106 164 (x1).toNatClampNeg r107 → (vp_in x1 16 ∧ (T_X12_keeps (M108 165 (x1).toNatClampNeg) M108 (fun r113 M112 => (vp_in x1 16 ∧ (∀ M114 : Mm, M114 = m_up M112 165 (x1).toNatClampNeg r113 → (∀ y116 : Int32, y116 = x1 + (1 : Int32) → (T_X12_keepsTold_2 n y116 M114 K)))))))))))))))))))
set_option maxHeartbeats 4000000 in
set_option maxRecDepth 100000 in
theorem w_X12_keepsTold_2 {p : Program} {l : Launch} {e : Env} {s : State} {m : MethodId} {args : Array Value} {below : List Frame} {meth : Method} {c : Code} {G : fx_G} {K : Mm → Prop} (X : fx_C G p s m c args cX12_keepsTold 2 RX12) (hr : meth.sig.returnType = none) (hk : meth.locks = false) : ∀ (n : Nat) (x1 : Int32) (M : Mm) (H : Heap) (locs : List Loc) (ls : Array Slot), T_X12_keepsTold_2 n x1 M K → fx_H G SH M s H locs → lv_has ls 2 [(0, .ref (G.2.2.2 + 159)), (1, .int x1)] → W p l e (fx_rm (1)) s m args below meth c H locs 0 0 (MQ below (va_Qv K (fx_R G SH) (fx_A G)) args s 0 0 (fx_A G)) (F0 m 2 ls []) := by
  obtain ⟨⟨hx, hb, hml, hown, hts⟩, hK, hQ⟩ := id X
  intro n
  induction n with
  | zero =>
    intro x1 M H locs ls hT
    exact hT.elim
  | succ n ih =>
    intro x1 M H locs ls hT h hl
    rw [T_X12_keepsTold_2] at hT
    refine lv_iload_n hx hb dX12_keepsTold_2 rfl (lv_at hl 1 rfl) ?_
    refine lv_bipush (v := 16) hx hb dX12_keepsTold_3 (by decide) ?_
    refine lv_icmp_ge (tgt := 62) hx hb dX12_keepsTold_5 (by decide) (fun hc97 => ?_) (fun hc97 => ?_)
    · have hT := hT.1 hc97
      refine lv_iconst (v := 0) hx hb dX12_keepsTold_62 (by decide) ?_
      refine lv_istore_n (lv' := [(1, .int (0 : Int32)), (0, .ref (G.2.2.2 + 159))]) hx hb dX12_keepsTold_63 rfl hl (by decide) rfl (fun ls hl => ?_)
      exact w_X12_keepsTold_64 X hr hk 5000 (0 : Int32) M _ _ ls hT h (lv_sub hl [1, 0] rfl)
    · have hT := hT.2 hc97
      refine lv_aload_n hx hb dX12_keepsTold_8 rfl (lv_at hl 0 rfl) ?_
      refine fx_getR X h (k := 159) (j := 8) (r := 163) sh_159 rfl fl_RX12_19 dX12_keepsTold_9 ?_
      refine lv_iload_n hx hb dX12_keepsTold_12 rfl (lv_at hl 1 rfl) ?_
      refine lv_aload_n hx hb dX12_keepsTold_13 rfl (lv_at hl 0 rfl) ?_
      refine lv_aload_n hx hb dX12_keepsTold_14 rfl (lv_at hl 0 rfl) ?_
      refine fx_getR X h (k := 159) (j := 8) (r := 163) sh_159 rfl fl_RX12_19 dX12_keepsTold_15 ?_
      refine lv_iload_n hx hb dX12_keepsTold_18 rfl (lv_at hl 1 rfl) ?_
      obtain ⟨hi98, hT⟩ := hT
      refine fx_iald X h (k := 163) sh_163 hi98 dX12_keepsTold_19 ?_
      refine fx_vi X h ym_X12_keeps yi_X12_keeps ys_X12_keeps (fx_s9 (List.mem_of_getElem? (i := 116) rfl) rfl) sh_159 rfl (c_X12_keeps l G hT) (As := [.int (M 163 (x1).toNatClampNeg)]) (rest := [.int x1, .ref (G.2.2.2 + 163)]) rfl rfl ⟨Nat.le_of_ble_eq_true rfl, Nat.le_of_ble_eq_true rfl⟩ ⟨Nat.le_refl _, Nat.le_refl _⟩ hl.1 (Nat.le_of_ble_eq_true rfl) dX12_keepsTold_20 (fun r101 M100 H locs hT h => ?_)
      obtain ⟨hi103, hT⟩ := hT
      refine fx_iast X h (k := 163) sh_163 hi103 dX12_keepsTold_23 (fun H locs h => ?_)
      obtain ⟨M102, eM102⟩ : ∃ z : Mm, z = m_up M100 163 (x1).toNatClampNeg r101 := ⟨_, rfl⟩
      have hT := hT M102 eM102
      rw [← eM102] at h
      refine lv_aload_n hx hb dX12_keepsTold_24 rfl (lv_at hl 0 rfl) ?_
      refine fx_getR X h (k := 159) (j := 9) (r := 164) sh_159 rfl fl_RX12_22 dX12_keepsTold_25 ?_
      refine lv_iload_n hx hb dX12_keepsTold_28 rfl (lv_at hl 1 rfl) ?_
      refine lv_aload_n hx hb dX12_keepsTold_29 rfl (lv_at hl 0 rfl) ?_
      refine lv_aload_n hx hb dX12_keepsTold_30 rfl (lv_at hl 0 rfl) ?_
      refine fx_getR X h (k := 159) (j := 9) (r := 164) sh_159 rfl fl_RX12_22 dX12_keepsTold_31 ?_
      refine lv_iload_n hx hb dX12_keepsTold_34 rfl (lv_at hl 1 rfl) ?_
      obtain ⟨hi104, hT⟩ := hT
      refine fx_iald X h (k := 164) sh_164 hi104 dX12_keepsTold_35 ?_
      refine fx_vi X h ym_X12_keeps yi_X12_keeps ys_X12_keeps (fx_s9 (List.mem_of_getElem? (i := 116) rfl) rfl) sh_159 rfl (c_X12_keeps l G hT) (As := [.int (M102 164 (x1).toNatClampNeg)]) (rest := [.int x1, .ref (G.2.2.2 + 164)]) rfl rfl ⟨Nat.le_of_ble_eq_true rfl, Nat.le_of_ble_eq_true rfl⟩ ⟨Nat.le_refl _, Nat.le_refl _⟩ hl.1 (Nat.le_of_ble_eq_true rfl) dX12_keepsTold_36 (fun r107 M106 H locs hT h => ?_)
      obtain ⟨hi109, hT⟩ := hT
      refine fx_iast X h (k := 164) sh_164 hi109 dX12_keepsTold_39 (fun H locs h => ?_)
      obtain ⟨M108, eM108⟩ : ∃ z : Mm, z = m_up M106 164 (x1).toNatClampNeg r107 := ⟨_, rfl⟩
      have hT := hT M108 eM108
      rw [← eM108] at h
      refine lv_aload_n hx hb dX12_keepsTold_40 rfl (lv_at hl 0 rfl) ?_
      refine fx_getR X h (k := 159) (j := 10) (r := 165) sh_159 rfl fl_RX12_25 dX12_keepsTold_41 ?_
      refine lv_iload_n hx hb dX12_keepsTold_44 rfl (lv_at hl 1 rfl) ?_
      refine lv_aload_n hx hb dX12_keepsTold_45 rfl (lv_at hl 0 rfl) ?_
      refine lv_aload_n hx hb dX12_keepsTold_46 rfl (lv_at hl 0 rfl) ?_
      refine fx_getR X h (k := 159) (j := 10) (r := 165) sh_159 rfl fl_RX12_25 dX12_keepsTold_47 ?_
      refine lv_iload_n hx hb dX12_keepsTold_50 rfl (lv_at hl 1 rfl) ?_
      obtain ⟨hi110, hT⟩ := hT
      refine fx_iald X h (k := 165) sh_165 hi110 dX12_keepsTold_51 ?_
      refine fx_vi X h ym_X12_keeps yi_X12_keeps ys_X12_keeps (fx_s9 (List.mem_of_getElem? (i := 116) rfl) rfl) sh_159 rfl (c_X12_keeps l G hT) (As := [.int (M108 165 (x1).toNatClampNeg)]) (rest := [.int x1, .ref (G.2.2.2 + 165)]) rfl rfl ⟨Nat.le_of_ble_eq_true rfl, Nat.le_of_ble_eq_true rfl⟩ ⟨Nat.le_refl _, Nat.le_refl _⟩ hl.1 (Nat.le_of_ble_eq_true rfl) dX12_keepsTold_52 (fun r113 M112 H locs hT h => ?_)
      obtain ⟨hi115, hT⟩ := hT
      refine fx_iast X h (k := 165) sh_165 hi115 dX12_keepsTold_55 (fun H locs h => ?_)
      obtain ⟨M114, eM114⟩ : ∃ z : Mm, z = m_up M112 165 (x1).toNatClampNeg r113 := ⟨_, rfl⟩
      have hT := hT M114 eM114
      rw [← eM114] at h
      obtain ⟨y116, ey116⟩ : ∃ z : Int32, z = x1 + (1 : Int32) := ⟨_, rfl⟩
      have hT := hT y116 ey116
      refine lv_iinc (v := y116) (lv' := [(1, .int y116), (0, .ref (G.2.2.2 + 159))]) hx hb dX12_keepsTold_56 hl (k := 1) rfl (by rw [ey116]; rfl) (by decide) rfl (fun ls hl => ?_)
      refine lv_goto (tgt := 2) hx hb dX12_keepsTold_59 (by decide) ?_
      exact ih y116 M114 _ _ ls hT h (lv_sub hl [1, 0] rfl)
def T_X12_keepsTold (M : Mm) (K : Mm → Prop) : Prop := (T_X12_keepsTold_2 5000 (0 : Int32) M K)
set_option maxHeartbeats 4000000 in
set_option maxRecDepth 100000 in
theorem c_X12_keepsTold (l : Launch) (G : fx_G) {M : Mm} {K : Mm → Prop} (hT : T_X12_keepsTold M K) : Met l yX12_keepsTold (fx_ws yX12_keepsTold cX12_keepsTold 2 none) (fx_rm (1)) (va_Pc [.ref (G.2.2.2 + 159)] (fx_P G SH M)) (va_Qv K (fx_R G SH) (fx_A G)) 0 0 (fx_A G) := by
  refine fx_met (own := RX12) (by decide +kernel) rfl (Nat.le_of_ble_eq_true rfl) (fun p e s m below meth c X hr hk h ls hl => ?_)
  obtain ⟨⟨hx, hb, hml, hown, hts⟩, hK, hQ⟩ := id X
  have hl : lv_has ls 2 [(0, .ref (G.2.2.2 + 159))] := hl
  unfold T_X12_keepsTold at hT
  refine lv_iconst (v := 0) hx hb dX12_keepsTold_0 (by decide) ?_
  refine lv_istore_n (lv' := [(1, .int (0 : Int32)), (0, .ref (G.2.2.2 + 159))]) hx hb dX12_keepsTold_1 rfl hl (by decide) rfl (fun ls hl => ?_)
  exact w_X12_keepsTold_2 X hr hk 5000 (0 : Int32) M _ _ ls hT h (lv_sub hl [1, 0] rfl)
/-! MockParcelsModel.image(Z)Z -/
theorem dX12_image_0 : decode cX12_image 0 = .ok (.aload_n 0, 1) := by decide +kernel
theorem dX12_image_1 : decode cX12_image 1 = .ok (.iconst 0, 1) := by decide +kernel
theorem dX12_image_2 : decode cX12_image 2 = .ok (.putfield 134, 3) := by decide +kernel
theorem dX12_image_5 : decode cX12_image 5 = .ok (.iload_n 1, 1) := by decide +kernel
theorem dX12_image_6 : decode cX12_image 6 = .ok (.ifCond .ne 12, 3) := by decide +kernel
theorem dX12_image_9 : decode cX12_image 9 = .ok (.aload_n 0, 1) := by decide +kernel
theorem dX12_image_10 : decode cX12_image 10 = .ok (.getfield 527, 3) := by decide +kernel
theorem dX12_image_13 : decode cX12_image 13 = .ok (.ifCond .ne 5, 3) := by decide +kernel
theorem dX12_image_16 : decode cX12_image 16 = .ok (.iconst 0, 1) := by decide +kernel
theorem dX12_image_17 : decode cX12_image 17 = .ok (.ireturn, 1) := by decide +kernel
theorem dX12_image_18 : decode cX12_image 18 = .ok (.aload_n 0, 1) := by decide +kernel
theorem dX12_image_19 : decode cX12_image 19 = .ok (.iload_n 1, 1) := by decide +kernel
theorem dX12_image_20 : decode cX12_image 20 = .ok (.putfield 521, 3) := by decide +kernel
theorem dX12_image_23 : decode cX12_image 23 = .ok (.aload_n 0, 1) := by decide +kernel
theorem dX12_image_24 : decode cX12_image 24 = .ok (.iconst 1, 1) := by decide +kernel
theorem dX12_image_25 : decode cX12_image 25 = .ok (.putfield 527, 3) := by decide +kernel
theorem dX12_image_28 : decode cX12_image 28 = .ok (.aload_n 0, 1) := by decide +kernel
theorem dX12_image_29 : decode cX12_image 29 = .ok (.iconst 0, 1) := by decide +kernel
theorem dX12_image_30 : decode cX12_image 30 = .ok (.putfield 518, 3) := by decide +kernel
theorem dX12_image_33 : decode cX12_image 33 = .ok (.iconst 0, 1) := by decide +kernel
theorem dX12_image_34 : decode cX12_image 34 = .ok (.istore_n 2, 1) := by decide +kernel
theorem dX12_image_35 : decode cX12_image 35 = .ok (.iload_n 2, 1) := by decide +kernel
theorem dX12_image_36 : decode cX12_image 36 = .ok (.sipush 135, 3) := by decide +kernel
theorem dX12_image_39 : decode cX12_image 39 = .ok (.if_icmp .ge 25, 3) := by decide +kernel
theorem dX12_image_42 : decode cX12_image 42 = .ok (.aload_n 0, 1) := by decide +kernel
theorem dX12_image_43 : decode cX12_image 43 = .ok (.getfield 7, 3) := by decide +kernel
theorem dX12_image_46 : decode cX12_image 46 = .ok (.iload_n 2, 1) := by decide +kernel
theorem dX12_image_47 : decode cX12_image 47 = .ok (.aload_n 0, 1) := by decide +kernel
theorem dX12_image_48 : decode cX12_image 48 = .ok (.aload_n 0, 1) := by decide +kernel
theorem dX12_image_49 : decode cX12_image 49 = .ok (.getfield 7, 3) := by decide +kernel
theorem dX12_image_52 : decode cX12_image 52 = .ok (.iload_n 2, 1) := by decide +kernel
theorem dX12_image_53 : decode cX12_image 53 = .ok (.iaload, 1) := by decide +kernel
theorem dX12_image_54 : decode cX12_image 54 = .ok (.invokevirtual 524, 3) := by decide +kernel
theorem dX12_image_57 : decode cX12_image 57 = .ok (.iastore, 1) := by decide +kernel
theorem dX12_image_58 : decode cX12_image 58 = .ok (.iinc 2 1, 3) := by decide +kernel
theorem dX12_image_61 : decode cX12_image 61 = .ok (.goto (-26), 3) := by decide +kernel
theorem dX12_image_64 : decode cX12_image 64 = .ok (.aload_n 0, 1) := by decide +kernel
theorem dX12_image_65 : decode cX12_image 65 = .ok (.invokevirtual 530, 3) := by decide +kernel
theorem dX12_image_68 : decode cX12_image 68 = .ok (.aload_n 0, 1) := by decide +kernel
theorem dX12_image_69 : decode cX12_image 69 = .ok (.invokevirtual 533, 3) := by decide +kernel
theorem dX12_image_72 : decode cX12_image 72 = .ok (.iconst 0, 1) := by decide +kernel
theorem dX12_image_73 : decode cX12_image 73 = .ok (.istore_n 2, 1) := by decide +kernel
theorem dX12_image_74 : decode cX12_image 74 = .ok (.iload_n 2, 1) := by decide +kernel
theorem dX12_image_75 : decode cX12_image 75 = .ok (.sipush 600, 3) := by decide +kernel
theorem dX12_image_78 : decode cX12_image 78 = .ok (.if_icmp .ge 25, 3) := by decide +kernel
theorem dX12_image_81 : decode cX12_image 81 = .ok (.aload_n 0, 1) := by decide +kernel
theorem dX12_image_82 : decode cX12_image 82 = .ok (.getfield 34, 3) := by decide +kernel
theorem dX12_image_85 : decode cX12_image 85 = .ok (.iload_n 2, 1) := by decide +kernel
theorem dX12_image_86 : decode cX12_image 86 = .ok (.aload_n 0, 1) := by decide +kernel
theorem dX12_image_87 : decode cX12_image 87 = .ok (.aload_n 0, 1) := by decide +kernel
theorem dX12_image_88 : decode cX12_image 88 = .ok (.getfield 34, 3) := by decide +kernel
theorem dX12_image_91 : decode cX12_image 91 = .ok (.iload_n 2, 1) := by decide +kernel
theorem dX12_image_92 : decode cX12_image 92 = .ok (.iaload, 1) := by decide +kernel
theorem dX12_image_93 : decode cX12_image 93 = .ok (.invokevirtual 524, 3) := by decide +kernel
theorem dX12_image_96 : decode cX12_image 96 = .ok (.iastore, 1) := by decide +kernel
theorem dX12_image_97 : decode cX12_image 97 = .ok (.iinc 2 1, 3) := by decide +kernel
theorem dX12_image_100 : decode cX12_image 100 = .ok (.goto (-26), 3) := by decide +kernel
theorem dX12_image_103 : decode cX12_image 103 = .ok (.aload_n 0, 1) := by decide +kernel
theorem dX12_image_104 : decode cX12_image 104 = .ok (.invokevirtual 536, 3) := by decide +kernel
theorem dX12_image_107 : decode cX12_image 107 = .ok (.iload_n 1, 1) := by decide +kernel
theorem dX12_image_108 : decode cX12_image 108 = .ok (.ifCond .ne 8, 3) := by decide +kernel
theorem dX12_image_111 : decode cX12_image 111 = .ok (.aload_n 0, 1) := by decide +kernel
theorem dX12_image_112 : decode cX12_image 112 = .ok (.iconst 0, 1) := by decide +kernel
theorem dX12_image_113 : decode cX12_image 113 = .ok (.putfield 138, 3) := by decide +kernel
theorem dX12_image_116 : decode cX12_image 116 = .ok (.iconst 1, 1) := by decide +kernel
theorem dX12_image_117 : decode cX12_image 117 = .ok (.ireturn, 1) := by decide +kernel
def T_X12_image_74 : Nat → Int32 → Int32 → Mm → (Int32 → Mm → Prop) → Prop
  | 0, _, _, _, _ => False
  | n + 1, x1, x2, M, K => (((600 : Int32) ≤ x2 → (T_X12_keepsLaw M (fun M3 => ((x1 = 0 → (∀ M5 : Mm, M5 = m_up M3 159 3 (0 : Int32) → (K (1 : Int32) M5))) ∧ (¬ x1 = 0 → (K (1 : Int32) M3)))))) ∧ (¬ (600 : Int32) ≤ x2 → (vp_in x2 600 ∧ (T_X12_keeps (M 168 (x2).toNatClampNeg) M (fun r9 M8 => (vp_in x2 600 ∧ (∀ M10 : Mm, M10 = m_up M8 168 (x2).toNatClampNeg r9 → (∀ y12 : Int32, y12 = x2 + (1 : Int32) → (T_X12_image_74 n x1 y12 M10 K)))))))))
set_option maxHeartbeats 4000000 in
set_option maxRecDepth 100000 in
theorem w_X12_image_74 {p : Program} {l : Launch} {e : Env} {s : State} {m : MethodId} {args : Array Value} {below : List Frame} {meth : Method} {c : Code} {G : fx_G} {K : Int32 → Mm → Prop} (X : fx_C G p s m c args cX12_image 3 RX12) (hr : meth.sig.returnType = (some .boolean)) (hk : meth.locks = false) : ∀ (n : Nat) (x1 : Int32) (x2 : Int32) (M : Mm) (H : Heap) (locs : List Loc) (ls : Array Slot), T_X12_image_74 n x1 x2 M K → fx_H G SH M s H locs → lv_has ls 3 [(0, .ref (G.2.2.2 + 159)), (1, .int x1), (2, .int x2)] → W p l e (fx_rm (2)) s m args below meth c H locs 0 0 (MQ below (va_Qi K (fx_R G SH) (fx_A G)) args s 0 0 (fx_A G)) (F0 m 74 ls []) := by
  obtain ⟨⟨hx, hb, hml, hown, hts⟩, hK, hQ⟩ := id X
  intro n
  induction n with
  | zero =>
    intro x1 x2 M H locs ls hT
    exact hT.elim
  | succ n ih =>
    intro x1 x2 M H locs ls hT h hl
    rw [T_X12_image_74] at hT
    refine lv_iload_n hx hb dX12_image_74 rfl (lv_at hl 2 rfl) ?_
    refine lv_sipush (v := 600) hx hb dX12_image_75 (by decide) ?_
    refine lv_icmp_ge (tgt := 103) hx hb dX12_image_78 (by decide) (fun hc1 => ?_) (fun hc1 => ?_)
    · have hT := hT.1 hc1
      refine lv_aload_n hx hb dX12_image_103 rfl (lv_at hl 0 rfl) ?_
      refine fx_vv X h ym_X12_keepsLaw yi_X12_keepsLaw ys_X12_keepsLaw (fx_s9 (List.mem_of_getElem? (i := 128) rfl) rfl) sh_159 rfl (c_X12_keepsLaw l G hT) (As := []) (rest := []) rfl rfl ⟨Nat.le_of_ble_eq_true rfl, Nat.le_of_ble_eq_true rfl⟩ ⟨Nat.le_refl _, Nat.le_refl _⟩ hl.1 (Nat.le_of_ble_eq_true rfl) dX12_image_104 (fun M3 H locs hT h => ?_)
      refine lv_iload_n hx hb dX12_image_107 rfl (lv_at hl 1 rfl) ?_
      refine lv_if_ne (tgt := 116) hx hb dX12_image_108 (by decide) (fun hc4 => ?_) (fun hc4 => ?_)
      · have hT := hT.2 hc4
        refine lv_iconst (v := 1) hx hb dX12_image_116 (by decide) ?_
        exact fx_zret X hr hk h (Or.inr rfl) hT dX12_image_117
      · have hT := hT.1 hc4
        refine lv_aload_n hx hb dX12_image_111 rfl (lv_at hl 0 rfl) ?_
        refine lv_iconst (v := 0) hx hb dX12_image_112 (by decide) ?_
        refine fx_putI X h (k := 159) (j := 3) sh_159 rfl fl_RX12_138 dX12_image_113 (fun H locs h => ?_)
        obtain ⟨M5, eM5⟩ : ∃ z : Mm, z = m_up M3 159 3 (0 : Int32) := ⟨_, rfl⟩
        have hT := hT M5 eM5
        rw [← eM5] at h
        refine lv_iconst (v := 1) hx hb dX12_image_116 (by decide) ?_
        exact fx_zret X hr hk h (Or.inr rfl) hT dX12_image_117
    · have hT := hT.2 hc1
      refine lv_aload_n hx hb dX12_image_81 rfl (lv_at hl 0 rfl) ?_
      refine fx_getR X h (k := 159) (j := 13) (r := 168) sh_159 rfl fl_RX12_34 dX12_image_82 ?_
      refine lv_iload_n hx hb dX12_image_85 rfl (lv_at hl 2 rfl) ?_
      refine lv_aload_n hx hb dX12_image_86 rfl (lv_at hl 0 rfl) ?_
      refine lv_aload_n hx hb dX12_image_87 rfl (lv_at hl 0 rfl) ?_
      refine fx_getR X h (k := 159) (j := 13) (r := 168) sh_159 rfl fl_RX12_34 dX12_image_88 ?_
      refine lv_iload_n hx hb dX12_image_91 rfl (lv_at hl 2 rfl) ?_
      obtain ⟨hi6, hT⟩ := hT
      refine fx_iald X h (k := 168) sh_168 hi6 dX12_image_92 ?_
      refine fx_vi X h ym_X12_keeps yi_X12_keeps ys_X12_keeps (fx_s9 (List.mem_of_getElem? (i := 116) rfl) rfl) sh_159 rfl (c_X12_keeps l G hT) (As := [.int (M 168 (x2).toNatClampNeg)]) (rest := [.int x2, .ref (G.2.2.2 + 168)]) rfl rfl ⟨Nat.le_of_ble_eq_true rfl, Nat.le_of_ble_eq_true rfl⟩ ⟨Nat.le_refl _, Nat.le_refl _⟩ hl.1 (Nat.le_of_ble_eq_true rfl) dX12_image_93 (fun r9 M8 H locs hT h => ?_)
      obtain ⟨hi11, hT⟩ := hT
      refine fx_iast X h (k := 168) sh_168 hi11 dX12_image_96 (fun H locs h => ?_)
      obtain ⟨M10, eM10⟩ : ∃ z : Mm, z = m_up M8 168 (x2).toNatClampNeg r9 := ⟨_, rfl⟩
      have hT := hT M10 eM10
      rw [← eM10] at h
      obtain ⟨y12, ey12⟩ : ∃ z : Int32, z = x2 + (1 : Int32) := ⟨_, rfl⟩
      have hT := hT y12 ey12
      refine lv_iinc (v := y12) (lv' := [(2, .int y12), (0, .ref (G.2.2.2 + 159)), (1, .int x1)]) hx hb dX12_image_97 hl (k := 2) rfl (by rw [ey12]; rfl) (by decide) rfl (fun ls hl => ?_)
      refine lv_goto (tgt := 74) hx hb dX12_image_100 (by decide) ?_
      exact ih x1 y12 M10 _ _ ls hT h (lv_sub hl [1, 2, 0] rfl)
def T_X12_image_35 : Nat → Int32 → Int32 → Mm → (Int32 → Mm → Prop) → Prop
  | 0, _, _, _, _ => False
  | n + 1, x1, x2, M, K => (((135 : Int32) ≤ x2 → (T_X12_keepsMany M (fun M15 => (T_X12_keepsTold M15 (fun M17 => (T_X12_image_74 5000 x1 (0 : Int32) M17 K)))))) ∧ (¬ (135 : Int32) ≤ x2 → (vp_in x2 135 ∧ (T_X12_keeps (M 160 (x2).toNatClampNeg) M (fun r21 M20 => (vp_in x2 135 ∧ (∀ M22 : Mm, M22 = m_up M20 160 (x2).toNatClampNeg r21 → (∀ y24 : Int32, y24 = x2 + (1 : Int32) → (T_X12_image_35 n x1 y24 M22 K)))))))))
set_option maxHeartbeats 4000000 in
set_option maxRecDepth 100000 in
theorem w_X12_image_35 {p : Program} {l : Launch} {e : Env} {s : State} {m : MethodId} {args : Array Value} {below : List Frame} {meth : Method} {c : Code} {G : fx_G} {K : Int32 → Mm → Prop} (X : fx_C G p s m c args cX12_image 3 RX12) (hr : meth.sig.returnType = (some .boolean)) (hk : meth.locks = false) : ∀ (n : Nat) (x1 : Int32) (x2 : Int32) (M : Mm) (H : Heap) (locs : List Loc) (ls : Array Slot), T_X12_image_35 n x1 x2 M K → fx_H G SH M s H locs → lv_has ls 3 [(0, .ref (G.2.2.2 + 159)), (1, .int x1), (2, .int x2)] → W p l e (fx_rm (2)) s m args below meth c H locs 0 0 (MQ below (va_Qi K (fx_R G SH) (fx_A G)) args s 0 0 (fx_A G)) (F0 m 35 ls []) := by
  obtain ⟨⟨hx, hb, hml, hown, hts⟩, hK, hQ⟩ := id X
  intro n
  induction n with
  | zero =>
    intro x1 x2 M H locs ls hT
    exact hT.elim
  | succ n ih =>
    intro x1 x2 M H locs ls hT h hl
    rw [T_X12_image_35] at hT
    refine lv_iload_n hx hb dX12_image_35 rfl (lv_at hl 2 rfl) ?_
    refine lv_sipush (v := 135) hx hb dX12_image_36 (by decide) ?_
    refine lv_icmp_ge (tgt := 64) hx hb dX12_image_39 (by decide) (fun hc13 => ?_) (fun hc13 => ?_)
    · have hT := hT.1 hc13
      refine lv_aload_n hx hb dX12_image_64 rfl (lv_at hl 0 rfl) ?_
      refine fx_vv X h ym_X12_keepsMany yi_X12_keepsMany ys_X12_keepsMany (fx_s9 (List.mem_of_getElem? (i := 120) rfl) rfl) sh_159 rfl (c_X12_keepsMany l G hT) (As := []) (rest := []) rfl rfl ⟨Nat.le_of_ble_eq_true rfl, Nat.le_of_ble_eq_true rfl⟩ ⟨Nat.le_refl _, Nat.le_refl _⟩ hl.1 (Nat.le_of_ble_eq_true rfl) dX12_image_65 (fun M15 H locs hT h => ?_)
      refine lv_aload_n hx hb dX12_image_68 rfl (lv_at hl 0 rfl) ?_
      refine fx_vv X h ym_X12_keepsTold yi_X12_keepsTold ys_X12_keepsTold (fx_s9 (List.mem_of_getElem? (i := 124) rfl) rfl) sh_159 rfl (c_X12_keepsTold l G hT) (As := []) (rest := []) rfl rfl ⟨Nat.le_of_ble_eq_true rfl, Nat.le_of_ble_eq_true rfl⟩ ⟨Nat.le_refl _, Nat.le_refl _⟩ hl.1 (Nat.le_of_ble_eq_true rfl) dX12_image_69 (fun M17 H locs hT h => ?_)
      refine lv_iconst (v := 0) hx hb dX12_image_72 (by decide) ?_
      refine lv_istore_n (lv' := [(2, .int (0 : Int32)), (0, .ref (G.2.2.2 + 159)), (1, .int x1)]) hx hb dX12_image_73 rfl hl (by decide) rfl (fun ls hl => ?_)
      exact w_X12_image_74 X hr hk 5000 x1 (0 : Int32) M17 _ _ ls hT h (lv_sub hl [1, 2, 0] rfl)
    · have hT := hT.2 hc13
      refine lv_aload_n hx hb dX12_image_42 rfl (lv_at hl 0 rfl) ?_
      refine fx_getR X h (k := 159) (j := 1) (r := 160) sh_159 rfl fl_RX12_7 dX12_image_43 ?_
      refine lv_iload_n hx hb dX12_image_46 rfl (lv_at hl 2 rfl) ?_
      refine lv_aload_n hx hb dX12_image_47 rfl (lv_at hl 0 rfl) ?_
      refine lv_aload_n hx hb dX12_image_48 rfl (lv_at hl 0 rfl) ?_
      refine fx_getR X h (k := 159) (j := 1) (r := 160) sh_159 rfl fl_RX12_7 dX12_image_49 ?_
      refine lv_iload_n hx hb dX12_image_52 rfl (lv_at hl 2 rfl) ?_
      obtain ⟨hi18, hT⟩ := hT
      refine fx_iald X h (k := 160) sh_160 hi18 dX12_image_53 ?_
      refine fx_vi X h ym_X12_keeps yi_X12_keeps ys_X12_keeps (fx_s9 (List.mem_of_getElem? (i := 116) rfl) rfl) sh_159 rfl (c_X12_keeps l G hT) (As := [.int (M 160 (x2).toNatClampNeg)]) (rest := [.int x2, .ref (G.2.2.2 + 160)]) rfl rfl ⟨Nat.le_of_ble_eq_true rfl, Nat.le_of_ble_eq_true rfl⟩ ⟨Nat.le_refl _, Nat.le_refl _⟩ hl.1 (Nat.le_of_ble_eq_true rfl) dX12_image_54 (fun r21 M20 H locs hT h => ?_)
      obtain ⟨hi23, hT⟩ := hT
      refine fx_iast X h (k := 160) sh_160 hi23 dX12_image_57 (fun H locs h => ?_)
      obtain ⟨M22, eM22⟩ : ∃ z : Mm, z = m_up M20 160 (x2).toNatClampNeg r21 := ⟨_, rfl⟩
      have hT := hT M22 eM22
      rw [← eM22] at h
      obtain ⟨y24, ey24⟩ : ∃ z : Int32, z = x2 + (1 : Int32) := ⟨_, rfl⟩
      have hT := hT y24 ey24
      refine lv_iinc (v := y24) (lv' := [(2, .int y24), (0, .ref (G.2.2.2 + 159)), (1, .int x1)]) hx hb dX12_image_58 hl (k := 2) rfl (by rw [ey24]; rfl) (by decide) rfl (fun ls hl => ?_)
      refine lv_goto (tgt := 35) hx hb dX12_image_61 (by decide) ?_
      exact ih x1 y24 M22 _ _ ls hT h (lv_sub hl [1, 2, 0] rfl)
def T_X12_image_18 (x1 : Int32) (M : Mm) (K : Int32 → Mm → Prop) : Prop := ((x1 = 0 ∨ x1 = 1) ∧ (∀ M25 : Mm, M25 = m_up M 159 68 x1 → (∀ M27 : Mm, M27 = m_up M25 159 69 (1 : Int32) → (∀ M28 : Mm, M28 = m_up M27 159 70 (0 : Int32) → (T_X12_image_35 5000 x1 (0 : Int32) M28 K)))))
set_option maxHeartbeats 4000000 in
set_option maxRecDepth 100000 in
theorem w_X12_image_18 {p : Program} {l : Launch} {e : Env} {s : State} {m : MethodId} {args : Array Value} {below : List Frame} {meth : Method} {c : Code} {G : fx_G} {K : Int32 → Mm → Prop} (X : fx_C G p s m c args cX12_image 3 RX12) (hr : meth.sig.returnType = (some .boolean)) (hk : meth.locks = false) : ∀ (x1 : Int32) (M : Mm) (H : Heap) (locs : List Loc) (ls : Array Slot), T_X12_image_18 x1 M K → fx_H G SH M s H locs → lv_has ls 3 [(0, .ref (G.2.2.2 + 159)), (1, .int x1)] → W p l e (fx_rm (2)) s m args below meth c H locs 0 0 (MQ below (va_Qi K (fx_R G SH) (fx_A G)) args s 0 0 (fx_A G)) (F0 m 18 ls []) := by
  obtain ⟨⟨hx, hb, hml, hown, hts⟩, hK, hQ⟩ := id X
  intro x1 M H locs ls hT h hl
  unfold T_X12_image_18 at hT
  refine lv_aload_n hx hb dX12_image_18 rfl (lv_at hl 0 rfl) ?_
  refine lv_iload_n hx hb dX12_image_19 rfl (lv_at hl 1 rfl) ?_
  obtain ⟨hz26, hT⟩ := hT
  refine fx_putZ X h (k := 159) (j := 68) hz26 sh_159 rfl fl_RX12_521 dX12_image_20 (fun H locs h => ?_)
  obtain ⟨M25, eM25⟩ : ∃ z : Mm, z = m_up M 159 68 x1 := ⟨_, rfl⟩
  have hT := hT M25 eM25
  rw [← eM25] at h
  refine lv_aload_n hx hb dX12_image_23 rfl (lv_at hl 0 rfl) ?_
  refine lv_iconst (v := 1) hx hb dX12_image_24 (by decide) ?_
  refine fx_putZ X h (k := 159) (j := 69) (Or.inr rfl) sh_159 rfl fl_RX12_527 dX12_image_25 (fun H locs h => ?_)
  obtain ⟨M27, eM27⟩ : ∃ z : Mm, z = m_up M25 159 69 (1 : Int32) := ⟨_, rfl⟩
  have hT := hT M27 eM27
  rw [← eM27] at h
  refine lv_aload_n hx hb dX12_image_28 rfl (lv_at hl 0 rfl) ?_
  refine lv_iconst (v := 0) hx hb dX12_image_29 (by decide) ?_
  refine fx_putI X h (k := 159) (j := 70) sh_159 rfl fl_RX12_518 dX12_image_30 (fun H locs h => ?_)
  obtain ⟨M28, eM28⟩ : ∃ z : Mm, z = m_up M27 159 70 (0 : Int32) := ⟨_, rfl⟩
  have hT := hT M28 eM28
  rw [← eM28] at h
  refine lv_iconst (v := 0) hx hb dX12_image_33 (by decide) ?_
  refine lv_istore_n (lv' := [(2, .int (0 : Int32)), (0, .ref (G.2.2.2 + 159)), (1, .int x1)]) hx hb dX12_image_34 rfl hl (by decide) rfl (fun ls hl => ?_)
  exact w_X12_image_35 X hr hk 5000 x1 (0 : Int32) M28 _ _ ls hT h (lv_sub hl [1, 2, 0] rfl)
def T_X12_image (x1 : Int32) (M : Mm) (K : Int32 → Mm → Prop) : Prop := (∀ M29 : Mm, M29 = m_up M 159 0 (0 : Int32) → ((x1 = 0 → (((M29 159 69) = 0 → (K (0 : Int32) M29)) ∧ (¬ (M29 159 69) = 0 → (T_X12_image_18 x1 M29 K)))) ∧ (¬ x1 = 0 → (T_X12_image_18 x1 M29 K))))
set_option maxHeartbeats 4000000 in
set_option maxRecDepth 100000 in
theorem c_X12_image (l : Launch) (G : fx_G) {x1 : Int32} {M : Mm} {K : Int32 → Mm → Prop} (hT : T_X12_image x1 M K) : Met l yX12_image (fx_ws yX12_image cX12_image 3 (some .boolean)) (fx_rm (2)) (va_Pc [.ref (G.2.2.2 + 159), .int x1] (fx_P G SH M)) (va_Qi K (fx_R G SH) (fx_A G)) 0 0 (fx_A G) := by
  refine fx_met (own := RX12) (by decide +kernel) rfl (Nat.le_of_ble_eq_true rfl) (fun p e s m below meth c X hr hk h ls hl => ?_)
  obtain ⟨⟨hx, hb, hml, hown, hts⟩, hK, hQ⟩ := id X
  have hl : lv_has ls 3 [(0, .ref (G.2.2.2 + 159)), (1, .int x1)] := hl
  unfold T_X12_image at hT
  refine lv_aload_n hx hb dX12_image_0 rfl (lv_at hl 0 rfl) ?_
  refine lv_iconst (v := 0) hx hb dX12_image_1 (by decide) ?_
  refine fx_putI X h (k := 159) (j := 0) sh_159 rfl fl_RX12_134 dX12_image_2 (fun H locs h => ?_)
  obtain ⟨M29, eM29⟩ : ∃ z : Mm, z = m_up M 159 0 (0 : Int32) := ⟨_, rfl⟩
  have hT := hT M29 eM29
  rw [← eM29] at h
  refine lv_iload_n hx hb dX12_image_5 rfl (lv_at hl 1 rfl) ?_
  refine lv_if_ne (tgt := 18) hx hb dX12_image_6 (by decide) (fun hc30 => ?_) (fun hc30 => ?_)
  · have hT := hT.2 hc30
    exact w_X12_image_18 X hr hk x1 M29 _ _ ls hT h (lv_sub hl [0, 1] rfl)
  · have hT := hT.1 hc30
    refine lv_aload_n hx hb dX12_image_9 rfl (lv_at hl 0 rfl) ?_
    refine fx_getI X h (k := 159) (j := 69) sh_159 rfl fl_RX12_527 dX12_image_10 ?_
    refine lv_if_ne (tgt := 18) hx hb dX12_image_13 (by decide) (fun hc31 => ?_) (fun hc31 => ?_)
    · have hT := hT.2 hc31
      exact w_X12_image_18 X hr hk x1 M29 _ _ ls hT h (lv_sub hl [0, 1] rfl)
    · have hT := hT.1 hc31
      refine lv_iconst (v := 0) hx hb dX12_image_16 (by decide) ?_
      exact fx_zret X hr hk h (Or.inl rfl) hT dX12_image_17
/-! MockParcelsModel.look(I)I -/
theorem dX12_look_0 : decode cX12_look 0 = .ok (.aload_n 0, 1) := by decide +kernel
theorem dX12_look_1 : decode cX12_look 1 = .ok (.iconst 0, 1) := by decide +kernel
theorem dX12_look_2 : decode cX12_look 2 = .ok (.putfield 134, 3) := by decide +kernel
theorem dX12_look_5 : decode cX12_look 5 = .ok (.iload_n 1, 1) := by decide +kernel
theorem dX12_look_6 : decode cX12_look 6 = .ok (.ifCond .ne 8, 3) := by decide +kernel
theorem dX12_look_9 : decode cX12_look 9 = .ok (.aload_n 0, 1) := by decide +kernel
theorem dX12_look_10 : decode cX12_look 10 = .ok (.getfield 147, 3) := by decide +kernel
theorem dX12_look_13 : decode cX12_look 13 = .ok (.ireturn, 1) := by decide +kernel
theorem dX12_look_14 : decode cX12_look 14 = .ok (.iload_n 1, 1) := by decide +kernel
theorem dX12_look_15 : decode cX12_look 15 = .ok (.iconst 1, 1) := by decide +kernel
theorem dX12_look_16 : decode cX12_look 16 = .ok (.if_icmp .ne 8, 3) := by decide +kernel
theorem dX12_look_19 : decode cX12_look 19 = .ok (.aload_n 0, 1) := by decide +kernel
theorem dX12_look_20 : decode cX12_look 20 = .ok (.getfield 150, 3) := by decide +kernel
theorem dX12_look_23 : decode cX12_look 23 = .ok (.ireturn, 1) := by decide +kernel
theorem dX12_look_24 : decode cX12_look 24 = .ok (.iload_n 1, 1) := by decide +kernel
theorem dX12_look_25 : decode cX12_look 25 = .ok (.iconst 2, 1) := by decide +kernel
theorem dX12_look_26 : decode cX12_look 26 = .ok (.if_icmp .ne 10, 3) := by decide +kernel
theorem dX12_look_29 : decode cX12_look 29 = .ok (.aload_n 0, 1) := by decide +kernel
theorem dX12_look_30 : decode cX12_look 30 = .ok (.getfield 7, 3) := by decide +kernel
theorem dX12_look_33 : decode cX12_look 33 = .ok (.iconst 3, 1) := by decide +kernel
theorem dX12_look_34 : decode cX12_look 34 = .ok (.iaload, 1) := by decide +kernel
theorem dX12_look_35 : decode cX12_look 35 = .ok (.ireturn, 1) := by decide +kernel
theorem dX12_look_36 : decode cX12_look 36 = .ok (.iload_n 1, 1) := by decide +kernel
theorem dX12_look_37 : decode cX12_look 37 = .ok (.iconst 3, 1) := by decide +kernel
theorem dX12_look_38 : decode cX12_look 38 = .ok (.if_icmp .ne 10, 3) := by decide +kernel
theorem dX12_look_41 : decode cX12_look 41 = .ok (.aload_n 0, 1) := by decide +kernel
theorem dX12_look_42 : decode cX12_look 42 = .ok (.getfield 7, 3) := by decide +kernel
theorem dX12_look_45 : decode cX12_look 45 = .ok (.iconst 4, 1) := by decide +kernel
theorem dX12_look_46 : decode cX12_look 46 = .ok (.iaload, 1) := by decide +kernel
theorem dX12_look_47 : decode cX12_look 47 = .ok (.ireturn, 1) := by decide +kernel
theorem dX12_look_48 : decode cX12_look 48 = .ok (.iload_n 1, 1) := by decide +kernel
theorem dX12_look_49 : decode cX12_look 49 = .ok (.iconst 4, 1) := by decide +kernel
theorem dX12_look_50 : decode cX12_look 50 = .ok (.if_icmp .ne 10, 3) := by decide +kernel
theorem dX12_look_53 : decode cX12_look 53 = .ok (.aload_n 0, 1) := by decide +kernel
theorem dX12_look_54 : decode cX12_look 54 = .ok (.getfield 7, 3) := by decide +kernel
theorem dX12_look_57 : decode cX12_look 57 = .ok (.iconst 5, 1) := by decide +kernel
theorem dX12_look_58 : decode cX12_look 58 = .ok (.iaload, 1) := by decide +kernel
theorem dX12_look_59 : decode cX12_look 59 = .ok (.ireturn, 1) := by decide +kernel
theorem dX12_look_60 : decode cX12_look 60 = .ok (.iload_n 1, 1) := by decide +kernel
theorem dX12_look_61 : decode cX12_look 61 = .ok (.iconst 5, 1) := by decide +kernel
theorem dX12_look_62 : decode cX12_look 62 = .ok (.if_icmp .ne 10, 3) := by decide +kernel
theorem dX12_look_65 : decode cX12_look 65 = .ok (.aload_n 0, 1) := by decide +kernel
theorem dX12_look_66 : decode cX12_look 66 = .ok (.getfield 7, 3) := by decide +kernel
theorem dX12_look_69 : decode cX12_look 69 = .ok (.iconst 0, 1) := by decide +kernel
theorem dX12_look_70 : decode cX12_look 70 = .ok (.iaload, 1) := by decide +kernel
theorem dX12_look_71 : decode cX12_look 71 = .ok (.ireturn, 1) := by decide +kernel
theorem dX12_look_72 : decode cX12_look 72 = .ok (.iload_n 1, 1) := by decide +kernel
theorem dX12_look_73 : decode cX12_look 73 = .ok (.bipush 6, 2) := by decide +kernel
theorem dX12_look_75 : decode cX12_look 75 = .ok (.if_icmp .ne 11, 3) := by decide +kernel
theorem dX12_look_78 : decode cX12_look 78 = .ok (.aload_n 0, 1) := by decide +kernel
theorem dX12_look_79 : decode cX12_look 79 = .ok (.getfield 7, 3) := by decide +kernel
theorem dX12_look_82 : decode cX12_look 82 = .ok (.bipush 6, 2) := by decide +kernel
theorem dX12_look_84 : decode cX12_look 84 = .ok (.iaload, 1) := by decide +kernel
theorem dX12_look_85 : decode cX12_look 85 = .ok (.ireturn, 1) := by decide +kernel
theorem dX12_look_86 : decode cX12_look 86 = .ok (.iload_n 1, 1) := by decide +kernel
theorem dX12_look_87 : decode cX12_look 87 = .ok (.bipush 7, 2) := by decide +kernel
theorem dX12_look_89 : decode cX12_look 89 = .ok (.if_icmp .ne 8, 3) := by decide +kernel
theorem dX12_look_92 : decode cX12_look 92 = .ok (.aload_n 0, 1) := by decide +kernel
theorem dX12_look_93 : decode cX12_look 93 = .ok (.invokevirtual 417, 3) := by decide +kernel
theorem dX12_look_96 : decode cX12_look 96 = .ok (.ireturn, 1) := by decide +kernel
theorem dX12_look_97 : decode cX12_look 97 = .ok (.iload_n 1, 1) := by decide +kernel
theorem dX12_look_98 : decode cX12_look 98 = .ok (.bipush 8, 2) := by decide +kernel
theorem dX12_look_100 : decode cX12_look 100 = .ok (.if_icmp .ne 10, 3) := by decide +kernel
theorem dX12_look_103 : decode cX12_look 103 = .ok (.aload_n 0, 1) := by decide +kernel
theorem dX12_look_104 : decode cX12_look 104 = .ok (.getfield 7, 3) := by decide +kernel
theorem dX12_look_107 : decode cX12_look 107 = .ok (.iconst 2, 1) := by decide +kernel
theorem dX12_look_108 : decode cX12_look 108 = .ok (.iaload, 1) := by decide +kernel
theorem dX12_look_109 : decode cX12_look 109 = .ok (.ireturn, 1) := by decide +kernel
theorem dX12_look_110 : decode cX12_look 110 = .ok (.iload_n 1, 1) := by decide +kernel
theorem dX12_look_111 : decode cX12_look 111 = .ok (.bipush 9, 2) := by decide +kernel
theorem dX12_look_113 : decode cX12_look 113 = .ok (.if_icmp .ne 10, 3) := by decide +kernel
theorem dX12_look_116 : decode cX12_look 116 = .ok (.aload_n 0, 1) := by decide +kernel
theorem dX12_look_117 : decode cX12_look 117 = .ok (.getfield 7, 3) := by decide +kernel
theorem dX12_look_120 : decode cX12_look 120 = .ok (.iconst 1, 1) := by decide +kernel
theorem dX12_look_121 : decode cX12_look 121 = .ok (.iaload, 1) := by decide +kernel
theorem dX12_look_122 : decode cX12_look 122 = .ok (.ireturn, 1) := by decide +kernel
theorem dX12_look_123 : decode cX12_look 123 = .ok (.iload_n 1, 1) := by decide +kernel
theorem dX12_look_124 : decode cX12_look 124 = .ok (.bipush 10, 2) := by decide +kernel
theorem dX12_look_126 : decode cX12_look 126 = .ok (.if_icmp .ne 10, 3) := by decide +kernel
theorem dX12_look_129 : decode cX12_look 129 = .ok (.aload_n 0, 1) := by decide +kernel
theorem dX12_look_130 : decode cX12_look 130 = .ok (.getfield 43, 3) := by decide +kernel
theorem dX12_look_133 : decode cX12_look 133 = .ok (.iconst 0, 1) := by decide +kernel
theorem dX12_look_134 : decode cX12_look 134 = .ok (.iaload, 1) := by decide +kernel
theorem dX12_look_135 : decode cX12_look 135 = .ok (.ireturn, 1) := by decide +kernel
theorem dX12_look_136 : decode cX12_look 136 = .ok (.iload_n 1, 1) := by decide +kernel
theorem dX12_look_137 : decode cX12_look 137 = .ok (.bipush 11, 2) := by decide +kernel
theorem dX12_look_139 : decode cX12_look 139 = .ok (.if_icmp .ne 8, 3) := by decide +kernel
theorem dX12_look_142 : decode cX12_look 142 = .ok (.aload_n 0, 1) := by decide +kernel
theorem dX12_look_143 : decode cX12_look 143 = .ok (.getfield 309, 3) := by decide +kernel
theorem dX12_look_146 : decode cX12_look 146 = .ok (.ireturn, 1) := by decide +kernel
theorem dX12_look_147 : decode cX12_look 147 = .ok (.iload_n 1, 1) := by decide +kernel
theorem dX12_look_148 : decode cX12_look 148 = .ok (.bipush 12, 2) := by decide +kernel
theorem dX12_look_150 : decode cX12_look 150 = .ok (.if_icmp .ne 8, 3) := by decide +kernel
theorem dX12_look_153 : decode cX12_look 153 = .ok (.aload_n 0, 1) := by decide +kernel
theorem dX12_look_154 : decode cX12_look 154 = .ok (.getfield 312, 3) := by decide +kernel
theorem dX12_look_157 : decode cX12_look 157 = .ok (.ireturn, 1) := by decide +kernel
theorem dX12_look_158 : decode cX12_look 158 = .ok (.iload_n 1, 1) := by decide +kernel
theorem dX12_look_159 : decode cX12_look 159 = .ok (.bipush 13, 2) := by decide +kernel
theorem dX12_look_161 : decode cX12_look 161 = .ok (.if_icmp .ne 8, 3) := by decide +kernel
theorem dX12_look_164 : decode cX12_look 164 = .ok (.aload_n 0, 1) := by decide +kernel
theorem dX12_look_165 : decode cX12_look 165 = .ok (.getfield 306, 3) := by decide +kernel
theorem dX12_look_168 : decode cX12_look 168 = .ok (.ireturn, 1) := by decide +kernel
theorem dX12_look_169 : decode cX12_look 169 = .ok (.iload_n 1, 1) := by decide +kernel
theorem dX12_look_170 : decode cX12_look 170 = .ok (.bipush 14, 2) := by decide +kernel
theorem dX12_look_172 : decode cX12_look 172 = .ok (.if_icmp .ne 10, 3) := by decide +kernel
theorem dX12_look_175 : decode cX12_look 175 = .ok (.aload_n 0, 1) := by decide +kernel
theorem dX12_look_176 : decode cX12_look 176 = .ok (.getfield 138, 3) := by decide +kernel
theorem dX12_look_179 : decode cX12_look 179 = .ok (.goto 4, 3) := by decide +kernel
theorem dX12_look_182 : decode cX12_look 182 = .ok (.iconst (-1), 1) := by decide +kernel
theorem dX12_look_183 : decode cX12_look 183 = .ok (.ireturn, 1) := by decide +kernel
def T_X12_look (x1 : Int32) (M : Mm) (K : Int32 → Mm → Prop) : Prop := (∀ M1 : Mm, M1 = m_up M 159 0 (0 : Int32) → ((x1 = 0 → (K (M1 159 6) M1)) ∧ (¬ x1 = 0 → ((x1 = (1 : Int32) → (K (M1 159 7) M1)) ∧ (¬ x1 = (1 : Int32) → ((x1 = (2 : Int32) → (K (M1 160 3) M1)) ∧ (¬ x1 = (2 : Int32) → ((x1 = (3 : Int32) → (K (M1 160 4) M1)) ∧ (¬ x1 = (3 : Int32) → ((x1 = (4 : Int32) → (K (M1 160 5) M1)) ∧ (¬ x1 = (4 : Int32) → ((x1 = (5 : Int32) → (K (M1 160 0) M1)) ∧ (¬ x1 = (5 : Int32) → ((x1 = (6 : Int32) → (K (M1 160 6) M1)) ∧ (¬ x1 = (6 : Int32) → ((x1 = (7 : Int32) → (T_X12_unsoldSet M1 (fun r19 M18 => (K r19 M18)))) ∧ (¬ x1 = (7 : Int32) → ((x1 = (8 : Int32) → (K (M1 160 2) M1)) ∧ (¬ x1 = (8 : Int32) → ((x1 = (9 : Int32) → (K (M1 160 1) M1)) ∧ (¬ x1 = (9 : Int32) → ((x1 = (10 : Int32) → (K (M1 171 0) M1)) ∧ (¬ x1 = (10 : Int32) → ((x1 = (11 : Int32) → (K (M1 159 37) M1)) ∧ (¬ x1 = (11 : Int32) → ((x1 = (12 : Int32) → (K (M1 159 39) M1)) ∧ (¬ x1 = (12 : Int32) → ((x1 = (13 : Int32) → (K (M1 159 41) M1)) ∧ (¬ x1 = (13 : Int32) → ((x1 = (14 : Int32) → (K (M1 159 3) M1)) ∧ (¬ x1 = (14 : Int32) → (K (-1 : Int32) M1))))))))))))))))))))))))))))))))
set_option maxHeartbeats 4000000 in
set_option maxRecDepth 100000 in
theorem c_X12_look (l : Launch) (G : fx_G) {x1 : Int32} {M : Mm} {K : Int32 → Mm → Prop} (hT : T_X12_look x1 M K) : Met l yX12_look (fx_ws yX12_look cX12_look 2 (some .int)) (fx_rm (1)) (va_Pc [.ref (G.2.2.2 + 159), .int x1] (fx_P G SH M)) (va_Qi K (fx_R G SH) (fx_A G)) 0 0 (fx_A G) := by
  refine fx_met (own := RX12) (by decide +kernel) rfl (Nat.le_of_ble_eq_true rfl) (fun p e s m below meth c X hr hk h ls hl => ?_)
  obtain ⟨⟨hx, hb, hml, hown, hts⟩, hK, hQ⟩ := id X
  have hl : lv_has ls 2 [(0, .ref (G.2.2.2 + 159)), (1, .int x1)] := hl
  unfold T_X12_look at hT
  refine lv_aload_n hx hb dX12_look_0 rfl (lv_at hl 0 rfl) ?_
  refine lv_iconst (v := 0) hx hb dX12_look_1 (by decide) ?_
  refine fx_putI X h (k := 159) (j := 0) sh_159 rfl fl_RX12_134 dX12_look_2 (fun H locs h => ?_)
  obtain ⟨M1, eM1⟩ : ∃ z : Mm, z = m_up M 159 0 (0 : Int32) := ⟨_, rfl⟩
  have hT := hT M1 eM1
  rw [← eM1] at h
  refine lv_iload_n hx hb dX12_look_5 rfl (lv_at hl 1 rfl) ?_
  refine lv_if_ne (tgt := 14) hx hb dX12_look_6 (by decide) (fun hc2 => ?_) (fun hc2 => ?_)
  · have hT := hT.2 hc2
    refine lv_iload_n hx hb dX12_look_14 rfl (lv_at hl 1 rfl) ?_
    refine lv_iconst (v := 1) hx hb dX12_look_15 (by decide) ?_
    refine lv_icmp_ne (tgt := 24) hx hb dX12_look_16 (by decide) (fun hc3 => ?_) (fun hc3 => ?_)
    · have hT := hT.2 hc3
      refine lv_iload_n hx hb dX12_look_24 rfl (lv_at hl 1 rfl) ?_
      refine lv_iconst (v := 2) hx hb dX12_look_25 (by decide) ?_
      refine lv_icmp_ne (tgt := 36) hx hb dX12_look_26 (by decide) (fun hc4 => ?_) (fun hc4 => ?_)
      · have hT := hT.2 hc4
        refine lv_iload_n hx hb dX12_look_36 rfl (lv_at hl 1 rfl) ?_
        refine lv_iconst (v := 3) hx hb dX12_look_37 (by decide) ?_
        refine lv_icmp_ne (tgt := 48) hx hb dX12_look_38 (by decide) (fun hc5 => ?_) (fun hc5 => ?_)
        · have hT := hT.2 hc5
          refine lv_iload_n hx hb dX12_look_48 rfl (lv_at hl 1 rfl) ?_
          refine lv_iconst (v := 4) hx hb dX12_look_49 (by decide) ?_
          refine lv_icmp_ne (tgt := 60) hx hb dX12_look_50 (by decide) (fun hc6 => ?_) (fun hc6 => ?_)
          · have hT := hT.2 hc6
            refine lv_iload_n hx hb dX12_look_60 rfl (lv_at hl 1 rfl) ?_
            refine lv_iconst (v := 5) hx hb dX12_look_61 (by decide) ?_
            refine lv_icmp_ne (tgt := 72) hx hb dX12_look_62 (by decide) (fun hc7 => ?_) (fun hc7 => ?_)
            · have hT := hT.2 hc7
              refine lv_iload_n hx hb dX12_look_72 rfl (lv_at hl 1 rfl) ?_
              refine lv_bipush (v := 6) hx hb dX12_look_73 (by decide) ?_
              refine lv_icmp_ne (tgt := 86) hx hb dX12_look_75 (by decide) (fun hc8 => ?_) (fun hc8 => ?_)
              · have hT := hT.2 hc8
                refine lv_iload_n hx hb dX12_look_86 rfl (lv_at hl 1 rfl) ?_
                refine lv_bipush (v := 7) hx hb dX12_look_87 (by decide) ?_
                refine lv_icmp_ne (tgt := 97) hx hb dX12_look_89 (by decide) (fun hc9 => ?_) (fun hc9 => ?_)
                · have hT := hT.2 hc9
                  refine lv_iload_n hx hb dX12_look_97 rfl (lv_at hl 1 rfl) ?_
                  refine lv_bipush (v := 8) hx hb dX12_look_98 (by decide) ?_
                  refine lv_icmp_ne (tgt := 110) hx hb dX12_look_100 (by decide) (fun hc10 => ?_) (fun hc10 => ?_)
                  · have hT := hT.2 hc10
                    refine lv_iload_n hx hb dX12_look_110 rfl (lv_at hl 1 rfl) ?_
                    refine lv_bipush (v := 9) hx hb dX12_look_111 (by decide) ?_
                    refine lv_icmp_ne (tgt := 123) hx hb dX12_look_113 (by decide) (fun hc11 => ?_) (fun hc11 => ?_)
                    · have hT := hT.2 hc11
                      refine lv_iload_n hx hb dX12_look_123 rfl (lv_at hl 1 rfl) ?_
                      refine lv_bipush (v := 10) hx hb dX12_look_124 (by decide) ?_
                      refine lv_icmp_ne (tgt := 136) hx hb dX12_look_126 (by decide) (fun hc12 => ?_) (fun hc12 => ?_)
                      · have hT := hT.2 hc12
                        refine lv_iload_n hx hb dX12_look_136 rfl (lv_at hl 1 rfl) ?_
                        refine lv_bipush (v := 11) hx hb dX12_look_137 (by decide) ?_
                        refine lv_icmp_ne (tgt := 147) hx hb dX12_look_139 (by decide) (fun hc13 => ?_) (fun hc13 => ?_)
                        · have hT := hT.2 hc13
                          refine lv_iload_n hx hb dX12_look_147 rfl (lv_at hl 1 rfl) ?_
                          refine lv_bipush (v := 12) hx hb dX12_look_148 (by decide) ?_
                          refine lv_icmp_ne (tgt := 158) hx hb dX12_look_150 (by decide) (fun hc14 => ?_) (fun hc14 => ?_)
                          · have hT := hT.2 hc14
                            refine lv_iload_n hx hb dX12_look_158 rfl (lv_at hl 1 rfl) ?_
                            refine lv_bipush (v := 13) hx hb dX12_look_159 (by decide) ?_
                            refine lv_icmp_ne (tgt := 169) hx hb dX12_look_161 (by decide) (fun hc15 => ?_) (fun hc15 => ?_)
                            · have hT := hT.2 hc15
                              refine lv_iload_n hx hb dX12_look_169 rfl (lv_at hl 1 rfl) ?_
                              refine lv_bipush (v := 14) hx hb dX12_look_170 (by decide) ?_
                              refine lv_icmp_ne (tgt := 182) hx hb dX12_look_172 (by decide) (fun hc16 => ?_) (fun hc16 => ?_)
                              · have hT := hT.2 hc16
                                refine lv_iconst (v := -1) hx hb dX12_look_182 (by decide) ?_
                                exact fx_iret X hr hk h hT dX12_look_183
                              · have hT := hT.1 hc16
                                refine lv_aload_n hx hb dX12_look_175 rfl (lv_at hl 0 rfl) ?_
                                refine fx_getI X h (k := 159) (j := 3) sh_159 rfl fl_RX12_138 dX12_look_176 ?_
                                refine lv_goto (tgt := 183) hx hb dX12_look_179 (by decide) ?_
                                exact fx_iret X hr hk h hT dX12_look_183
                            · have hT := hT.1 hc15
                              refine lv_aload_n hx hb dX12_look_164 rfl (lv_at hl 0 rfl) ?_
                              refine fx_getI X h (k := 159) (j := 41) sh_159 rfl fl_RX12_306 dX12_look_165 ?_
                              exact fx_iret X hr hk h hT dX12_look_168
                          · have hT := hT.1 hc14
                            refine lv_aload_n hx hb dX12_look_153 rfl (lv_at hl 0 rfl) ?_
                            refine fx_getI X h (k := 159) (j := 39) sh_159 rfl fl_RX12_312 dX12_look_154 ?_
                            exact fx_iret X hr hk h hT dX12_look_157
                        · have hT := hT.1 hc13
                          refine lv_aload_n hx hb dX12_look_142 rfl (lv_at hl 0 rfl) ?_
                          refine fx_getI X h (k := 159) (j := 37) sh_159 rfl fl_RX12_309 dX12_look_143 ?_
                          exact fx_iret X hr hk h hT dX12_look_146
                      · have hT := hT.1 hc12
                        refine lv_aload_n hx hb dX12_look_129 rfl (lv_at hl 0 rfl) ?_
                        refine fx_getR X h (k := 159) (j := 21) (r := 171) sh_159 rfl fl_RX12_43 dX12_look_130 ?_
                        refine lv_iconst (v := 0) hx hb dX12_look_133 (by decide) ?_
                        refine fx_iald X h (k := 171) sh_171 (by unfold vp_in; decide) dX12_look_134 ?_
                        rw [show ((0 : Int32)).toNatClampNeg = 0 by decide]
                        exact fx_iret X hr hk h hT dX12_look_135
                    · have hT := hT.1 hc11
                      refine lv_aload_n hx hb dX12_look_116 rfl (lv_at hl 0 rfl) ?_
                      refine fx_getR X h (k := 159) (j := 1) (r := 160) sh_159 rfl fl_RX12_7 dX12_look_117 ?_
                      refine lv_iconst (v := 1) hx hb dX12_look_120 (by decide) ?_
                      refine fx_iald X h (k := 160) sh_160 (by unfold vp_in; decide) dX12_look_121 ?_
                      rw [show ((1 : Int32)).toNatClampNeg = 1 by decide]
                      exact fx_iret X hr hk h hT dX12_look_122
                  · have hT := hT.1 hc10
                    refine lv_aload_n hx hb dX12_look_103 rfl (lv_at hl 0 rfl) ?_
                    refine fx_getR X h (k := 159) (j := 1) (r := 160) sh_159 rfl fl_RX12_7 dX12_look_104 ?_
                    refine lv_iconst (v := 2) hx hb dX12_look_107 (by decide) ?_
                    refine fx_iald X h (k := 160) sh_160 (by unfold vp_in; decide) dX12_look_108 ?_
                    rw [show ((2 : Int32)).toNatClampNeg = 2 by decide]
                    exact fx_iret X hr hk h hT dX12_look_109
                · have hT := hT.1 hc9
                  refine lv_aload_n hx hb dX12_look_92 rfl (lv_at hl 0 rfl) ?_
                  refine fx_vi X h ym_X12_unsoldSet yi_X12_unsoldSet ys_X12_unsoldSet (fx_s8 (List.mem_of_getElem? (i := 167) rfl) rfl) sh_159 rfl (c_X12_unsoldSet l G hT) (As := []) (rest := []) rfl rfl ⟨Nat.le_of_ble_eq_true rfl, Nat.le_of_ble_eq_true rfl⟩ ⟨Nat.le_refl _, Nat.le_refl _⟩ hl.1 (Nat.le_of_ble_eq_true rfl) dX12_look_93 (fun r19 M18 H locs hT h => ?_)
                  exact fx_iret X hr hk h hT dX12_look_96
              · have hT := hT.1 hc8
                refine lv_aload_n hx hb dX12_look_78 rfl (lv_at hl 0 rfl) ?_
                refine fx_getR X h (k := 159) (j := 1) (r := 160) sh_159 rfl fl_RX12_7 dX12_look_79 ?_
                refine lv_bipush (v := 6) hx hb dX12_look_82 (by decide) ?_
                refine fx_iald X h (k := 160) sh_160 (by unfold vp_in; decide) dX12_look_84 ?_
                rw [show ((6 : Int32)).toNatClampNeg = 6 by decide]
                exact fx_iret X hr hk h hT dX12_look_85
            · have hT := hT.1 hc7
              refine lv_aload_n hx hb dX12_look_65 rfl (lv_at hl 0 rfl) ?_
              refine fx_getR X h (k := 159) (j := 1) (r := 160) sh_159 rfl fl_RX12_7 dX12_look_66 ?_
              refine lv_iconst (v := 0) hx hb dX12_look_69 (by decide) ?_
              refine fx_iald X h (k := 160) sh_160 (by unfold vp_in; decide) dX12_look_70 ?_
              rw [show ((0 : Int32)).toNatClampNeg = 0 by decide]
              exact fx_iret X hr hk h hT dX12_look_71
          · have hT := hT.1 hc6
            refine lv_aload_n hx hb dX12_look_53 rfl (lv_at hl 0 rfl) ?_
            refine fx_getR X h (k := 159) (j := 1) (r := 160) sh_159 rfl fl_RX12_7 dX12_look_54 ?_
            refine lv_iconst (v := 5) hx hb dX12_look_57 (by decide) ?_
            refine fx_iald X h (k := 160) sh_160 (by unfold vp_in; decide) dX12_look_58 ?_
            rw [show ((5 : Int32)).toNatClampNeg = 5 by decide]
            exact fx_iret X hr hk h hT dX12_look_59
        · have hT := hT.1 hc5
          refine lv_aload_n hx hb dX12_look_41 rfl (lv_at hl 0 rfl) ?_
          refine fx_getR X h (k := 159) (j := 1) (r := 160) sh_159 rfl fl_RX12_7 dX12_look_42 ?_
          refine lv_iconst (v := 4) hx hb dX12_look_45 (by decide) ?_
          refine fx_iald X h (k := 160) sh_160 (by unfold vp_in; decide) dX12_look_46 ?_
          rw [show ((4 : Int32)).toNatClampNeg = 4 by decide]
          exact fx_iret X hr hk h hT dX12_look_47
      · have hT := hT.1 hc4
        refine lv_aload_n hx hb dX12_look_29 rfl (lv_at hl 0 rfl) ?_
        refine fx_getR X h (k := 159) (j := 1) (r := 160) sh_159 rfl fl_RX12_7 dX12_look_30 ?_
        refine lv_iconst (v := 3) hx hb dX12_look_33 (by decide) ?_
        refine fx_iald X h (k := 160) sh_160 (by unfold vp_in; decide) dX12_look_34 ?_
        rw [show ((3 : Int32)).toNatClampNeg = 3 by decide]
        exact fx_iret X hr hk h hT dX12_look_35
    · have hT := hT.1 hc3
      refine lv_aload_n hx hb dX12_look_19 rfl (lv_at hl 0 rfl) ?_
      refine fx_getI X h (k := 159) (j := 7) sh_159 rfl fl_RX12_150 dX12_look_20 ?_
      exact fx_iret X hr hk h hT dX12_look_23
  · have hT := hT.1 hc2
    refine lv_aload_n hx hb dX12_look_9 rfl (lv_at hl 0 rfl) ?_
    refine fx_getI X h (k := 159) (j := 6) sh_159 rfl fl_RX12_147 dX12_look_10 ?_
    exact fx_iret X hr hk h hT dX12_look_13
