/-! MockParcels$Parser.parseLaw()Z -/
theorem dX3_parseLaw_0 : decode cX3_parseLaw 0 = .ok (.aload_n 0, 1) := by decide +kernel
theorem dX3_parseLaw_1 : decode cX3_parseLaw 1 = .ok (.getfield 32, 3) := by decide +kernel
theorem dX3_parseLaw_4 : decode cX3_parseLaw 4 = .ok (.getfield 44, 3) := by decide +kernel
theorem dX3_parseLaw_7 : decode cX3_parseLaw 7 = .ok (.istore_n 1, 1) := by decide +kernel
theorem dX3_parseLaw_8 : decode cX3_parseLaw 8 = .ok (.aload_n 0, 1) := by decide +kernel
theorem dX3_parseLaw_9 : decode cX3_parseLaw 9 = .ok (.getfield 32, 3) := by decide +kernel
theorem dX3_parseLaw_12 : decode cX3_parseLaw 12 = .ok (.invokevirtual 77, 3) := by decide +kernel
theorem dX3_parseLaw_15 : decode cX3_parseLaw 15 = .ok (.aload_n 0, 1) := by decide +kernel
theorem dX3_parseLaw_16 : decode cX3_parseLaw 16 = .ok (.invokevirtual 103, 3) := by decide +kernel
theorem dX3_parseLaw_19 : decode cX3_parseLaw 19 = .ok (.ifCond .ne 5, 3) := by decide +kernel
theorem dX3_parseLaw_22 : decode cX3_parseLaw 22 = .ok (.iconst 0, 1) := by decide +kernel
theorem dX3_parseLaw_23 : decode cX3_parseLaw 23 = .ok (.ireturn, 1) := by decide +kernel
theorem dX3_parseLaw_24 : decode cX3_parseLaw 24 = .ok (.aload_n 0, 1) := by decide +kernel
theorem dX3_parseLaw_25 : decode cX3_parseLaw 25 = .ok (.getfield 12, 3) := by decide +kernel
theorem dX3_parseLaw_28 : decode cX3_parseLaw 28 = .ok (.getfield 106, 3) := by decide +kernel
theorem dX3_parseLaw_31 : decode cX3_parseLaw 31 = .ok (.istore_n 2, 1) := by decide +kernel
theorem dX3_parseLaw_32 : decode cX3_parseLaw 32 = .ok (.aload_n 0, 1) := by decide +kernel
theorem dX3_parseLaw_33 : decode cX3_parseLaw 33 = .ok (.getfield 32, 3) := by decide +kernel
theorem dX3_parseLaw_36 : decode cX3_parseLaw 36 = .ok (.getfield 44, 3) := by decide +kernel
theorem dX3_parseLaw_39 : decode cX3_parseLaw 39 = .ok (.sipush 259, 3) := by decide +kernel
theorem dX3_parseLaw_42 : decode cX3_parseLaw 42 = .ok (.if_icmp .ne 20, 3) := by decide +kernel
theorem dX3_parseLaw_45 : decode cX3_parseLaw 45 = .ok (.aload_n 0, 1) := by decide +kernel
theorem dX3_parseLaw_46 : decode cX3_parseLaw 46 = .ok (.getfield 32, 3) := by decide +kernel
theorem dX3_parseLaw_49 : decode cX3_parseLaw 49 = .ok (.invokevirtual 77, 3) := by decide +kernel
theorem dX3_parseLaw_52 : decode cX3_parseLaw 52 = .ok (.aload_n 0, 1) := by decide +kernel
theorem dX3_parseLaw_53 : decode cX3_parseLaw 53 = .ok (.iconst 0, 1) := by decide +kernel
theorem dX3_parseLaw_54 : decode cX3_parseLaw 54 = .ok (.invokevirtual 109, 3) := by decide +kernel
theorem dX3_parseLaw_57 : decode cX3_parseLaw 57 = .ok (.ifCond .ne 5, 3) := by decide +kernel
theorem dX3_parseLaw_60 : decode cX3_parseLaw 60 = .ok (.iconst 0, 1) := by decide +kernel
theorem dX3_parseLaw_61 : decode cX3_parseLaw 61 = .ok (.ireturn, 1) := by decide +kernel
theorem dX3_parseLaw_62 : decode cX3_parseLaw 62 = .ok (.aload_n 0, 1) := by decide +kernel
theorem dX3_parseLaw_63 : decode cX3_parseLaw 63 = .ok (.getfield 32, 3) := by decide +kernel
theorem dX3_parseLaw_66 : decode cX3_parseLaw 66 = .ok (.bipush 59, 2) := by decide +kernel
theorem dX3_parseLaw_68 : decode cX3_parseLaw 68 = .ok (.invokevirtual 84, 3) := by decide +kernel
theorem dX3_parseLaw_71 : decode cX3_parseLaw 71 = .ok (.ifCond .ne 5, 3) := by decide +kernel
theorem dX3_parseLaw_74 : decode cX3_parseLaw 74 = .ok (.iconst 0, 1) := by decide +kernel
theorem dX3_parseLaw_75 : decode cX3_parseLaw 75 = .ok (.ireturn, 1) := by decide +kernel
theorem dX3_parseLaw_76 : decode cX3_parseLaw 76 = .ok (.aload_n 0, 1) := by decide +kernel
theorem dX3_parseLaw_77 : decode cX3_parseLaw 77 = .ok (.getfield 12, 3) := by decide +kernel
theorem dX3_parseLaw_80 : decode cX3_parseLaw 80 = .ok (.iload_n 1, 1) := by decide +kernel
theorem dX3_parseLaw_81 : decode cX3_parseLaw 81 = .ok (.iload_n 2, 1) := by decide +kernel
theorem dX3_parseLaw_82 : decode cX3_parseLaw 82 = .ok (.invokevirtual 112, 3) := by decide +kernel
theorem dX3_parseLaw_85 : decode cX3_parseLaw 85 = .ok (.iconst 1, 1) := by decide +kernel
theorem dX3_parseLaw_86 : decode cX3_parseLaw 86 = .ok (.ireturn, 1) := by decide +kernel
def T_X3_parseLaw_62 (x1 : Int32) (x2 : Int32) (M : Mm) (K : Int32 → Mm → Prop) : Prop := (T_X7_take (59 : Int32) M (fun r3 M2 => ((r3 = 0 → (K (0 : Int32) M2)) ∧ (¬ r3 = 0 → (T_X2_addLine 137 x1 x2 M2 (fun M6 => (K (1 : Int32) M6)))))))
set_option maxHeartbeats 4000000 in
set_option maxRecDepth 100000 in
theorem w_X3_parseLaw_62 {p : Program} {l : Launch} {e : Env} {s : State} {m : MethodId} {args : Array Value} {below : List Frame} {meth : Method} {c : Code} {G : fx_G} {K : Int32 → Mm → Prop} (X : fx_C G p s m c args cX3_parseLaw 3 RX3) (hr : meth.sig.returnType = (some .boolean)) (hk : meth.locks = false) : ∀ (x1 : Int32) (x2 : Int32) (M : Mm) (H : Heap) (locs : List Loc) (ls : Array Slot), T_X3_parseLaw_62 x1 x2 M K → fx_H G SH M s H locs → lv_has ls 3 [(0, .ref (G.2.2.2 + 136)), (1, .int x1), (2, .int x2)] → W p l e (fx_rm (24)) s m args below meth c H locs 0 0 (MQ below (va_Qi K (fx_R G SH) (fx_A G)) args s 0 0 (fx_A G)) (F0 m 62 ls []) := by
  obtain ⟨⟨hx, hb, hml, hown, hts⟩, hK, hQ⟩ := id X
  intro x1 x2 M H locs ls hT h hl
  unfold T_X3_parseLaw_62 at hT
  refine lv_aload_n hx hb dX3_parseLaw_62 rfl (lv_at hl 0 rfl) ?_
  refine fx_getR X h (k := 136) (j := 2) (r := 132) sh_136 rfl fl_RX3_32 dX3_parseLaw_63 ?_
  refine lv_bipush (v := 59) hx hb dX3_parseLaw_66 (by decide) ?_
  refine fx_vi X h ym_X7_take yi_X7_take ys_X7_take (fx_s4 (List.mem_of_getElem? (i := 201) rfl) rfl) sh_132 rfl (c_X7_take l G hT) (As := [.int (59 : Int32)]) (rest := []) rfl rfl ⟨Nat.le_of_ble_eq_true rfl, Nat.le_of_ble_eq_true rfl⟩ ⟨Nat.le_refl _, Nat.le_refl _⟩ hl.1 (Nat.le_of_ble_eq_true rfl) dX3_parseLaw_68 (fun r3 M2 H locs hT h => ?_)
  refine lv_if_ne (tgt := 76) hx hb dX3_parseLaw_71 (by decide) (fun hc4 => ?_) (fun hc4 => ?_)
  · have hT := hT.2 hc4
    refine lv_aload_n hx hb dX3_parseLaw_76 rfl (lv_at hl 0 rfl) ?_
    refine fx_getR X h (k := 136) (j := 0) (r := 137) sh_136 rfl fl_RX3_12 dX3_parseLaw_77 ?_
    refine lv_iload_n hx hb dX3_parseLaw_80 rfl (lv_at hl 1 rfl) ?_
    refine lv_iload_n hx hb dX3_parseLaw_81 rfl (lv_at hl 2 rfl) ?_
    refine fx_vv X h ym_X2_addLine yi_X2_addLine ys_X2_addLine (fx_s4 (List.mem_of_getElem? (i := 207) rfl) rfl) sh_137 rfl (c_X2_addLine l G (by decide) hT) (As := [.int x1, .int x2]) (rest := []) rfl rfl ⟨Nat.le_of_ble_eq_true rfl, Nat.le_of_ble_eq_true rfl⟩ ⟨Nat.le_refl _, Nat.le_refl _⟩ hl.1 (Nat.le_of_ble_eq_true rfl) dX3_parseLaw_82 (fun M6 H locs hT h => ?_)
    refine lv_iconst (v := 1) hx hb dX3_parseLaw_85 (by decide) ?_
    exact fx_zret X hr hk h (Or.inr rfl) hT dX3_parseLaw_86
  · have hT := hT.1 hc4
    refine lv_iconst (v := 0) hx hb dX3_parseLaw_74 (by decide) ?_
    exact fx_zret X hr hk h (Or.inl rfl) hT dX3_parseLaw_75
def T_X3_parseLaw (M : Mm) (K : Int32 → Mm → Prop) : Prop := (∀ y7 : Int32, y7 = (M 132 6) → (T_X7_step M (fun M9 => (T_X3_parseSum M9 (fun r12 M11 => ((r12 = 0 → (K (0 : Int32) M11)) ∧ (¬ r12 = 0 → (∀ y14 : Int32, y14 = (M11 137 6) → (((M11 132 6) = (259 : Int32) → (T_X7_step M11 (fun M17 => (T_X3_parseEither0 (0 : Int32) M17 (fun r20 M19 => ((r20 = 0 → (K (0 : Int32) M19)) ∧ (¬ r20 = 0 → (T_X3_parseLaw_62 y7 y14 M19 K)))))))) ∧ (¬ (M11 132 6) = (259 : Int32) → (T_X3_parseLaw_62 y7 y14 M11 K)))))))))))
set_option maxHeartbeats 4000000 in
set_option maxRecDepth 100000 in
theorem c_X3_parseLaw (l : Launch) (G : fx_G) {M : Mm} {K : Int32 → Mm → Prop} (hT : T_X3_parseLaw M K) : Met l yX3_parseLaw (fx_ws yX3_parseLaw cX3_parseLaw 3 (some .boolean)) (fx_rm (24)) (va_Pc [.ref (G.2.2.2 + 136)] (fx_P G SH M)) (va_Qi K (fx_R G SH) (fx_A G)) 0 0 (fx_A G) := by
  refine fx_met (own := RX3) (by decide +kernel) rfl (Nat.le_of_ble_eq_true rfl) (fun p e s m below meth c X hr hk h ls hl => ?_)
  obtain ⟨⟨hx, hb, hml, hown, hts⟩, hK, hQ⟩ := id X
  have hl : lv_has ls 3 [(0, .ref (G.2.2.2 + 136))] := hl
  unfold T_X3_parseLaw at hT
  refine lv_aload_n hx hb dX3_parseLaw_0 rfl (lv_at hl 0 rfl) ?_
  refine fx_getR X h (k := 136) (j := 2) (r := 132) sh_136 rfl fl_RX3_32 dX3_parseLaw_1 ?_
  refine fx_getI X h (k := 132) (j := 6) sh_132 rfl fl_RX3_44 dX3_parseLaw_4 ?_
  refine lv_topi (fun y7 ey7 => ?_)
  have hT := hT y7 ey7
  refine lv_istore_n (lv' := [(1, .int y7), (0, .ref (G.2.2.2 + 136))]) hx hb dX3_parseLaw_7 rfl hl (by decide) rfl (fun ls hl => ?_)
  refine lv_aload_n hx hb dX3_parseLaw_8 rfl (lv_at hl 1 rfl) ?_
  refine fx_getR X h (k := 136) (j := 2) (r := 132) sh_136 rfl fl_RX3_32 dX3_parseLaw_9 ?_
  refine fx_vv X h ym_X7_step yi_X7_step ys_X7_step (fx_s4 (List.mem_of_getElem? (i := 177) rfl) rfl) sh_132 rfl (c_X7_step l G hT) (As := []) (rest := []) rfl rfl ⟨Nat.le_of_ble_eq_true rfl, Nat.le_of_ble_eq_true rfl⟩ ⟨Nat.le_refl _, Nat.le_refl _⟩ hl.1 (Nat.le_of_ble_eq_true rfl) dX3_parseLaw_12 (fun M9 H locs hT h => ?_)
  refine lv_aload_n hx hb dX3_parseLaw_15 rfl (lv_at hl 1 rfl) ?_
  refine fx_vi X h ym_X3_parseSum yi_X3_parseSum ys_X3_parseSum (fx_s4 (List.mem_of_getElem? (i := 181) rfl) rfl) sh_136 rfl (c_X3_parseSum l G hT) (As := []) (rest := []) rfl rfl ⟨Nat.le_of_ble_eq_true rfl, Nat.le_of_ble_eq_true rfl⟩ ⟨Nat.le_refl _, Nat.le_refl _⟩ hl.1 (Nat.le_of_ble_eq_true rfl) dX3_parseLaw_16 (fun r12 M11 H locs hT h => ?_)
  refine lv_if_ne (tgt := 24) hx hb dX3_parseLaw_19 (by decide) (fun hc13 => ?_) (fun hc13 => ?_)
  · have hT := hT.2 hc13
    refine lv_aload_n hx hb dX3_parseLaw_24 rfl (lv_at hl 1 rfl) ?_
    refine fx_getR X h (k := 136) (j := 0) (r := 137) sh_136 rfl fl_RX3_12 dX3_parseLaw_25 ?_
    refine fx_getI X h (k := 137) (j := 6) sh_137 rfl fl_RX3_106 dX3_parseLaw_28 ?_
    refine lv_topi (fun y14 ey14 => ?_)
    have hT := hT y14 ey14
    refine lv_istore_n (lv' := [(2, .int y14), (1, .int y7), (0, .ref (G.2.2.2 + 136))]) hx hb dX3_parseLaw_31 rfl hl (by decide) rfl (fun ls hl => ?_)
    refine lv_aload_n hx hb dX3_parseLaw_32 rfl (lv_at hl 2 rfl) ?_
    refine fx_getR X h (k := 136) (j := 2) (r := 132) sh_136 rfl fl_RX3_32 dX3_parseLaw_33 ?_
    refine fx_getI X h (k := 132) (j := 6) sh_132 rfl fl_RX3_44 dX3_parseLaw_36 ?_
    refine lv_sipush (v := 259) hx hb dX3_parseLaw_39 (by decide) ?_
    refine lv_icmp_ne (tgt := 62) hx hb dX3_parseLaw_42 (by decide) (fun hc15 => ?_) (fun hc15 => ?_)
    · have hT := hT.2 hc15
      exact w_X3_parseLaw_62 X hr hk y7 y14 M11 _ _ ls hT h (lv_sub hl [2, 1, 0] rfl)
    · have hT := hT.1 hc15
      refine lv_aload_n hx hb dX3_parseLaw_45 rfl (lv_at hl 2 rfl) ?_
      refine fx_getR X h (k := 136) (j := 2) (r := 132) sh_136 rfl fl_RX3_32 dX3_parseLaw_46 ?_
      refine fx_vv X h ym_X7_step yi_X7_step ys_X7_step (fx_s4 (List.mem_of_getElem? (i := 177) rfl) rfl) sh_132 rfl (c_X7_step l G hT) (As := []) (rest := []) rfl rfl ⟨Nat.le_of_ble_eq_true rfl, Nat.le_of_ble_eq_true rfl⟩ ⟨Nat.le_refl _, Nat.le_refl _⟩ hl.1 (Nat.le_of_ble_eq_true rfl) dX3_parseLaw_49 (fun M17 H locs hT h => ?_)
      refine lv_aload_n hx hb dX3_parseLaw_52 rfl (lv_at hl 2 rfl) ?_
      refine lv_iconst (v := 0) hx hb dX3_parseLaw_53 (by decide) ?_
      refine fx_vi X h ym_X3_parseEither yi_X3_parseEither ys_X3_parseEither (fx_s4 (List.mem_of_getElem? (i := 193) rfl) rfl) sh_136 rfl (c_X3_parseEither0 l G hT) (As := [.int (0 : Int32)]) (rest := []) rfl rfl ⟨Nat.le_of_ble_eq_true rfl, Nat.le_of_ble_eq_true rfl⟩ ⟨Nat.le_refl _, Nat.le_refl _⟩ hl.1 (Nat.le_of_ble_eq_true rfl) dX3_parseLaw_54 (fun r20 M19 H locs hT h => ?_)
      refine lv_if_ne (tgt := 62) hx hb dX3_parseLaw_57 (by decide) (fun hc21 => ?_) (fun hc21 => ?_)
      · have hT := hT.2 hc21
        exact w_X3_parseLaw_62 X hr hk y7 y14 M19 _ _ ls hT h (lv_sub hl [2, 1, 0] rfl)
      · have hT := hT.1 hc21
        refine lv_iconst (v := 0) hx hb dX3_parseLaw_60 (by decide) ?_
        exact fx_zret X hr hk h (Or.inl rfl) hT dX3_parseLaw_61
  · have hT := hT.1 hc13
    refine lv_iconst (v := 0) hx hb dX3_parseLaw_22 (by decide) ?_
    exact fx_zret X hr hk h (Or.inl rfl) hT dX3_parseLaw_23
/-! MockParcels$Parser.parse(ILMockParcels$Cast;)I -/
theorem dX3_parse_0 : decode cX3_parse 0 = .ok (.aload_n 0, 1) := by decide +kernel
theorem dX3_parse_1 : decode cX3_parse 1 = .ok (.aload_n 2, 1) := by decide +kernel
theorem dX3_parse_2 : decode cX3_parse 2 = .ok (.getfield 36, 3) := by decide +kernel
theorem dX3_parse_5 : decode cX3_parse 5 = .ok (.putfield 25, 3) := by decide +kernel
theorem dX3_parse_8 : decode cX3_parse 8 = .ok (.aload_n 0, 1) := by decide +kernel
theorem dX3_parse_9 : decode cX3_parse 9 = .ok (.aload_n 2, 1) := by decide +kernel
theorem dX3_parse_10 : decode cX3_parse 10 = .ok (.getfield 39, 3) := by decide +kernel
theorem dX3_parse_13 : decode cX3_parse 13 = .ok (.putfield 29, 3) := by decide +kernel
theorem dX3_parse_16 : decode cX3_parse 16 = .ok (.aload_n 0, 1) := by decide +kernel
theorem dX3_parse_17 : decode cX3_parse 17 = .ok (.getfield 12, 3) := by decide +kernel
theorem dX3_parse_20 : decode cX3_parse 20 = .ok (.invokevirtual 40, 3) := by decide +kernel
theorem dX3_parse_23 : decode cX3_parse 23 = .ok (.aload_n 0, 1) := by decide +kernel
theorem dX3_parse_24 : decode cX3_parse 24 = .ok (.getfield 21, 3) := by decide +kernel
theorem dX3_parse_27 : decode cX3_parse 27 = .ok (.invokevirtual 43, 3) := by decide +kernel
theorem dX3_parse_30 : decode cX3_parse 30 = .ok (.iconst 0, 1) := by decide +kernel
theorem dX3_parse_31 : decode cX3_parse 31 = .ok (.istore_n 3, 1) := by decide +kernel
theorem dX3_parse_32 : decode cX3_parse 32 = .ok (.iconst 0, 1) := by decide +kernel
theorem dX3_parse_33 : decode cX3_parse 33 = .ok (.istore 4, 2) := by decide +kernel
theorem dX3_parse_35 : decode cX3_parse 35 = .ok (.iload 4, 2) := by decide +kernel
theorem dX3_parse_37 : decode cX3_parse 37 = .ok (.bipush 16, 2) := by decide +kernel
theorem dX3_parse_39 : decode cX3_parse 39 = .ok (.if_icmp .gt 104, 3) := by decide +kernel
theorem dX3_parse_42 : decode cX3_parse 42 = .ok (.aload_n 0, 1) := by decide +kernel
theorem dX3_parse_43 : decode cX3_parse 43 = .ok (.getfield 32, 3) := by decide +kernel
theorem dX3_parse_46 : decode cX3_parse 46 = .ok (.getfield 44, 3) := by decide +kernel
theorem dX3_parse_49 : decode cX3_parse 49 = .ok (.ifCond .eq 94, 3) := by decide +kernel
theorem dX3_parse_52 : decode cX3_parse 52 = .ok (.aload_n 0, 1) := by decide +kernel
theorem dX3_parse_53 : decode cX3_parse 53 = .ok (.iload_n 1, 1) := by decide +kernel
theorem dX3_parse_54 : decode cX3_parse 54 = .ok (.iload_n 3, 1) := by decide +kernel
theorem dX3_parse_55 : decode cX3_parse 55 = .ok (.invokevirtual 49, 3) := by decide +kernel
theorem dX3_parse_58 : decode cX3_parse 58 = .ok (.istore 5, 2) := by decide +kernel
theorem dX3_parse_60 : decode cX3_parse 60 = .ok (.iload 5, 2) := by decide +kernel
theorem dX3_parse_62 : decode cX3_parse 62 = .ok (.ifCond .eq 16, 3) := by decide +kernel
theorem dX3_parse_65 : decode cX3_parse 65 = .ok (.iload_n 1, 1) := by decide +kernel
theorem dX3_parse_66 : decode cX3_parse 66 = .ok (.ifCond .ne 12, 3) := by decide +kernel
theorem dX3_parse_69 : decode cX3_parse 69 = .ok (.aload_n 0, 1) := by decide +kernel
theorem dX3_parse_70 : decode cX3_parse 70 = .ok (.invokevirtual 53, 3) := by decide +kernel
theorem dX3_parse_73 : decode cX3_parse 73 = .ok (.istore 5, 2) := by decide +kernel
theorem dX3_parse_75 : decode cX3_parse 75 = .ok (.goto 52, 3) := by decide +kernel
theorem dX3_parse_78 : decode cX3_parse 78 = .ok (.iload 5, 2) := by decide +kernel
theorem dX3_parse_80 : decode cX3_parse 80 = .ok (.ifCond .eq 17, 3) := by decide +kernel
theorem dX3_parse_83 : decode cX3_parse 83 = .ok (.iload_n 1, 1) := by decide +kernel
theorem dX3_parse_84 : decode cX3_parse 84 = .ok (.iconst 1, 1) := by decide +kernel
theorem dX3_parse_85 : decode cX3_parse 85 = .ok (.if_icmp .ne 12, 3) := by decide +kernel
theorem dX3_parse_88 : decode cX3_parse 88 = .ok (.aload_n 0, 1) := by decide +kernel
theorem dX3_parse_89 : decode cX3_parse 89 = .ok (.invokevirtual 57, 3) := by decide +kernel
theorem dX3_parse_92 : decode cX3_parse 92 = .ok (.istore 5, 2) := by decide +kernel
theorem dX3_parse_94 : decode cX3_parse 94 = .ok (.goto 33, 3) := by decide +kernel
theorem dX3_parse_97 : decode cX3_parse 97 = .ok (.iload 5, 2) := by decide +kernel
theorem dX3_parse_99 : decode cX3_parse 99 = .ok (.ifCond .eq 17, 3) := by decide +kernel
theorem dX3_parse_102 : decode cX3_parse 102 = .ok (.iload_n 1, 1) := by decide +kernel
theorem dX3_parse_103 : decode cX3_parse 103 = .ok (.iconst 2, 1) := by decide +kernel
theorem dX3_parse_104 : decode cX3_parse 104 = .ok (.if_icmp .ne 12, 3) := by decide +kernel
theorem dX3_parse_107 : decode cX3_parse 107 = .ok (.aload_n 0, 1) := by decide +kernel
theorem dX3_parse_108 : decode cX3_parse 108 = .ok (.invokevirtual 60, 3) := by decide +kernel
theorem dX3_parse_111 : decode cX3_parse 111 = .ok (.istore 5, 2) := by decide +kernel
theorem dX3_parse_113 : decode cX3_parse 113 = .ok (.goto 14, 3) := by decide +kernel
theorem dX3_parse_116 : decode cX3_parse 116 = .ok (.iload 5, 2) := by decide +kernel
theorem dX3_parse_118 : decode cX3_parse 118 = .ok (.ifCond .eq 9, 3) := by decide +kernel
theorem dX3_parse_121 : decode cX3_parse 121 = .ok (.aload_n 0, 1) := by decide +kernel
theorem dX3_parse_122 : decode cX3_parse 122 = .ok (.invokevirtual 63, 3) := by decide +kernel
theorem dX3_parse_125 : decode cX3_parse 125 = .ok (.istore 5, 2) := by decide +kernel
theorem dX3_parse_127 : decode cX3_parse 127 = .ok (.iload 5, 2) := by decide +kernel
theorem dX3_parse_129 : decode cX3_parse 129 = .ok (.ifCond .ne 5, 3) := by decide +kernel
theorem dX3_parse_132 : decode cX3_parse 132 = .ok (.iconst (-1), 1) := by decide +kernel
theorem dX3_parse_133 : decode cX3_parse 133 = .ok (.ireturn, 1) := by decide +kernel
theorem dX3_parse_134 : decode cX3_parse 134 = .ok (.iinc 3 1, 3) := by decide +kernel
theorem dX3_parse_137 : decode cX3_parse 137 = .ok (.iinc 4 1, 3) := by decide +kernel
theorem dX3_parse_140 : decode cX3_parse 140 = .ok (.goto (-105), 3) := by decide +kernel
theorem dX3_parse_143 : decode cX3_parse 143 = .ok (.iload_n 3, 1) := by decide +kernel
theorem dX3_parse_144 : decode cX3_parse 144 = .ok (.ireturn, 1) := by decide +kernel
def T_X3_parse_127 (B35 : Int32 → Int32 → Int32 → Mm → Prop) (o2 : Nat) (x1 : Int32) (x3 : Int32) (x4 : Int32) (x5 : Int32) (M : Mm) (K : Int32 → Mm → Prop) : Prop := ((x5 = 0 → (K (-1 : Int32) M)) ∧ (¬ x5 = 0 → (∀ y2 : Int32, y2 = x3 + (1 : Int32) → (∀ y3 : Int32, y3 = x4 + (1 : Int32) → (B35 x1 y2 y3 M)))))
set_option maxHeartbeats 4000000 in
set_option maxRecDepth 100000 in
theorem w_X3_parse_127 {p : Program} {l : Launch} {e : Env} {s : State} {m : MethodId} {args : Array Value} {below : List Frame} {meth : Method} {c : Code} {G : fx_G} {K : Int32 → Mm → Prop} {B35 : Int32 → Int32 → Int32 → Mm → Prop} {o2 : Nat} (ho2 : o2 ∈ id_Cast) (X : fx_C G p s m c args cX3_parse 6 RX3) (hr : meth.sig.returnType = (some .int)) (hk : meth.locks = false) (hB35 : ∀ (x1 : Int32) (x3 : Int32) (x4 : Int32) (M : Mm) (H : Heap) (locs : List Loc) (ls : Array Slot), B35 x1 x3 x4 M → fx_H G SH M s H locs → lv_has ls 6 [(0, .ref (G.2.2.2 + 136)), (1, .int x1), (3, .int x3), (4, .int x4)] → W p l e (fx_rm (25)) s m args below meth c H locs 0 0 (MQ below (va_Qi K (fx_R G SH) (fx_A G)) args s 0 0 (fx_A G)) (F0 m 35 ls [])) : ∀ (x1 : Int32) (x3 : Int32) (x4 : Int32) (x5 : Int32) (M : Mm) (H : Heap) (locs : List Loc) (ls : Array Slot), T_X3_parse_127 B35 o2 x1 x3 x4 x5 M K → fx_H G SH M s H locs → lv_has ls 6 [(0, .ref (G.2.2.2 + 136)), (1, .int x1), (3, .int x3), (4, .int x4), (5, .int x5)] → W p l e (fx_rm (25)) s m args below meth c H locs 0 0 (MQ below (va_Qi K (fx_R G SH) (fx_A G)) args s 0 0 (fx_A G)) (F0 m 127 ls []) := by
  obtain ⟨⟨hx, hb, hml, hown, hts⟩, hK, hQ⟩ := id X
  intro x1 x3 x4 x5 M H locs ls hT h hl
  unfold T_X3_parse_127 at hT
  refine lv_iload hx hb dX3_parse_127 (lv_at hl 4 rfl) ?_
  refine lv_if_ne (tgt := 134) hx hb dX3_parse_129 (by decide) (fun hc1 => ?_) (fun hc1 => ?_)
  · have hT := hT.2 hc1
    obtain ⟨y2, ey2⟩ : ∃ z : Int32, z = x3 + (1 : Int32) := ⟨_, rfl⟩
    have hT := hT y2 ey2
    refine lv_iinc (v := y2) (lv' := [(3, .int y2), (0, .ref (G.2.2.2 + 136)), (1, .int x1), (4, .int x4), (5, .int x5)]) hx hb dX3_parse_134 hl (k := 2) rfl (by rw [ey2]; rfl) (by decide) rfl (fun ls hl => ?_)
    obtain ⟨y3, ey3⟩ : ∃ z : Int32, z = x4 + (1 : Int32) := ⟨_, rfl⟩
    have hT := hT y3 ey3
    refine lv_iinc (v := y3) (lv' := [(4, .int y3), (3, .int y2), (0, .ref (G.2.2.2 + 136)), (1, .int x1), (5, .int x5)]) hx hb dX3_parse_137 hl (k := 3) rfl (by rw [ey3]; rfl) (by decide) rfl (fun ls hl => ?_)
    refine lv_goto (tgt := 35) hx hb dX3_parse_140 (by decide) ?_
    exact hB35 x1 y2 y3 M _ _ ls hT h (lv_sub hl [2, 3, 1, 0] rfl)
  · have hT := hT.1 hc1
    refine lv_iconst (v := -1) hx hb dX3_parse_132 (by decide) ?_
    exact fx_iret X hr hk h hT dX3_parse_133
def T_X3_parse_116 (B35 : Int32 → Int32 → Int32 → Mm → Prop) (o2 : Nat) (x1 : Int32) (x3 : Int32) (x4 : Int32) (x5 : Int32) (M : Mm) (K : Int32 → Mm → Prop) : Prop := ((x5 = 0 → (T_X3_parse_127 B35 o2 x1 x3 x4 x5 M K)) ∧ (¬ x5 = 0 → (T_X3_parseWants M (fun r7 M6 => (T_X3_parse_127 B35 o2 x1 x3 x4 r7 M6 K)))))
set_option maxHeartbeats 4000000 in
set_option maxRecDepth 100000 in
theorem w_X3_parse_116 {p : Program} {l : Launch} {e : Env} {s : State} {m : MethodId} {args : Array Value} {below : List Frame} {meth : Method} {c : Code} {G : fx_G} {K : Int32 → Mm → Prop} {B35 : Int32 → Int32 → Int32 → Mm → Prop} {o2 : Nat} (ho2 : o2 ∈ id_Cast) (X : fx_C G p s m c args cX3_parse 6 RX3) (hr : meth.sig.returnType = (some .int)) (hk : meth.locks = false) (hB35 : ∀ (x1 : Int32) (x3 : Int32) (x4 : Int32) (M : Mm) (H : Heap) (locs : List Loc) (ls : Array Slot), B35 x1 x3 x4 M → fx_H G SH M s H locs → lv_has ls 6 [(0, .ref (G.2.2.2 + 136)), (1, .int x1), (3, .int x3), (4, .int x4)] → W p l e (fx_rm (25)) s m args below meth c H locs 0 0 (MQ below (va_Qi K (fx_R G SH) (fx_A G)) args s 0 0 (fx_A G)) (F0 m 35 ls [])) : ∀ (x1 : Int32) (x3 : Int32) (x4 : Int32) (x5 : Int32) (M : Mm) (H : Heap) (locs : List Loc) (ls : Array Slot), T_X3_parse_116 B35 o2 x1 x3 x4 x5 M K → fx_H G SH M s H locs → lv_has ls 6 [(0, .ref (G.2.2.2 + 136)), (1, .int x1), (3, .int x3), (4, .int x4), (5, .int x5)] → W p l e (fx_rm (25)) s m args below meth c H locs 0 0 (MQ below (va_Qi K (fx_R G SH) (fx_A G)) args s 0 0 (fx_A G)) (F0 m 116 ls []) := by
  obtain ⟨⟨hx, hb, hml, hown, hts⟩, hK, hQ⟩ := id X
  intro x1 x3 x4 x5 M H locs ls hT h hl
  unfold T_X3_parse_116 at hT
  refine lv_iload hx hb dX3_parse_116 (lv_at hl 4 rfl) ?_
  refine lv_if_eq (tgt := 127) hx hb dX3_parse_118 (by decide) (fun hc4 => ?_) (fun hc4 => ?_)
  · have hT := hT.1 hc4
    exact w_X3_parse_127 ho2 X hr hk (B35 := B35) hB35 x1 x3 x4 x5 M _ _ ls hT h (lv_sub hl [0, 1, 2, 3, 4] rfl)
  · have hT := hT.2 hc4
    refine lv_aload_n hx hb dX3_parse_121 rfl (lv_at hl 0 rfl) ?_
    refine fx_vi X h ym_X3_parseWants yi_X3_parseWants ys_X3_parseWants (fx_s5 (List.mem_of_getElem? (i := 0) rfl) rfl) sh_136 rfl (c_X3_parseWants l G hT) (As := []) (rest := []) rfl rfl ⟨Nat.le_of_ble_eq_true rfl, Nat.le_of_ble_eq_true rfl⟩ ⟨Nat.le_refl _, Nat.le_refl _⟩ hl.1 (Nat.le_of_ble_eq_true rfl) dX3_parse_122 (fun r7 M6 H locs hT h => ?_)
    refine lv_istore (lv' := [(5, .int r7), (0, .ref (G.2.2.2 + 136)), (1, .int x1), (3, .int x3), (4, .int x4)]) hx hb dX3_parse_125 hl (by decide) rfl (fun ls hl => ?_)
    exact w_X3_parse_127 ho2 X hr hk (B35 := B35) hB35 x1 x3 x4 r7 M6 _ _ ls hT h (lv_sub hl [1, 2, 3, 4, 0] rfl)
def T_X3_parse_97 (B35 : Int32 → Int32 → Int32 → Mm → Prop) (o2 : Nat) (x1 : Int32) (x3 : Int32) (x4 : Int32) (x5 : Int32) (M : Mm) (K : Int32 → Mm → Prop) : Prop := ((x5 = 0 → (T_X3_parse_116 B35 o2 x1 x3 x4 x5 M K)) ∧ (¬ x5 = 0 → ((x1 = (2 : Int32) → (T_X3_parseDay M (fun r12 M11 => (T_X3_parse_127 B35 o2 x1 x3 x4 r12 M11 K)))) ∧ (¬ x1 = (2 : Int32) → (T_X3_parse_116 B35 o2 x1 x3 x4 x5 M K)))))
set_option maxHeartbeats 4000000 in
set_option maxRecDepth 100000 in
theorem w_X3_parse_97 {p : Program} {l : Launch} {e : Env} {s : State} {m : MethodId} {args : Array Value} {below : List Frame} {meth : Method} {c : Code} {G : fx_G} {K : Int32 → Mm → Prop} {B35 : Int32 → Int32 → Int32 → Mm → Prop} {o2 : Nat} (ho2 : o2 ∈ id_Cast) (X : fx_C G p s m c args cX3_parse 6 RX3) (hr : meth.sig.returnType = (some .int)) (hk : meth.locks = false) (hB35 : ∀ (x1 : Int32) (x3 : Int32) (x4 : Int32) (M : Mm) (H : Heap) (locs : List Loc) (ls : Array Slot), B35 x1 x3 x4 M → fx_H G SH M s H locs → lv_has ls 6 [(0, .ref (G.2.2.2 + 136)), (1, .int x1), (3, .int x3), (4, .int x4)] → W p l e (fx_rm (25)) s m args below meth c H locs 0 0 (MQ below (va_Qi K (fx_R G SH) (fx_A G)) args s 0 0 (fx_A G)) (F0 m 35 ls [])) : ∀ (x1 : Int32) (x3 : Int32) (x4 : Int32) (x5 : Int32) (M : Mm) (H : Heap) (locs : List Loc) (ls : Array Slot), T_X3_parse_97 B35 o2 x1 x3 x4 x5 M K → fx_H G SH M s H locs → lv_has ls 6 [(0, .ref (G.2.2.2 + 136)), (1, .int x1), (3, .int x3), (4, .int x4), (5, .int x5)] → W p l e (fx_rm (25)) s m args below meth c H locs 0 0 (MQ below (va_Qi K (fx_R G SH) (fx_A G)) args s 0 0 (fx_A G)) (F0 m 97 ls []) := by
  obtain ⟨⟨hx, hb, hml, hown, hts⟩, hK, hQ⟩ := id X
  intro x1 x3 x4 x5 M H locs ls hT h hl
  unfold T_X3_parse_97 at hT
  refine lv_iload hx hb dX3_parse_97 (lv_at hl 4 rfl) ?_
  refine lv_if_eq (tgt := 116) hx hb dX3_parse_99 (by decide) (fun hc8 => ?_) (fun hc8 => ?_)
  · have hT := hT.1 hc8
    exact w_X3_parse_116 ho2 X hr hk (B35 := B35) hB35 x1 x3 x4 x5 M _ _ ls hT h (lv_sub hl [0, 1, 2, 3, 4] rfl)
  · have hT := hT.2 hc8
    refine lv_iload_n hx hb dX3_parse_102 rfl (lv_at hl 1 rfl) ?_
    refine lv_iconst (v := 2) hx hb dX3_parse_103 (by decide) ?_
    refine lv_icmp_ne (tgt := 116) hx hb dX3_parse_104 (by decide) (fun hc9 => ?_) (fun hc9 => ?_)
    · have hT := hT.2 hc9
      exact w_X3_parse_116 ho2 X hr hk (B35 := B35) hB35 x1 x3 x4 x5 M _ _ ls hT h (lv_sub hl [0, 1, 2, 3, 4] rfl)
    · have hT := hT.1 hc9
      refine lv_aload_n hx hb dX3_parse_107 rfl (lv_at hl 0 rfl) ?_
      refine fx_vi X h ym_X3_parseDay yi_X3_parseDay ys_X3_parseDay (fx_s4 (List.mem_of_getElem? (i := 229) rfl) rfl) sh_136 rfl (c_X3_parseDay l G hT) (As := []) (rest := []) rfl rfl ⟨Nat.le_of_ble_eq_true rfl, Nat.le_of_ble_eq_true rfl⟩ ⟨Nat.le_refl _, Nat.le_refl _⟩ hl.1 (Nat.le_of_ble_eq_true rfl) dX3_parse_108 (fun r12 M11 H locs hT h => ?_)
      refine lv_istore (lv' := [(5, .int r12), (0, .ref (G.2.2.2 + 136)), (1, .int x1), (3, .int x3), (4, .int x4)]) hx hb dX3_parse_111 hl (by decide) rfl (fun ls hl => ?_)
      refine lv_goto (tgt := 127) hx hb dX3_parse_113 (by decide) ?_
      exact w_X3_parse_127 ho2 X hr hk (B35 := B35) hB35 x1 x3 x4 r12 M11 _ _ ls hT h (lv_sub hl [1, 2, 3, 4, 0] rfl)
def T_X3_parse_78 (B35 : Int32 → Int32 → Int32 → Mm → Prop) (o2 : Nat) (x1 : Int32) (x3 : Int32) (x4 : Int32) (x5 : Int32) (M : Mm) (K : Int32 → Mm → Prop) : Prop := ((x5 = 0 → (T_X3_parse_97 B35 o2 x1 x3 x4 x5 M K)) ∧ (¬ x5 = 0 → ((x1 = (1 : Int32) → (T_X3_parseFollows M (fun r17 M16 => (T_X3_parse_127 B35 o2 x1 x3 x4 r17 M16 K)))) ∧ (¬ x1 = (1 : Int32) → (T_X3_parse_97 B35 o2 x1 x3 x4 x5 M K)))))
set_option maxHeartbeats 4000000 in
set_option maxRecDepth 100000 in
theorem w_X3_parse_78 {p : Program} {l : Launch} {e : Env} {s : State} {m : MethodId} {args : Array Value} {below : List Frame} {meth : Method} {c : Code} {G : fx_G} {K : Int32 → Mm → Prop} {B35 : Int32 → Int32 → Int32 → Mm → Prop} {o2 : Nat} (ho2 : o2 ∈ id_Cast) (X : fx_C G p s m c args cX3_parse 6 RX3) (hr : meth.sig.returnType = (some .int)) (hk : meth.locks = false) (hB35 : ∀ (x1 : Int32) (x3 : Int32) (x4 : Int32) (M : Mm) (H : Heap) (locs : List Loc) (ls : Array Slot), B35 x1 x3 x4 M → fx_H G SH M s H locs → lv_has ls 6 [(0, .ref (G.2.2.2 + 136)), (1, .int x1), (3, .int x3), (4, .int x4)] → W p l e (fx_rm (25)) s m args below meth c H locs 0 0 (MQ below (va_Qi K (fx_R G SH) (fx_A G)) args s 0 0 (fx_A G)) (F0 m 35 ls [])) : ∀ (x1 : Int32) (x3 : Int32) (x4 : Int32) (x5 : Int32) (M : Mm) (H : Heap) (locs : List Loc) (ls : Array Slot), T_X3_parse_78 B35 o2 x1 x3 x4 x5 M K → fx_H G SH M s H locs → lv_has ls 6 [(0, .ref (G.2.2.2 + 136)), (1, .int x1), (3, .int x3), (4, .int x4), (5, .int x5)] → W p l e (fx_rm (25)) s m args below meth c H locs 0 0 (MQ below (va_Qi K (fx_R G SH) (fx_A G)) args s 0 0 (fx_A G)) (F0 m 78 ls []) := by
  obtain ⟨⟨hx, hb, hml, hown, hts⟩, hK, hQ⟩ := id X
  intro x1 x3 x4 x5 M H locs ls hT h hl
  unfold T_X3_parse_78 at hT
  refine lv_iload hx hb dX3_parse_78 (lv_at hl 4 rfl) ?_
  refine lv_if_eq (tgt := 97) hx hb dX3_parse_80 (by decide) (fun hc13 => ?_) (fun hc13 => ?_)
  · have hT := hT.1 hc13
    exact w_X3_parse_97 ho2 X hr hk (B35 := B35) hB35 x1 x3 x4 x5 M _ _ ls hT h (lv_sub hl [0, 1, 2, 3, 4] rfl)
  · have hT := hT.2 hc13
    refine lv_iload_n hx hb dX3_parse_83 rfl (lv_at hl 1 rfl) ?_
    refine lv_iconst (v := 1) hx hb dX3_parse_84 (by decide) ?_
    refine lv_icmp_ne (tgt := 97) hx hb dX3_parse_85 (by decide) (fun hc14 => ?_) (fun hc14 => ?_)
    · have hT := hT.2 hc14
      exact w_X3_parse_97 ho2 X hr hk (B35 := B35) hB35 x1 x3 x4 x5 M _ _ ls hT h (lv_sub hl [0, 1, 2, 3, 4] rfl)
    · have hT := hT.1 hc14
      refine lv_aload_n hx hb dX3_parse_88 rfl (lv_at hl 0 rfl) ?_
      refine fx_vi X h ym_X3_parseFollows yi_X3_parseFollows ys_X3_parseFollows (fx_s4 (List.mem_of_getElem? (i := 211) rfl) rfl) sh_136 rfl (c_X3_parseFollows l G hT) (As := []) (rest := []) rfl rfl ⟨Nat.le_of_ble_eq_true rfl, Nat.le_of_ble_eq_true rfl⟩ ⟨Nat.le_refl _, Nat.le_refl _⟩ hl.1 (Nat.le_of_ble_eq_true rfl) dX3_parse_89 (fun r17 M16 H locs hT h => ?_)
      refine lv_istore (lv' := [(5, .int r17), (0, .ref (G.2.2.2 + 136)), (1, .int x1), (3, .int x3), (4, .int x4)]) hx hb dX3_parse_92 hl (by decide) rfl (fun ls hl => ?_)
      refine lv_goto (tgt := 127) hx hb dX3_parse_94 (by decide) ?_
      exact w_X3_parse_127 ho2 X hr hk (B35 := B35) hB35 x1 x3 x4 r17 M16 _ _ ls hT h (lv_sub hl [1, 2, 3, 4, 0] rfl)
def T_X3_parse_35 (o2 : Nat) : Nat → Int32 → Int32 → Int32 → Mm → (Int32 → Mm → Prop) → Prop
  | 0, _, _, _, _, _ => False
  | n + 1, x1, x3, x4, M, K => (((16 : Int32) < x4 → (K x3 M)) ∧ (¬ (16 : Int32) < x4 → (((M 132 6) = 0 → (K x3 M)) ∧ (¬ (M 132 6) = 0 → (T_X3_beginsLine x1 x3 M (fun r22 M21 => ((r22 = 0 → (T_X3_parse_78 (fun x1 x3 x4 M => T_X3_parse_35 o2 n x1 x3 x4 M K) o2 x1 x3 x4 r22 M21 K)) ∧ (¬ r22 = 0 → ((x1 = 0 → (T_X3_parseLaw M21 (fun r27 M26 => (T_X3_parse_127 (fun x1 x3 x4 M => T_X3_parse_35 o2 n x1 x3 x4 M K) o2 x1 x3 x4 r27 M26 K)))) ∧ (¬ x1 = 0 → (T_X3_parse_78 (fun x1 x3 x4 M => T_X3_parse_35 o2 n x1 x3 x4 M K) o2 x1 x3 x4 r22 M21 K)))))))))))
set_option maxHeartbeats 4000000 in
set_option maxRecDepth 100000 in
theorem w_X3_parse_35 {p : Program} {l : Launch} {e : Env} {s : State} {m : MethodId} {args : Array Value} {below : List Frame} {meth : Method} {c : Code} {G : fx_G} {K : Int32 → Mm → Prop} {o2 : Nat} (ho2 : o2 ∈ id_Cast) (X : fx_C G p s m c args cX3_parse 6 RX3) (hr : meth.sig.returnType = (some .int)) (hk : meth.locks = false) : ∀ (n : Nat) (x1 : Int32) (x3 : Int32) (x4 : Int32) (M : Mm) (H : Heap) (locs : List Loc) (ls : Array Slot), T_X3_parse_35 o2 n x1 x3 x4 M K → fx_H G SH M s H locs → lv_has ls 6 [(0, .ref (G.2.2.2 + 136)), (1, .int x1), (3, .int x3), (4, .int x4)] → W p l e (fx_rm (25)) s m args below meth c H locs 0 0 (MQ below (va_Qi K (fx_R G SH) (fx_A G)) args s 0 0 (fx_A G)) (F0 m 35 ls []) := by
  obtain ⟨⟨hx, hb, hml, hown, hts⟩, hK, hQ⟩ := id X
  intro n
  induction n with
  | zero =>
    intro x1 x3 x4 M H locs ls hT
    exact hT.elim
  | succ n ih =>
    intro x1 x3 x4 M H locs ls hT h hl
    rw [T_X3_parse_35] at hT
    refine lv_iload hx hb dX3_parse_35 (lv_at hl 3 rfl) ?_
    refine lv_bipush (v := 16) hx hb dX3_parse_37 (by decide) ?_
    refine lv_icmp_gt (tgt := 143) hx hb dX3_parse_39 (by decide) (fun hc18 => ?_) (fun hc18 => ?_)
    · have hT := hT.1 hc18
      refine lv_iload_n hx hb dX3_parse_143 rfl (lv_at hl 2 rfl) ?_
      exact fx_iret X hr hk h hT dX3_parse_144
    · have hT := hT.2 hc18
      refine lv_aload_n hx hb dX3_parse_42 rfl (lv_at hl 0 rfl) ?_
      refine fx_getR X h (k := 136) (j := 2) (r := 132) sh_136 rfl fl_RX3_32 dX3_parse_43 ?_
      refine fx_getI X h (k := 132) (j := 6) sh_132 rfl fl_RX3_44 dX3_parse_46 ?_
      refine lv_if_eq (tgt := 143) hx hb dX3_parse_49 (by decide) (fun hc19 => ?_) (fun hc19 => ?_)
      · have hT := hT.1 hc19
        refine lv_iload_n hx hb dX3_parse_143 rfl (lv_at hl 2 rfl) ?_
        exact fx_iret X hr hk h hT dX3_parse_144
      · have hT := hT.2 hc19
        refine lv_aload_n hx hb dX3_parse_52 rfl (lv_at hl 0 rfl) ?_
        refine lv_iload_n hx hb dX3_parse_53 rfl (lv_at hl 1 rfl) ?_
        refine lv_iload_n hx hb dX3_parse_54 rfl (lv_at hl 2 rfl) ?_
        refine fx_vi X h ym_X3_beginsLine yi_X3_beginsLine ys_X3_beginsLine (fx_s4 (List.mem_of_getElem? (i := 164) rfl) rfl) sh_136 rfl (c_X3_beginsLine l G hT) (As := [.int x1, .int x3]) (rest := []) rfl rfl ⟨Nat.le_of_ble_eq_true rfl, Nat.le_of_ble_eq_true rfl⟩ ⟨Nat.le_refl _, Nat.le_refl _⟩ hl.1 (Nat.le_of_ble_eq_true rfl) dX3_parse_55 (fun r22 M21 H locs hT h => ?_)
        refine lv_istore (lv' := [(5, .int r22), (0, .ref (G.2.2.2 + 136)), (1, .int x1), (3, .int x3), (4, .int x4)]) hx hb dX3_parse_58 hl (by decide) rfl (fun ls hl => ?_)
        refine lv_iload hx hb dX3_parse_60 (lv_at hl 0 rfl) ?_
        refine lv_if_eq (tgt := 78) hx hb dX3_parse_62 (by decide) (fun hc23 => ?_) (fun hc23 => ?_)
        · have hT := hT.1 hc23
          exact w_X3_parse_78 ho2 X hr hk (B35 := (fun x1 x3 x4 M => T_X3_parse_35 o2 n x1 x3 x4 M K)) ih x1 x3 x4 r22 M21 _ _ ls hT h (lv_sub hl [1, 2, 3, 4, 0] rfl)
        · have hT := hT.2 hc23
          refine lv_iload_n hx hb dX3_parse_65 rfl (lv_at hl 2 rfl) ?_
          refine lv_if_ne (tgt := 78) hx hb dX3_parse_66 (by decide) (fun hc24 => ?_) (fun hc24 => ?_)
          · have hT := hT.2 hc24
            exact w_X3_parse_78 ho2 X hr hk (B35 := (fun x1 x3 x4 M => T_X3_parse_35 o2 n x1 x3 x4 M K)) ih x1 x3 x4 r22 M21 _ _ ls hT h (lv_sub hl [1, 2, 3, 4, 0] rfl)
          · have hT := hT.1 hc24
            refine lv_aload_n hx hb dX3_parse_69 rfl (lv_at hl 1 rfl) ?_
            refine fx_vi X h ym_X3_parseLaw yi_X3_parseLaw ys_X3_parseLaw (fx_s4 (List.mem_of_getElem? (i := 173) rfl) rfl) sh_136 rfl (c_X3_parseLaw l G hT) (As := []) (rest := []) rfl rfl ⟨Nat.le_of_ble_eq_true rfl, Nat.le_of_ble_eq_true rfl⟩ ⟨Nat.le_refl _, Nat.le_refl _⟩ hl.1 (Nat.le_of_ble_eq_true rfl) dX3_parse_70 (fun r27 M26 H locs hT h => ?_)
            refine lv_istore (lv' := [(5, .int r27), (0, .ref (G.2.2.2 + 136)), (1, .int x1), (3, .int x3), (4, .int x4)]) hx hb dX3_parse_73 hl (by decide) rfl (fun ls hl => ?_)
            refine lv_goto (tgt := 127) hx hb dX3_parse_75 (by decide) ?_
            exact w_X3_parse_127 ho2 X hr hk (B35 := (fun x1 x3 x4 M => T_X3_parse_35 o2 n x1 x3 x4 M K)) ih x1 x3 x4 r27 M26 _ _ ls hT h (lv_sub hl [1, 2, 3, 4, 0] rfl)
def T_X3_parse (o2 : Nat) (x1 : Int32) (M : Mm) (K : Int32 → Mm → Prop) : Prop := (∀ M28 : Mm, M28 = m_up M 136 3 (M o2 0) → (∀ M29 : Mm, M29 = m_up M28 136 4 (M28 o2 1) → (T_X2_clear 137 M29 (fun M31 => (T_X5_clear 144 M31 (fun M33 => (T_X3_parse_35 o2 5000 x1 (0 : Int32) (0 : Int32) M33 K)))))))
set_option maxHeartbeats 4000000 in
set_option maxRecDepth 100000 in
theorem c_X3_parse (l : Launch) (G : fx_G) {o2 : Nat} (ho2 : o2 ∈ id_Cast) {x1 : Int32} {M : Mm} {K : Int32 → Mm → Prop} (hT : T_X3_parse o2 x1 M K) : Met l yX3_parse (fx_ws yX3_parse cX3_parse 6 (some .int)) (fx_rm (25)) (va_Pc [.ref (G.2.2.2 + 136), .int x1, .ref (G.2.2.2 + o2)] (fx_P G SH M)) (va_Qi K (fx_R G SH) (fx_A G)) 0 0 (fx_A G) := by
  refine fx_met (own := RX3) (by decide +kernel) rfl (Nat.le_of_ble_eq_true rfl) (fun p e s m below meth c X hr hk h ls hl => ?_)
  obtain ⟨⟨hx, hb, hml, hown, hts⟩, hK, hQ⟩ := id X
  have hl : lv_has ls 6 [(0, .ref (G.2.2.2 + 136)), (1, .int x1), (2, .ref (G.2.2.2 + o2))] := hl
  unfold T_X3_parse at hT
  refine lv_aload_n hx hb dX3_parse_0 rfl (lv_at hl 0 rfl) ?_
  refine lv_aload_n hx hb dX3_parse_1 rfl (lv_at hl 2 rfl) ?_
  refine fx_getI X h (k := o2) (j := 0) (sc_Cast o2 ho2) rfl fl_RX3_36 dX3_parse_2 ?_
  refine fx_putI X h (k := 136) (j := 3) sh_136 rfl fl_RX3_25 dX3_parse_5 (fun H locs h => ?_)
  obtain ⟨M28, eM28⟩ : ∃ z : Mm, z = m_up M 136 3 (M o2 0) := ⟨_, rfl⟩
  have hT := hT M28 eM28
  rw [← eM28] at h
  refine lv_aload_n hx hb dX3_parse_8 rfl (lv_at hl 0 rfl) ?_
  refine lv_aload_n hx hb dX3_parse_9 rfl (lv_at hl 2 rfl) ?_
  refine fx_getI X h (k := o2) (j := 1) (sc_Cast o2 ho2) rfl fl_RX3_39 dX3_parse_10 ?_
  refine fx_putI X h (k := 136) (j := 4) sh_136 rfl fl_RX3_29 dX3_parse_13 (fun H locs h => ?_)
  obtain ⟨M29, eM29⟩ : ∃ z : Mm, z = m_up M28 136 4 (M28 o2 1) := ⟨_, rfl⟩
  have hT := hT M29 eM29
  rw [← eM29] at h
  refine lv_aload_n hx hb dX3_parse_16 rfl (lv_at hl 0 rfl) ?_
  refine fx_getR X h (k := 136) (j := 0) (r := 137) sh_136 rfl fl_RX3_12 dX3_parse_17 ?_
  refine fx_vv X h ym_X2_clear yi_X2_clear ys_X2_clear (fx_s4 (List.mem_of_getElem? (i := 156) rfl) rfl) sh_137 rfl (c_X2_clear l G (by decide) hT) (As := []) (rest := []) rfl rfl ⟨Nat.le_of_ble_eq_true rfl, Nat.le_of_ble_eq_true rfl⟩ ⟨Nat.le_refl _, Nat.le_refl _⟩ hl.1 (Nat.le_of_ble_eq_true rfl) dX3_parse_20 (fun M31 H locs hT h => ?_)
  refine lv_aload_n hx hb dX3_parse_23 rfl (lv_at hl 0 rfl) ?_
  refine fx_getR X h (k := 136) (j := 1) (r := 144) sh_136 rfl fl_RX3_21 dX3_parse_24 ?_
  refine fx_vv X h ym_X5_clear yi_X5_clear ys_X5_clear (fx_s4 (List.mem_of_getElem? (i := 160) rfl) rfl) sh_144 rfl (c_X5_clear l G (by decide) hT) (As := []) (rest := []) rfl rfl ⟨Nat.le_of_ble_eq_true rfl, Nat.le_of_ble_eq_true rfl⟩ ⟨Nat.le_refl _, Nat.le_refl _⟩ hl.1 (Nat.le_of_ble_eq_true rfl) dX3_parse_27 (fun M33 H locs hT h => ?_)
  refine lv_iconst (v := 0) hx hb dX3_parse_30 (by decide) ?_
  refine lv_istore_n (lv' := [(3, .int (0 : Int32)), (0, .ref (G.2.2.2 + 136)), (1, .int x1), (2, .ref (G.2.2.2 + o2))]) hx hb dX3_parse_31 rfl hl (by decide) rfl (fun ls hl => ?_)
  refine lv_iconst (v := 0) hx hb dX3_parse_32 (by decide) ?_
  refine lv_istore (lv' := [(4, .int (0 : Int32)), (3, .int (0 : Int32)), (0, .ref (G.2.2.2 + 136)), (1, .int x1), (2, .ref (G.2.2.2 + o2))]) hx hb dX3_parse_33 hl (by decide) rfl (fun ls hl => ?_)
  exact w_X3_parse_35 ho2 X hr hk 5000 x1 (0 : Int32) (0 : Int32) M33 _ _ ls hT h (lv_sub hl [2, 3, 1, 0] rfl)
