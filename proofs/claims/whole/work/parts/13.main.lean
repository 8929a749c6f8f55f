/-! MockParcels.state(I)I -/
theorem dX11_state_0 : decode cX11_state 0 = .ok (.aload_n 0, 1) := by decide +kernel
theorem dX11_state_1 : decode cX11_state 1 = .ok (.getfield 12, 3) := by decide +kernel
theorem dX11_state_4 : decode cX11_state 4 = .ok (.getfield 35, 3) := by decide +kernel
theorem dX11_state_7 : decode cX11_state 7 = .ok (.getfield 82, 3) := by decide +kernel
theorem dX11_state_10 : decode cX11_state 10 = .ok (.istore_n 2, 1) := by decide +kernel
theorem dX11_state_11 : decode cX11_state 11 = .ok (.aload_n 0, 1) := by decide +kernel
theorem dX11_state_12 : decode cX11_state 12 = .ok (.getfield 12, 3) := by decide +kernel
theorem dX11_state_15 : decode cX11_state 15 = .ok (.getfield 35, 3) := by decide +kernel
theorem dX11_state_18 : decode cX11_state 18 = .ok (.iload_n 1, 1) := by decide +kernel
theorem dX11_state_19 : decode cX11_state 19 = .ok (.putfield 82, 3) := by decide +kernel
theorem dX11_state_22 : decode cX11_state 22 = .ok (.aload_n 0, 1) := by decide +kernel
theorem dX11_state_23 : decode cX11_state 23 = .ok (.getfield 22, 3) := by decide +kernel
theorem dX11_state_26 : decode cX11_state 26 = .ok (.invokevirtual 85, 3) := by decide +kernel
theorem dX11_state_29 : decode cX11_state 29 = .ok (.iload_n 2, 1) := by decide +kernel
theorem dX11_state_30 : decode cX11_state 30 = .ok (.ireturn, 1) := by decide +kernel
def T_X11_state (x1 : Int32) (M : Mm) (K : Int32 → Mm → Prop) : Prop := (∀ y1 : Int32, y1 = (M 8 6) → (∀ M2 : Mm, M2 = m_up M 8 6 x1 → (T_X4_forget M2 (fun M4 => (K y1 M4)))))
set_option maxHeartbeats 4000000 in
set_option maxRecDepth 100000 in
theorem c_X11_state (l : Launch) (G : fx_G) {x1 : Int32} {M : Mm} {K : Int32 → Mm → Prop} (hT : T_X11_state x1 M K) : Met l yX11_state (fx_ws yX11_state cX11_state 3 (some .int)) (fx_rm (1)) (va_Pc [.ref (G.2.2.2 + 0), .int x1] (fx_P G SH M)) (va_Qi K (fx_R G SH) (fx_A G)) 0 0 (fx_A G) := by
  refine fx_met (own := RX11) (by decide +kernel) rfl (Nat.le_of_ble_eq_true rfl) (fun p e s m below meth c X hr hk h ls hl => ?_)
  obtain ⟨⟨hx, hb, hml, hown, hts⟩, hK, hQ⟩ := id X
  have hl : lv_has ls 3 [(0, .ref (G.2.2.2 + 0)), (1, .int x1)] := hl
  unfold T_X11_state at hT
  refine lv_aload_n hx hb dX11_state_0 rfl (lv_at hl 0 rfl) ?_
  refine fx_getR X h (k := 0) (j := 0) (r := 1) sh_0 rfl fl_RX11_12 dX11_state_1 ?_
  refine fx_getR X h (k := 1) (j := 1) (r := 8) sh_1 rfl fl_RX11_35 dX11_state_4 ?_
  refine fx_getI X h (k := 8) (j := 6) sh_8 rfl fl_RX11_82 dX11_state_7 ?_
  refine lv_topi (fun y1 ey1 => ?_)
  have hT := hT y1 ey1
  refine lv_istore_n (lv' := [(2, .int y1), (0, .ref (G.2.2.2 + 0)), (1, .int x1)]) hx hb dX11_state_10 rfl hl (by decide) rfl (fun ls hl => ?_)
  refine lv_aload_n hx hb dX11_state_11 rfl (lv_at hl 1 rfl) ?_
  refine fx_getR X h (k := 0) (j := 0) (r := 1) sh_0 rfl fl_RX11_12 dX11_state_12 ?_
  refine fx_getR X h (k := 1) (j := 1) (r := 8) sh_1 rfl fl_RX11_35 dX11_state_15 ?_
  refine lv_iload_n hx hb dX11_state_18 rfl (lv_at hl 2 rfl) ?_
  refine fx_putI X h (k := 8) (j := 6) sh_8 rfl fl_RX11_82 dX11_state_19 (fun H locs h => ?_)
  obtain ⟨M2, eM2⟩ : ∃ z : Mm, z = m_up M 8 6 x1 := ⟨_, rfl⟩
  have hT := hT M2 eM2
  rw [← eM2] at h
  refine lv_aload_n hx hb dX11_state_22 rfl (lv_at hl 1 rfl) ?_
  refine fx_getR X h (k := 0) (j := 2) (r := 79) sh_0 rfl fl_RX11_22 dX11_state_23 ?_
  refine fx_vv X h ym_X4_forget yi_X4_forget ys_X4_forget (fx_s3 (List.mem_of_getElem? (i := 56) rfl) rfl) sh_79 rfl (c_X4_forget l G hT) (As := []) (rest := []) rfl rfl ⟨Nat.le_of_ble_eq_true rfl, Nat.le_of_ble_eq_true rfl⟩ ⟨Nat.le_refl _, Nat.le_refl _⟩ hl.1 (Nat.le_of_ble_eq_true rfl) dX11_state_26 (fun M4 H locs hT h => ?_)
  refine lv_iload_n hx hb dX11_state_29 rfl (lv_at hl 0 rfl) ?_
  exact fx_iret X hr hk h hT dX11_state_30
/-! MockParcels.parcel(III)I -/
theorem dX11_parcel_0 : decode cX11_parcel 0 = .ok (.iload_n 1, 1) := by decide +kernel
theorem dX11_parcel_1 : decode cX11_parcel 1 = .ok (.iconst 0, 1) := by decide +kernel
theorem dX11_parcel_2 : decode cX11_parcel 2 = .ok (.bipush 99, 2) := by decide +kernel
theorem dX11_parcel_4 : decode cX11_parcel 4 = .ok (.invokestatic 88, 3) := by decide +kernel
theorem dX11_parcel_7 : decode cX11_parcel 7 = .ok (.ifCond .eq 38, 3) := by decide +kernel
theorem dX11_parcel_10 : decode cX11_parcel 10 = .ok (.iload_n 2, 1) := by decide +kernel
theorem dX11_parcel_11 : decode cX11_parcel 11 = .ok (.iconst 0, 1) := by decide +kernel
theorem dX11_parcel_12 : decode cX11_parcel 12 = .ok (.bipush 9, 2) := by decide +kernel
theorem dX11_parcel_14 : decode cX11_parcel 14 = .ok (.invokestatic 88, 3) := by decide +kernel
theorem dX11_parcel_17 : decode cX11_parcel 17 = .ok (.ifCond .eq 28, 3) := by decide +kernel
theorem dX11_parcel_20 : decode cX11_parcel 20 = .ok (.iload_n 3, 1) := by decide +kernel
theorem dX11_parcel_21 : decode cX11_parcel 21 = .ok (.iconst 0, 1) := by decide +kernel
theorem dX11_parcel_22 : decode cX11_parcel 22 = .ok (.bipush 9, 2) := by decide +kernel
theorem dX11_parcel_24 : decode cX11_parcel 24 = .ok (.invokestatic 88, 3) := by decide +kernel
theorem dX11_parcel_27 : decode cX11_parcel 27 = .ok (.ifCond .eq 18, 3) := by decide +kernel
theorem dX11_parcel_30 : decode cX11_parcel 30 = .ok (.aload_n 0, 1) := by decide +kernel
theorem dX11_parcel_31 : decode cX11_parcel 31 = .ok (.getfield 12, 3) := by decide +kernel
theorem dX11_parcel_34 : decode cX11_parcel 34 = .ok (.getfield 92, 3) := by decide +kernel
theorem dX11_parcel_37 : decode cX11_parcel 37 = .ok (.getfield 96, 3) := by decide +kernel
theorem dX11_parcel_40 : decode cX11_parcel 40 = .ok (.bipush 16, 2) := by decide +kernel
theorem dX11_parcel_42 : decode cX11_parcel 42 = .ok (.if_icmp .lt 5, 3) := by decide +kernel
theorem dX11_parcel_45 : decode cX11_parcel 45 = .ok (.iconst (-1), 1) := by decide +kernel
theorem dX11_parcel_46 : decode cX11_parcel 46 = .ok (.ireturn, 1) := by decide +kernel
theorem dX11_parcel_47 : decode cX11_parcel 47 = .ok (.aload_n 0, 1) := by decide +kernel
theorem dX11_parcel_48 : decode cX11_parcel 48 = .ok (.getfield 22, 3) := by decide +kernel
theorem dX11_parcel_51 : decode cX11_parcel 51 = .ok (.invokevirtual 85, 3) := by decide +kernel
theorem dX11_parcel_54 : decode cX11_parcel 54 = .ok (.aload_n 0, 1) := by decide +kernel
theorem dX11_parcel_55 : decode cX11_parcel 55 = .ok (.getfield 12, 3) := by decide +kernel
theorem dX11_parcel_58 : decode cX11_parcel 58 = .ok (.getfield 92, 3) := by decide +kernel
theorem dX11_parcel_61 : decode cX11_parcel 61 = .ok (.iload_n 1, 1) := by decide +kernel
theorem dX11_parcel_62 : decode cX11_parcel 62 = .ok (.iload_n 2, 1) := by decide +kernel
theorem dX11_parcel_63 : decode cX11_parcel 63 = .ok (.iload_n 3, 1) := by decide +kernel
theorem dX11_parcel_64 : decode cX11_parcel 64 = .ok (.invokevirtual 101, 3) := by decide +kernel
theorem dX11_parcel_67 : decode cX11_parcel 67 = .ok (.ireturn, 1) := by decide +kernel
def T_X11_parcel (x1 : Int32) (x2 : Int32) (x3 : Int32) (M : Mm) (K : Int32 → Mm → Prop) : Prop := (T_X11_isWithin x1 (0 : Int32) (99 : Int32) M (fun r3 M2 => ((r3 = 0 → (K (-1 : Int32) M2)) ∧ (¬ r3 = 0 → (T_X11_isWithin x2 (0 : Int32) (9 : Int32) M2 (fun r7 M6 => ((r7 = 0 → (K (-1 : Int32) M6)) ∧ (¬ r7 = 0 → (T_X11_isWithin x3 (0 : Int32) (9 : Int32) M6 (fun r11 M10 => ((r11 = 0 → (K (-1 : Int32) M10)) ∧ (¬ r11 = 0 → (((M10 2 0) < (16 : Int32) → (T_X4_forget M10 (fun M15 => (T_X1_addParcel 2 x1 x2 x3 M15 (fun r18 M17 => (K r18 M17)))))) ∧ (¬ (M10 2 0) < (16 : Int32) → (K (-1 : Int32) M10)))))))))))))))
set_option maxHeartbeats 4000000 in
set_option maxRecDepth 100000 in
theorem c_X11_parcel (l : Launch) (G : fx_G) {x1 : Int32} {x2 : Int32} {x3 : Int32} {M : Mm} {K : Int32 → Mm → Prop} (hT : T_X11_parcel x1 x2 x3 M K) : Met l yX11_parcel (fx_ws yX11_parcel cX11_parcel 4 (some .int)) (fx_rm (1)) (va_Pc [.ref (G.2.2.2 + 0), .int x1, .int x2, .int x3] (fx_P G SH M)) (va_Qi K (fx_R G SH) (fx_A G)) 0 0 (fx_A G) := by
  refine fx_met (own := RX11) (by decide +kernel) rfl (Nat.le_of_ble_eq_true rfl) (fun p e s m below meth c X hr hk h ls hl => ?_)
  obtain ⟨⟨hx, hb, hml, hown, hts⟩, hK, hQ⟩ := id X
  have hl : lv_has ls 4 [(0, .ref (G.2.2.2 + 0)), (1, .int x1), (2, .int x2), (3, .int x3)] := hl
  unfold T_X11_parcel at hT
  refine lv_iload_n hx hb dX11_parcel_0 rfl (lv_at hl 1 rfl) ?_
  refine lv_iconst (v := 0) hx hb dX11_parcel_1 (by decide) ?_
  refine lv_bipush (v := 99) hx hb dX11_parcel_2 (by decide) ?_
  refine fx_si X h ym_X11_isWithin yt_X11_isWithin (fx_s3 (List.mem_of_getElem? (i := 64) rfl) rfl) (c_X11_isWithin l G hT) (As := [.int x1, .int (0 : Int32), .int (99 : Int32)]) (rest := []) rfl rfl ⟨Nat.le_of_ble_eq_true rfl, Nat.le_of_ble_eq_true rfl⟩ ⟨Nat.le_refl _, Nat.le_refl _⟩ hl.1 (Nat.le_of_ble_eq_true rfl) dX11_parcel_4 (fun r3 M2 H locs hT h => ?_)
  refine lv_if_eq (tgt := 45) hx hb dX11_parcel_7 (by decide) (fun hc4 => ?_) (fun hc4 => ?_)
  · have hT := hT.1 hc4
    refine lv_iconst (v := -1) hx hb dX11_parcel_45 (by decide) ?_
    exact fx_iret X hr hk h hT dX11_parcel_46
  · have hT := hT.2 hc4
    refine lv_iload_n hx hb dX11_parcel_10 rfl (lv_at hl 2 rfl) ?_
    refine lv_iconst (v := 0) hx hb dX11_parcel_11 (by decide) ?_
    refine lv_bipush (v := 9) hx hb dX11_parcel_12 (by decide) ?_
    refine fx_si X h ym_X11_isWithin yt_X11_isWithin (fx_s3 (List.mem_of_getElem? (i := 64) rfl) rfl) (c_X11_isWithin l G hT) (As := [.int x2, .int (0 : Int32), .int (9 : Int32)]) (rest := []) rfl rfl ⟨Nat.le_of_ble_eq_true rfl, Nat.le_of_ble_eq_true rfl⟩ ⟨Nat.le_refl _, Nat.le_refl _⟩ hl.1 (Nat.le_of_ble_eq_true rfl) dX11_parcel_14 (fun r7 M6 H locs hT h => ?_)
    refine lv_if_eq (tgt := 45) hx hb dX11_parcel_17 (by decide) (fun hc8 => ?_) (fun hc8 => ?_)
    · have hT := hT.1 hc8
      refine lv_iconst (v := -1) hx hb dX11_parcel_45 (by decide) ?_
      exact fx_iret X hr hk h hT dX11_parcel_46
    · have hT := hT.2 hc8
      refine lv_iload_n hx hb dX11_parcel_20 rfl (lv_at hl 3 rfl) ?_
      refine lv_iconst (v := 0) hx hb dX11_parcel_21 (by decide) ?_
      refine lv_bipush (v := 9) hx hb dX11_parcel_22 (by decide) ?_
      refine fx_si X h ym_X11_isWithin yt_X11_isWithin (fx_s3 (List.mem_of_getElem? (i := 64) rfl) rfl) (c_X11_isWithin l G hT) (As := [.int x3, .int (0 : Int32), .int (9 : Int32)]) (rest := []) rfl rfl ⟨Nat.le_of_ble_eq_true rfl, Nat.le_of_ble_eq_true rfl⟩ ⟨Nat.le_refl _, Nat.le_refl _⟩ hl.1 (Nat.le_of_ble_eq_true rfl) dX11_parcel_24 (fun r11 M10 H locs hT h => ?_)
      refine lv_if_eq (tgt := 45) hx hb dX11_parcel_27 (by decide) (fun hc12 => ?_) (fun hc12 => ?_)
      · have hT := hT.1 hc12
        refine lv_iconst (v := -1) hx hb dX11_parcel_45 (by decide) ?_
        exact fx_iret X hr hk h hT dX11_parcel_46
      · have hT := hT.2 hc12
        refine lv_aload_n hx hb dX11_parcel_30 rfl (lv_at hl 0 rfl) ?_
        refine fx_getR X h (k := 0) (j := 0) (r := 1) sh_0 rfl fl_RX11_12 dX11_parcel_31 ?_
        refine fx_getR X h (k := 1) (j := 0) (r := 2) sh_1 rfl fl_RX11_92 dX11_parcel_34 ?_
        refine fx_getI X h (k := 2) (j := 0) sh_2 rfl fl_RX11_96 dX11_parcel_37 ?_
        refine lv_bipush (v := 16) hx hb dX11_parcel_40 (by decide) ?_
        refine lv_icmp_lt (tgt := 47) hx hb dX11_parcel_42 (by decide) (fun hc13 => ?_) (fun hc13 => ?_)
        · have hT := hT.1 hc13
          refine lv_aload_n hx hb dX11_parcel_47 rfl (lv_at hl 0 rfl) ?_
          refine fx_getR X h (k := 0) (j := 2) (r := 79) sh_0 rfl fl_RX11_22 dX11_parcel_48 ?_
          refine fx_vv X h ym_X4_forget yi_X4_forget ys_X4_forget (fx_s3 (List.mem_of_getElem? (i := 56) rfl) rfl) sh_79 rfl (c_X4_forget l G hT) (As := []) (rest := []) rfl rfl ⟨Nat.le_of_ble_eq_true rfl, Nat.le_of_ble_eq_true rfl⟩ ⟨Nat.le_refl _, Nat.le_refl _⟩ hl.1 (Nat.le_of_ble_eq_true rfl) dX11_parcel_51 (fun M15 H locs hT h => ?_)
          refine lv_aload_n hx hb dX11_parcel_54 rfl (lv_at hl 0 rfl) ?_
          refine fx_getR X h (k := 0) (j := 0) (r := 1) sh_0 rfl fl_RX11_12 dX11_parcel_55 ?_
          refine fx_getR X h (k := 1) (j := 0) (r := 2) sh_1 rfl fl_RX11_92 dX11_parcel_58 ?_
          refine lv_iload_n hx hb dX11_parcel_61 rfl (lv_at hl 1 rfl) ?_
          refine lv_iload_n hx hb dX11_parcel_62 rfl (lv_at hl 2 rfl) ?_
          refine lv_iload_n hx hb dX11_parcel_63 rfl (lv_at hl 3 rfl) ?_
          refine fx_vi X h ym_X1_addParcel yi_X1_addParcel ys_X1_addParcel (fx_s3 (List.mem_of_getElem? (i := 67) rfl) rfl) sh_2 rfl (c_X1_addParcel l G (by decide) hT) (As := [.int x1, .int x2, .int x3]) (rest := []) rfl rfl ⟨Nat.le_of_ble_eq_true rfl, Nat.le_of_ble_eq_true rfl⟩ ⟨Nat.le_refl _, Nat.le_refl _⟩ hl.1 (Nat.le_of_ble_eq_true rfl) dX11_parcel_64 (fun r18 M17 H locs hT h => ?_)
          exact fx_iret X hr hk h hT dX11_parcel_67
        · have hT := hT.2 hc13
          refine lv_iconst (v := -1) hx hb dX11_parcel_45 (by decide) ?_
          exact fx_iret X hr hk h hT dX11_parcel_46
/-! MockParcels.bidder(IIZ)I -/
theorem dX11_bidder_0 : decode cX11_bidder 0 = .ok (.iload_n 1, 1) := by decide +kernel
theorem dX11_bidder_1 : decode cX11_bidder 1 = .ok (.iconst 0, 1) := by decide +kernel
theorem dX11_bidder_2 : decode cX11_bidder 2 = .ok (.sipush 9999, 3) := by decide +kernel
theorem dX11_bidder_5 : decode cX11_bidder 5 = .ok (.invokestatic 88, 3) := by decide +kernel
theorem dX11_bidder_8 : decode cX11_bidder 8 = .ok (.ifCond .eq 28, 3) := by decide +kernel
theorem dX11_bidder_11 : decode cX11_bidder 11 = .ok (.iload_n 2, 1) := by decide +kernel
theorem dX11_bidder_12 : decode cX11_bidder 12 = .ok (.iconst 0, 1) := by decide +kernel
theorem dX11_bidder_13 : decode cX11_bidder 13 = .ok (.bipush 9, 2) := by decide +kernel
theorem dX11_bidder_15 : decode cX11_bidder 15 = .ok (.invokestatic 88, 3) := by decide +kernel
theorem dX11_bidder_18 : decode cX11_bidder 18 = .ok (.ifCond .eq 18, 3) := by decide +kernel
theorem dX11_bidder_21 : decode cX11_bidder 21 = .ok (.aload_n 0, 1) := by decide +kernel
theorem dX11_bidder_22 : decode cX11_bidder 22 = .ok (.getfield 12, 3) := by decide +kernel
theorem dX11_bidder_25 : decode cX11_bidder 25 = .ok (.getfield 92, 3) := by decide +kernel
theorem dX11_bidder_28 : decode cX11_bidder 28 = .ok (.getfield 105, 3) := by decide +kernel
theorem dX11_bidder_31 : decode cX11_bidder 31 = .ok (.bipush 8, 2) := by decide +kernel
theorem dX11_bidder_33 : decode cX11_bidder 33 = .ok (.if_icmp .lt 5, 3) := by decide +kernel
theorem dX11_bidder_36 : decode cX11_bidder 36 = .ok (.iconst (-1), 1) := by decide +kernel
theorem dX11_bidder_37 : decode cX11_bidder 37 = .ok (.ireturn, 1) := by decide +kernel
theorem dX11_bidder_38 : decode cX11_bidder 38 = .ok (.aload_n 0, 1) := by decide +kernel
theorem dX11_bidder_39 : decode cX11_bidder 39 = .ok (.getfield 22, 3) := by decide +kernel
theorem dX11_bidder_42 : decode cX11_bidder 42 = .ok (.invokevirtual 85, 3) := by decide +kernel
theorem dX11_bidder_45 : decode cX11_bidder 45 = .ok (.aload_n 0, 1) := by decide +kernel
theorem dX11_bidder_46 : decode cX11_bidder 46 = .ok (.getfield 12, 3) := by decide +kernel
theorem dX11_bidder_49 : decode cX11_bidder 49 = .ok (.getfield 35, 3) := by decide +kernel
theorem dX11_bidder_52 : decode cX11_bidder 52 = .ok (.getfield 108, 3) := by decide +kernel
theorem dX11_bidder_55 : decode cX11_bidder 55 = .ok (.aload_n 0, 1) := by decide +kernel
theorem dX11_bidder_56 : decode cX11_bidder 56 = .ok (.getfield 12, 3) := by decide +kernel
theorem dX11_bidder_59 : decode cX11_bidder 59 = .ok (.getfield 92, 3) := by decide +kernel
theorem dX11_bidder_62 : decode cX11_bidder 62 = .ok (.getfield 105, 3) := by decide +kernel
theorem dX11_bidder_65 : decode cX11_bidder 65 = .ok (.iload_n 1, 1) := by decide +kernel
theorem dX11_bidder_66 : decode cX11_bidder 66 = .ok (.iastore, 1) := by decide +kernel
theorem dX11_bidder_67 : decode cX11_bidder 67 = .ok (.aload_n 0, 1) := by decide +kernel
theorem dX11_bidder_68 : decode cX11_bidder 68 = .ok (.getfield 12, 3) := by decide +kernel
theorem dX11_bidder_71 : decode cX11_bidder 71 = .ok (.getfield 92, 3) := by decide +kernel
theorem dX11_bidder_74 : decode cX11_bidder 74 = .ok (.iload_n 2, 1) := by decide +kernel
theorem dX11_bidder_75 : decode cX11_bidder 75 = .ok (.iload_n 3, 1) := by decide +kernel
theorem dX11_bidder_76 : decode cX11_bidder 76 = .ok (.ifCond .eq 7, 3) := by decide +kernel
theorem dX11_bidder_79 : decode cX11_bidder 79 = .ok (.iconst 1, 1) := by decide +kernel
theorem dX11_bidder_80 : decode cX11_bidder 80 = .ok (.goto 4, 3) := by decide +kernel
theorem dX11_bidder_83 : decode cX11_bidder 83 = .ok (.iconst 0, 1) := by decide +kernel
theorem dX11_bidder_84 : decode cX11_bidder 84 = .ok (.invokevirtual 112, 3) := by decide +kernel
theorem dX11_bidder_87 : decode cX11_bidder 87 = .ok (.ireturn, 1) := by decide +kernel
def T_X11_bidder_84 (s1 : Int32) (s2 : Int32) (M : Mm) (K : Int32 → Mm → Prop) : Prop := (T_X1_addBidder 2 s1 s2 M (fun r3 M2 => (K r3 M2)))
set_option maxHeartbeats 4000000 in
set_option maxRecDepth 100000 in
theorem w_X11_bidder_84 {p : Program} {l : Launch} {e : Env} {s : State} {m : MethodId} {args : Array Value} {below : List Frame} {meth : Method} {c : Code} {G : fx_G} {K : Int32 → Mm → Prop} (X : fx_C G p s m c args cX11_bidder 4 RX11) (hr : meth.sig.returnType = (some .int)) (hk : meth.locks = false) : ∀ (s1 : Int32) (s2 : Int32) (M : Mm) (H : Heap) (locs : List Loc) (ls : Array Slot), T_X11_bidder_84 s1 s2 M K → fx_H G SH M s H locs → lv_has ls 4 [] → W p l e (fx_rm (1)) s m args below meth c H locs 0 0 (MQ below (va_Qi K (fx_R G SH) (fx_A G)) args s 0 0 (fx_A G)) (F0 m 84 ls [.int s2, .int s1, .ref (G.2.2.2 + 2)]) := by
  obtain ⟨⟨hx, hb, hml, hown, hts⟩, hK, hQ⟩ := id X
  intro s1 s2 M H locs ls hT h hl
  unfold T_X11_bidder_84 at hT
  refine fx_vi X h ym_X1_addBidder yi_X1_addBidder ys_X1_addBidder (fx_s3 (List.mem_of_getElem? (i := 75) rfl) rfl) sh_2 rfl (c_X1_addBidder l G (by decide) hT) (As := [.int s1, .int s2]) (rest := []) rfl rfl ⟨Nat.le_of_ble_eq_true rfl, Nat.le_of_ble_eq_true rfl⟩ ⟨Nat.le_refl _, Nat.le_refl _⟩ hl.1 (Nat.le_of_ble_eq_true rfl) dX11_bidder_84 (fun r3 M2 H locs hT h => ?_)
  exact fx_iret X hr hk h hT dX11_bidder_87
def T_X11_bidder (x1 : Int32) (x2 : Int32) (x3 : Int32) (M : Mm) (K : Int32 → Mm → Prop) : Prop := (T_X11_isWithin x1 (0 : Int32) (9999 : Int32) M (fun r6 M5 => ((r6 = 0 → (K (-1 : Int32) M5)) ∧ (¬ r6 = 0 → (T_X11_isWithin x2 (0 : Int32) (9 : Int32) M5 (fun r10 M9 => ((r10 = 0 → (K (-1 : Int32) M9)) ∧ (¬ r10 = 0 → (((M9 2 1) < (8 : Int32) → (T_X4_forget M9 (fun M14 => (vp_in (M14 2 1) 8 ∧ (∀ M15 : Mm, M15 = m_up M14 12 ((M14 2 1)).toNatClampNeg x1 → ((x3 = 0 → (T_X11_bidder_84 x2 (0 : Int32) M15 K)) ∧ (¬ x3 = 0 → (T_X11_bidder_84 x2 (1 : Int32) M15 K)))))))) ∧ (¬ (M9 2 1) < (8 : Int32) → (K (-1 : Int32) M9)))))))))))
set_option maxHeartbeats 4000000 in
set_option maxRecDepth 100000 in
theorem c_X11_bidder (l : Launch) (G : fx_G) {x1 : Int32} {x2 : Int32} {x3 : Int32} {M : Mm} {K : Int32 → Mm → Prop} (hT : T_X11_bidder x1 x2 x3 M K) : Met l yX11_bidder (fx_ws yX11_bidder cX11_bidder 4 (some .int)) (fx_rm (1)) (va_Pc [.ref (G.2.2.2 + 0), .int x1, .int x2, .int x3] (fx_P G SH M)) (va_Qi K (fx_R G SH) (fx_A G)) 0 0 (fx_A G) := by
  refine fx_met (own := RX11) (by decide +kernel) rfl (Nat.le_of_ble_eq_true rfl) (fun p e s m below meth c X hr hk h ls hl => ?_)
  obtain ⟨⟨hx, hb, hml, hown, hts⟩, hK, hQ⟩ := id X
  have hl : lv_has ls 4 [(0, .ref (G.2.2.2 + 0)), (1, .int x1), (2, .int x2), (3, .int x3)] := hl
  unfold T_X11_bidder at hT
  refine lv_iload_n hx hb dX11_bidder_0 rfl (lv_at hl 1 rfl) ?_
  refine lv_iconst (v := 0) hx hb dX11_bidder_1 (by decide) ?_
  refine lv_sipush (v := 9999) hx hb dX11_bidder_2 (by decide) ?_
  refine fx_si X h ym_X11_isWithin yt_X11_isWithin (fx_s3 (List.mem_of_getElem? (i := 64) rfl) rfl) (c_X11_isWithin l G hT) (As := [.int x1, .int (0 : Int32), .int (9999 : Int32)]) (rest := []) rfl rfl ⟨Nat.le_of_ble_eq_true rfl, Nat.le_of_ble_eq_true rfl⟩ ⟨Nat.le_refl _, Nat.le_refl _⟩ hl.1 (Nat.le_of_ble_eq_true rfl) dX11_bidder_5 (fun r6 M5 H locs hT h => ?_)
  refine lv_if_eq (tgt := 36) hx hb dX11_bidder_8 (by decide) (fun hc7 => ?_) (fun hc7 => ?_)
  · have hT := hT.1 hc7
    refine lv_iconst (v := -1) hx hb dX11_bidder_36 (by decide) ?_
    exact fx_iret X hr hk h hT dX11_bidder_37
  · have hT := hT.2 hc7
    refine lv_iload_n hx hb dX11_bidder_11 rfl (lv_at hl 2 rfl) ?_
    refine lv_iconst (v := 0) hx hb dX11_bidder_12 (by decide) ?_
    refine lv_bipush (v := 9) hx hb dX11_bidder_13 (by decide) ?_
    refine fx_si X h ym_X11_isWithin yt_X11_isWithin (fx_s3 (List.mem_of_getElem? (i := 64) rfl) rfl) (c_X11_isWithin l G hT) (As := [.int x2, .int (0 : Int32), .int (9 : Int32)]) (rest := []) rfl rfl ⟨Nat.le_of_ble_eq_true rfl, Nat.le_of_ble_eq_true rfl⟩ ⟨Nat.le_refl _, Nat.le_refl _⟩ hl.1 (Nat.le_of_ble_eq_true rfl) dX11_bidder_15 (fun r10 M9 H locs hT h => ?_)
    refine lv_if_eq (tgt := 36) hx hb dX11_bidder_18 (by decide) (fun hc11 => ?_) (fun hc11 => ?_)
    · have hT := hT.1 hc11
      refine lv_iconst (v := -1) hx hb dX11_bidder_36 (by decide) ?_
      exact fx_iret X hr hk h hT dX11_bidder_37
    · have hT := hT.2 hc11
      refine lv_aload_n hx hb dX11_bidder_21 rfl (lv_at hl 0 rfl) ?_
      refine fx_getR X h (k := 0) (j := 0) (r := 1) sh_0 rfl fl_RX11_12 dX11_bidder_22 ?_
      refine fx_getR X h (k := 1) (j := 0) (r := 2) sh_1 rfl fl_RX11_92 dX11_bidder_25 ?_
      refine fx_getI X h (k := 2) (j := 1) sh_2 rfl fl_RX11_105 dX11_bidder_28 ?_
      refine lv_bipush (v := 8) hx hb dX11_bidder_31 (by decide) ?_
      refine lv_icmp_lt (tgt := 38) hx hb dX11_bidder_33 (by decide) (fun hc12 => ?_) (fun hc12 => ?_)
      · have hT := hT.1 hc12
        refine lv_aload_n hx hb dX11_bidder_38 rfl (lv_at hl 0 rfl) ?_
        refine fx_getR X h (k := 0) (j := 2) (r := 79) sh_0 rfl fl_RX11_22 dX11_bidder_39 ?_
        refine fx_vv X h ym_X4_forget yi_X4_forget ys_X4_forget (fx_s3 (List.mem_of_getElem? (i := 56) rfl) rfl) sh_79 rfl (c_X4_forget l G hT) (As := []) (rest := []) rfl rfl ⟨Nat.le_of_ble_eq_true rfl, Nat.le_of_ble_eq_true rfl⟩ ⟨Nat.le_refl _, Nat.le_refl _⟩ hl.1 (Nat.le_of_ble_eq_true rfl) dX11_bidder_42 (fun M14 H locs hT h => ?_)
        refine lv_aload_n hx hb dX11_bidder_45 rfl (lv_at hl 0 rfl) ?_
        refine fx_getR X h (k := 0) (j := 0) (r := 1) sh_0 rfl fl_RX11_12 dX11_bidder_46 ?_
        refine fx_getR X h (k := 1) (j := 1) (r := 8) sh_1 rfl fl_RX11_35 dX11_bidder_49 ?_
        refine fx_getR X h (k := 8) (j := 3) (r := 12) sh_8 rfl fl_RX11_108 dX11_bidder_52 ?_
        refine lv_aload_n hx hb dX11_bidder_55 rfl (lv_at hl 0 rfl) ?_
        refine fx_getR X h (k := 0) (j := 0) (r := 1) sh_0 rfl fl_RX11_12 dX11_bidder_56 ?_
        refine fx_getR X h (k := 1) (j := 0) (r := 2) sh_1 rfl fl_RX11_92 dX11_bidder_59 ?_
        refine fx_getI X h (k := 2) (j := 1) sh_2 rfl fl_RX11_105 dX11_bidder_62 ?_
        refine lv_iload_n hx hb dX11_bidder_65 rfl (lv_at hl 1 rfl) ?_
        obtain ⟨hi16, hT⟩ := hT
        refine fx_iast X h (k := 12) sh_12 hi16 dX11_bidder_66 (fun H locs h => ?_)
        obtain ⟨M15, eM15⟩ : ∃ z : Mm, z = m_up M14 12 ((M14 2 1)).toNatClampNeg x1 := ⟨_, rfl⟩
        have hT := hT M15 eM15
        rw [← eM15] at h
        refine lv_aload_n hx hb dX11_bidder_67 rfl (lv_at hl 0 rfl) ?_
        refine fx_getR X h (k := 0) (j := 0) (r := 1) sh_0 rfl fl_RX11_12 dX11_bidder_68 ?_
        refine fx_getR X h (k := 1) (j := 0) (r := 2) sh_1 rfl fl_RX11_92 dX11_bidder_71 ?_
        refine lv_iload_n hx hb dX11_bidder_74 rfl (lv_at hl 2 rfl) ?_
        refine lv_iload_n hx hb dX11_bidder_75 rfl (lv_at hl 3 rfl) ?_
        refine lv_if_eq (tgt := 83) hx hb dX11_bidder_76 (by decide) (fun hc17 => ?_) (fun hc17 => ?_)
        · have hT := hT.1 hc17
          refine lv_iconst (v := 0) hx hb dX11_bidder_83 (by decide) ?_
          exact w_X11_bidder_84 X hr hk x2 (0 : Int32) M15 _ _ ls hT h (lv_sub hl [] rfl)
        · have hT := hT.2 hc17
          refine lv_iconst (v := 1) hx hb dX11_bidder_79 (by decide) ?_
          refine lv_goto (tgt := 84) hx hb dX11_bidder_80 (by decide) ?_
          exact w_X11_bidder_84 X hr hk x2 (1 : Int32) M15 _ _ ls hT h (lv_sub hl [] rfl)
      · have hT := hT.2 hc12
        refine lv_iconst (v := -1) hx hb dX11_bidder_36 (by decide) ?_
        exact fx_iret X hr hk h hT dX11_bidder_37
/-! MockParcels.canChange(III)Z -/
theorem dX11_canChange_0 : decode cX11_canChange 0 = .ok (.iload_n 1, 1) := by decide +kernel
theorem dX11_canChange_1 : decode cX11_canChange 1 = .ok (.tableswitch 176 0 5 #[39, 47, 55, 86, 116, 146], 39) := by decide +kernel
theorem dX11_canChange_40 : decode cX11_canChange 40 = .ok (.iload_n 3, 1) := by decide +kernel
theorem dX11_canChange_41 : decode cX11_canChange 41 = .ok (.iconst 0, 1) := by decide +kernel
theorem dX11_canChange_42 : decode cX11_canChange 42 = .ok (.bipush 99, 2) := by decide +kernel
theorem dX11_canChange_44 : decode cX11_canChange 44 = .ok (.invokestatic 88, 3) := by decide +kernel
theorem dX11_canChange_47 : decode cX11_canChange 47 = .ok (.ireturn, 1) := by decide +kernel
theorem dX11_canChange_48 : decode cX11_canChange 48 = .ok (.iload_n 3, 1) := by decide +kernel
theorem dX11_canChange_49 : decode cX11_canChange 49 = .ok (.iconst 0, 1) := by decide +kernel
theorem dX11_canChange_50 : decode cX11_canChange 50 = .ok (.bipush 9, 2) := by decide +kernel
theorem dX11_canChange_52 : decode cX11_canChange 52 = .ok (.invokestatic 88, 3) := by decide +kernel
theorem dX11_canChange_55 : decode cX11_canChange 55 = .ok (.ireturn, 1) := by decide +kernel
theorem dX11_canChange_56 : decode cX11_canChange 56 = .ok (.aload_n 0, 1) := by decide +kernel
theorem dX11_canChange_57 : decode cX11_canChange 57 = .ok (.getfield 12, 3) := by decide +kernel
theorem dX11_canChange_60 : decode cX11_canChange 60 = .ok (.getfield 92, 3) := by decide +kernel
theorem dX11_canChange_63 : decode cX11_canChange 63 = .ok (.iload_n 2, 1) := by decide +kernel
theorem dX11_canChange_64 : decode cX11_canChange 64 = .ok (.invokevirtual 134, 3) := by decide +kernel
theorem dX11_canChange_67 : decode cX11_canChange 67 = .ok (.ifCond .eq 18, 3) := by decide +kernel
theorem dX11_canChange_70 : decode cX11_canChange 70 = .ok (.iload_n 3, 1) := by decide +kernel
theorem dX11_canChange_71 : decode cX11_canChange 71 = .ok (.iconst 0, 1) := by decide +kernel
theorem dX11_canChange_72 : decode cX11_canChange 72 = .ok (.sipush 9999, 3) := by decide +kernel
theorem dX11_canChange_75 : decode cX11_canChange 75 = .ok (.invokestatic 88, 3) := by decide +kernel
theorem dX11_canChange_78 : decode cX11_canChange 78 = .ok (.ifCond .eq 7, 3) := by decide +kernel
theorem dX11_canChange_81 : decode cX11_canChange 81 = .ok (.iconst 1, 1) := by decide +kernel
theorem dX11_canChange_82 : decode cX11_canChange 82 = .ok (.goto 4, 3) := by decide +kernel
theorem dX11_canChange_85 : decode cX11_canChange 85 = .ok (.iconst 0, 1) := by decide +kernel
theorem dX11_canChange_86 : decode cX11_canChange 86 = .ok (.ireturn, 1) := by decide +kernel
theorem dX11_canChange_87 : decode cX11_canChange 87 = .ok (.aload_n 0, 1) := by decide +kernel
theorem dX11_canChange_88 : decode cX11_canChange 88 = .ok (.getfield 12, 3) := by decide +kernel
theorem dX11_canChange_91 : decode cX11_canChange 91 = .ok (.getfield 92, 3) := by decide +kernel
theorem dX11_canChange_94 : decode cX11_canChange 94 = .ok (.iload_n 2, 1) := by decide +kernel
theorem dX11_canChange_95 : decode cX11_canChange 95 = .ok (.invokevirtual 134, 3) := by decide +kernel
theorem dX11_canChange_98 : decode cX11_canChange 98 = .ok (.ifCond .eq 17, 3) := by decide +kernel
theorem dX11_canChange_101 : decode cX11_canChange 101 = .ok (.iload_n 3, 1) := by decide +kernel
theorem dX11_canChange_102 : decode cX11_canChange 102 = .ok (.iconst 0, 1) := by decide +kernel
theorem dX11_canChange_103 : decode cX11_canChange 103 = .ok (.bipush 9, 2) := by decide +kernel
theorem dX11_canChange_105 : decode cX11_canChange 105 = .ok (.invokestatic 88, 3) := by decide +kernel
theorem dX11_canChange_108 : decode cX11_canChange 108 = .ok (.ifCond .eq 7, 3) := by decide +kernel
theorem dX11_canChange_111 : decode cX11_canChange 111 = .ok (.iconst 1, 1) := by decide +kernel
theorem dX11_canChange_112 : decode cX11_canChange 112 = .ok (.goto 4, 3) := by decide +kernel
theorem dX11_canChange_115 : decode cX11_canChange 115 = .ok (.iconst 0, 1) := by decide +kernel
theorem dX11_canChange_116 : decode cX11_canChange 116 = .ok (.ireturn, 1) := by decide +kernel
theorem dX11_canChange_117 : decode cX11_canChange 117 = .ok (.aload_n 0, 1) := by decide +kernel
theorem dX11_canChange_118 : decode cX11_canChange 118 = .ok (.getfield 12, 3) := by decide +kernel
theorem dX11_canChange_121 : decode cX11_canChange 121 = .ok (.getfield 92, 3) := by decide +kernel
theorem dX11_canChange_124 : decode cX11_canChange 124 = .ok (.iload_n 2, 1) := by decide +kernel
theorem dX11_canChange_125 : decode cX11_canChange 125 = .ok (.invokevirtual 138, 3) := by decide +kernel
theorem dX11_canChange_128 : decode cX11_canChange 128 = .ok (.ifCond .eq 17, 3) := by decide +kernel
theorem dX11_canChange_131 : decode cX11_canChange 131 = .ok (.iload_n 3, 1) := by decide +kernel
theorem dX11_canChange_132 : decode cX11_canChange 132 = .ok (.iconst 0, 1) := by decide +kernel
theorem dX11_canChange_133 : decode cX11_canChange 133 = .ok (.bipush 9, 2) := by decide +kernel
theorem dX11_canChange_135 : decode cX11_canChange 135 = .ok (.invokestatic 88, 3) := by decide +kernel
theorem dX11_canChange_138 : decode cX11_canChange 138 = .ok (.ifCond .eq 7, 3) := by decide +kernel
theorem dX11_canChange_141 : decode cX11_canChange 141 = .ok (.iconst 1, 1) := by decide +kernel
theorem dX11_canChange_142 : decode cX11_canChange 142 = .ok (.goto 4, 3) := by decide +kernel
theorem dX11_canChange_145 : decode cX11_canChange 145 = .ok (.iconst 0, 1) := by decide +kernel
theorem dX11_canChange_146 : decode cX11_canChange 146 = .ok (.ireturn, 1) := by decide +kernel
theorem dX11_canChange_147 : decode cX11_canChange 147 = .ok (.aload_n 0, 1) := by decide +kernel
theorem dX11_canChange_148 : decode cX11_canChange 148 = .ok (.getfield 12, 3) := by decide +kernel
theorem dX11_canChange_151 : decode cX11_canChange 151 = .ok (.getfield 92, 3) := by decide +kernel
theorem dX11_canChange_154 : decode cX11_canChange 154 = .ok (.iload_n 2, 1) := by decide +kernel
theorem dX11_canChange_155 : decode cX11_canChange 155 = .ok (.invokevirtual 138, 3) := by decide +kernel
theorem dX11_canChange_158 : decode cX11_canChange 158 = .ok (.ifCond .eq 17, 3) := by decide +kernel
theorem dX11_canChange_161 : decode cX11_canChange 161 = .ok (.iload_n 3, 1) := by decide +kernel
theorem dX11_canChange_162 : decode cX11_canChange 162 = .ok (.iconst 0, 1) := by decide +kernel
theorem dX11_canChange_163 : decode cX11_canChange 163 = .ok (.bipush 99, 2) := by decide +kernel
theorem dX11_canChange_165 : decode cX11_canChange 165 = .ok (.invokestatic 88, 3) := by decide +kernel
theorem dX11_canChange_168 : decode cX11_canChange 168 = .ok (.ifCond .eq 7, 3) := by decide +kernel
theorem dX11_canChange_171 : decode cX11_canChange 171 = .ok (.iconst 1, 1) := by decide +kernel
theorem dX11_canChange_172 : decode cX11_canChange 172 = .ok (.goto 4, 3) := by decide +kernel
theorem dX11_canChange_175 : decode cX11_canChange 175 = .ok (.iconst 0, 1) := by decide +kernel
theorem dX11_canChange_176 : decode cX11_canChange 176 = .ok (.ireturn, 1) := by decide +kernel
theorem dX11_canChange_177 : decode cX11_canChange 177 = .ok (.iconst 0, 1) := by decide +kernel
theorem dX11_canChange_178 : decode cX11_canChange 178 = .ok (.ireturn, 1) := by decide +kernel
def T_X11_canChange (x1 : Int32) (x2 : Int32) (x3 : Int32) (M : Mm) (K : Int32 → Mm → Prop) : Prop := ((x1 = (0 : Int32) → (T_X11_isWithin x3 (0 : Int32) (99 : Int32) M (fun r4 M3 => ((r4 = 0 ∨ r4 = 1) ∧ K r4 M3)))) ∧ (¬ x1 = (0 : Int32) → ((x1 = (1 : Int32) → (T_X11_isWithin x3 (0 : Int32) (9 : Int32) M (fun r8 M7 => ((r8 = 0 ∨ r8 = 1) ∧ K r8 M7)))) ∧ (¬ x1 = (1 : Int32) → ((x1 = (2 : Int32) → (T_X1_hasBidder 2 x2 M (fun r12 M11 => ((r12 = 0 → (K (0 : Int32) M11)) ∧ (¬ r12 = 0 → (T_X11_isWithin x3 (0 : Int32) (9999 : Int32) M11 (fun r16 M15 => ((r16 = 0 → (K (0 : Int32) M15)) ∧ (¬ r16 = 0 → (K (1 : Int32) M15)))))))))) ∧ (¬ x1 = (2 : Int32) → ((x1 = (3 : Int32) → (T_X1_hasBidder 2 x2 M (fun r21 M20 => ((r21 = 0 → (K (0 : Int32) M20)) ∧ (¬ r21 = 0 → (T_X11_isWithin x3 (0 : Int32) (9 : Int32) M20 (fun r25 M24 => ((r25 = 0 → (K (0 : Int32) M24)) ∧ (¬ r25 = 0 → (K (1 : Int32) M24)))))))))) ∧ (¬ x1 = (3 : Int32) → ((x1 = (4 : Int32) → (T_X1_hasParcel 2 x2 M (fun r30 M29 => ((r30 = 0 → (K (0 : Int32) M29)) ∧ (¬ r30 = 0 → (T_X11_isWithin x3 (0 : Int32) (9 : Int32) M29 (fun r34 M33 => ((r34 = 0 → (K (0 : Int32) M33)) ∧ (¬ r34 = 0 → (K (1 : Int32) M33)))))))))) ∧ (¬ x1 = (4 : Int32) → ((x1 = (5 : Int32) → (T_X1_hasParcel 2 x2 M (fun r39 M38 => ((r39 = 0 → (K (0 : Int32) M38)) ∧ (¬ r39 = 0 → (T_X11_isWithin x3 (0 : Int32) (99 : Int32) M38 (fun r43 M42 => ((r43 = 0 → (K (0 : Int32) M42)) ∧ (¬ r43 = 0 → (K (1 : Int32) M42)))))))))) ∧ (¬ x1 = (5 : Int32) → (K (0 : Int32) M)))))))))))))
set_option maxHeartbeats 4000000 in
set_option maxRecDepth 100000 in
theorem c_X11_canChange (l : Launch) (G : fx_G) {x1 : Int32} {x2 : Int32} {x3 : Int32} {M : Mm} {K : Int32 → Mm → Prop} (hT : T_X11_canChange x1 x2 x3 M K) : Met l yX11_canChange (fx_ws yX11_canChange cX11_canChange 4 (some .boolean)) (fx_rm (1)) (va_Pc [.ref (G.2.2.2 + 0), .int x1, .int x2, .int x3] (fx_P G SH M)) (va_Qi K (fx_R G SH) (fx_A G)) 0 0 (fx_A G) := by
  refine fx_met (own := RX11) (by decide +kernel) rfl (Nat.le_of_ble_eq_true rfl) (fun p e s m below meth c X hr hk h ls hl => ?_)
  obtain ⟨⟨hx, hb, hml, hown, hts⟩, hK, hQ⟩ := id X
  have hl : lv_has ls 4 [(0, .ref (G.2.2.2 + 0)), (1, .int x1), (2, .int x2), (3, .int x3)] := hl
  unfold T_X11_canChange at hT
  refine lv_iload_n hx hb dX11_canChange_0 rfl (lv_at hl 1 rfl) ?_
  by_cases hc1 : x1 = (0 : Int32)
  · have hT := hT.1 hc1
    refine lv_tableIn (off := 39) (tgt := 40) hx hb dX11_canChange_1 (by rw [hc1]; decide) (by rw [hc1]; decide) (by rw [hc1]; rfl) (by decide) ?_
    refine lv_iload_n hx hb dX11_canChange_40 rfl (lv_at hl 3 rfl) ?_
    refine lv_iconst (v := 0) hx hb dX11_canChange_41 (by decide) ?_
    refine lv_bipush (v := 99) hx hb dX11_canChange_42 (by decide) ?_
    refine fx_si X h ym_X11_isWithin yt_X11_isWithin (fx_s3 (List.mem_of_getElem? (i := 64) rfl) rfl) (c_X11_isWithin l G hT) (As := [.int x3, .int (0 : Int32), .int (99 : Int32)]) (rest := []) rfl rfl ⟨Nat.le_of_ble_eq_true rfl, Nat.le_of_ble_eq_true rfl⟩ ⟨Nat.le_refl _, Nat.le_refl _⟩ hl.1 (Nat.le_of_ble_eq_true rfl) dX11_canChange_44 (fun r4 M3 H locs hT h => ?_)
    exact fx_zret X hr hk h hT.1 hT.2 dX11_canChange_47
  have hT := hT.2 hc1
  by_cases hc5 : x1 = (1 : Int32)
  · have hT := hT.1 hc5
    refine lv_tableIn (off := 47) (tgt := 48) hx hb dX11_canChange_1 (by rw [hc5]; decide) (by rw [hc5]; decide) (by rw [hc5]; rfl) (by decide) ?_
    refine lv_iload_n hx hb dX11_canChange_48 rfl (lv_at hl 3 rfl) ?_
    refine lv_iconst (v := 0) hx hb dX11_canChange_49 (by decide) ?_
    refine lv_bipush (v := 9) hx hb dX11_canChange_50 (by decide) ?_
    refine fx_si X h ym_X11_isWithin yt_X11_isWithin (fx_s3 (List.mem_of_getElem? (i := 64) rfl) rfl) (c_X11_isWithin l G hT) (As := [.int x3, .int (0 : Int32), .int (9 : Int32)]) (rest := []) rfl rfl ⟨Nat.le_of_ble_eq_true rfl, Nat.le_of_ble_eq_true rfl⟩ ⟨Nat.le_refl _, Nat.le_refl _⟩ hl.1 (Nat.le_of_ble_eq_true rfl) dX11_canChange_52 (fun r8 M7 H locs hT h => ?_)
    exact fx_zret X hr hk h hT.1 hT.2 dX11_canChange_55
  have hT := hT.2 hc5
  by_cases hc9 : x1 = (2 : Int32)
  · have hT := hT.1 hc9
    refine lv_tableIn (off := 55) (tgt := 56) hx hb dX11_canChange_1 (by rw [hc9]; decide) (by rw [hc9]; decide) (by rw [hc9]; rfl) (by decide) ?_
    refine lv_aload_n hx hb dX11_canChange_56 rfl (lv_at hl 0 rfl) ?_
    refine fx_getR X h (k := 0) (j := 0) (r := 1) sh_0 rfl fl_RX11_12 dX11_canChange_57 ?_
    refine fx_getR X h (k := 1) (j := 0) (r := 2) sh_1 rfl fl_RX11_92 dX11_canChange_60 ?_
    refine lv_iload_n hx hb dX11_canChange_63 rfl (lv_at hl 2 rfl) ?_
    refine fx_vi X h ym_X1_hasBidder yi_X1_hasBidder ys_X1_hasBidder (fx_s3 (List.mem_of_getElem? (i := 87) rfl) rfl) sh_2 rfl (c_X1_hasBidder l G (by decide) hT) (As := [.int x2]) (rest := []) rfl rfl ⟨Nat.le_of_ble_eq_true rfl, Nat.le_of_ble_eq_true rfl⟩ ⟨Nat.le_refl _, Nat.le_refl _⟩ hl.1 (Nat.le_of_ble_eq_true rfl) dX11_canChange_64 (fun r12 M11 H locs hT h => ?_)
    refine lv_if_eq (tgt := 85) hx hb dX11_canChange_67 (by decide) (fun hc13 => ?_) (fun hc13 => ?_)
    · have hT := hT.1 hc13
      refine lv_iconst (v := 0) hx hb dX11_canChange_85 (by decide) ?_
      exact fx_zret X hr hk h (Or.inl rfl) hT dX11_canChange_86
    · have hT := hT.2 hc13
      refine lv_iload_n hx hb dX11_canChange_70 rfl (lv_at hl 3 rfl) ?_
      refine lv_iconst (v := 0) hx hb dX11_canChange_71 (by decide) ?_
      refine lv_sipush (v := 9999) hx hb dX11_canChange_72 (by decide) ?_
      refine fx_si X h ym_X11_isWithin yt_X11_isWithin (fx_s3 (List.mem_of_getElem? (i := 64) rfl) rfl) (c_X11_isWithin l G hT) (As := [.int x3, .int (0 : Int32), .int (9999 : Int32)]) (rest := []) rfl rfl ⟨Nat.le_of_ble_eq_true rfl, Nat.le_of_ble_eq_true rfl⟩ ⟨Nat.le_refl _, Nat.le_refl _⟩ hl.1 (Nat.le_of_ble_eq_true rfl) dX11_canChange_75 (fun r16 M15 H locs hT h => ?_)
      refine lv_if_eq (tgt := 85) hx hb dX11_canChange_78 (by decide) (fun hc17 => ?_) (fun hc17 => ?_)
      · have hT := hT.1 hc17
        refine lv_iconst (v := 0) hx hb dX11_canChange_85 (by decide) ?_
        exact fx_zret X hr hk h (Or.inl rfl) hT dX11_canChange_86
      · have hT := hT.2 hc17
        refine lv_iconst (v := 1) hx hb dX11_canChange_81 (by decide) ?_
        refine lv_goto (tgt := 86) hx hb dX11_canChange_82 (by decide) ?_
        exact fx_zret X hr hk h (Or.inr rfl) hT dX11_canChange_86
  have hT := hT.2 hc9
  by_cases hc18 : x1 = (3 : Int32)
  · have hT := hT.1 hc18
    refine lv_tableIn (off := 86) (tgt := 87) hx hb dX11_canChange_1 (by rw [hc18]; decide) (by rw [hc18]; decide) (by rw [hc18]; rfl) (by decide) ?_
    refine lv_aload_n hx hb dX11_canChange_87 rfl (lv_at hl 0 rfl) ?_
    refine fx_getR X h (k := 0) (j := 0) (r := 1) sh_0 rfl fl_RX11_12 dX11_canChange_88 ?_
    refine fx_getR X h (k := 1) (j := 0) (r := 2) sh_1 rfl fl_RX11_92 dX11_canChange_91 ?_
    refine lv_iload_n hx hb dX11_canChange_94 rfl (lv_at hl 2 rfl) ?_
    refine fx_vi X h ym_X1_hasBidder yi_X1_hasBidder ys_X1_hasBidder (fx_s3 (List.mem_of_getElem? (i := 87) rfl) rfl) sh_2 rfl (c_X1_hasBidder l G (by decide) hT) (As := [.int x2]) (rest := []) rfl rfl ⟨Nat.le_of_ble_eq_true rfl, Nat.le_of_ble_eq_true rfl⟩ ⟨Nat.le_refl _, Nat.le_refl _⟩ hl.1 (Nat.le_of_ble_eq_true rfl) dX11_canChange_95 (fun r21 M20 H locs hT h => ?_)
    refine lv_if_eq (tgt := 115) hx hb dX11_canChange_98 (by decide) (fun hc22 => ?_) (fun hc22 => ?_)
    · have hT := hT.1 hc22
      refine lv_iconst (v := 0) hx hb dX11_canChange_115 (by decide) ?_
      exact fx_zret X hr hk h (Or.inl rfl) hT dX11_canChange_116
    · have hT := hT.2 hc22
      refine lv_iload_n hx hb dX11_canChange_101 rfl (lv_at hl 3 rfl) ?_
      refine lv_iconst (v := 0) hx hb dX11_canChange_102 (by decide) ?_
      refine lv_bipush (v := 9) hx hb dX11_canChange_103 (by decide) ?_
      refine fx_si X h ym_X11_isWithin yt_X11_isWithin (fx_s3 (List.mem_of_getElem? (i := 64) rfl) rfl) (c_X11_isWithin l G hT) (As := [.int x3, .int (0 : Int32), .int (9 : Int32)]) (rest := []) rfl rfl ⟨Nat.le_of_ble_eq_true rfl, Nat.le_of_ble_eq_true rfl⟩ ⟨Nat.le_refl _, Nat.le_refl _⟩ hl.1 (Nat.le_of_ble_eq_true rfl) dX11_canChange_105 (fun r25 M24 H locs hT h => ?_)
      refine lv_if_eq (tgt := 115) hx hb dX11_canChange_108 (by decide) (fun hc26 => ?_) (fun hc26 => ?_)
      · have hT := hT.1 hc26
        refine lv_iconst (v := 0) hx hb dX11_canChange_115 (by decide) ?_
        exact fx_zret X hr hk h (Or.inl rfl) hT dX11_canChange_116
      · have hT := hT.2 hc26
        refine lv_iconst (v := 1) hx hb dX11_canChange_111 (by decide) ?_
        refine lv_goto (tgt := 116) hx hb dX11_canChange_112 (by decide) ?_
        exact fx_zret X hr hk h (Or.inr rfl) hT dX11_canChange_116
  have hT := hT.2 hc18
  by_cases hc27 : x1 = (4 : Int32)
  · have hT := hT.1 hc27
    refine lv_tableIn (off := 116) (tgt := 117) hx hb dX11_canChange_1 (by rw [hc27]; decide) (by rw [hc27]; decide) (by rw [hc27]; rfl) (by decide) ?_
    refine lv_aload_n hx hb dX11_canChange_117 rfl (lv_at hl 0 rfl) ?_
    refine fx_getR X h (k := 0) (j := 0) (r := 1) sh_0 rfl fl_RX11_12 dX11_canChange_118 ?_
    refine fx_getR X h (k := 1) (j := 0) (r := 2) sh_1 rfl fl_RX11_92 dX11_canChange_121 ?_
    refine lv_iload_n hx hb dX11_canChange_124 rfl (lv_at hl 2 rfl) ?_
    refine fx_vi X h ym_X1_hasParcel yi_X1_hasParcel ys_X1_hasParcel (fx_s3 (List.mem_of_getElem? (i := 91) rfl) rfl) sh_2 rfl (c_X1_hasParcel l G (by decide) hT) (As := [.int x2]) (rest := []) rfl rfl ⟨Nat.le_of_ble_eq_true rfl, Nat.le_of_ble_eq_true rfl⟩ ⟨Nat.le_refl _, Nat.le_refl _⟩ hl.1 (Nat.le_of_ble_eq_true rfl) dX11_canChange_125 (fun r30 M29 H locs hT h => ?_)
    refine lv_if_eq (tgt := 145) hx hb dX11_canChange_128 (by decide) (fun hc31 => ?_) (fun hc31 => ?_)
    · have hT := hT.1 hc31
      refine lv_iconst (v := 0) hx hb dX11_canChange_145 (by decide) ?_
      exact fx_zret X hr hk h (Or.inl rfl) hT dX11_canChange_146
    · have hT := hT.2 hc31
      refine lv_iload_n hx hb dX11_canChange_131 rfl (lv_at hl 3 rfl) ?_
      refine lv_iconst (v := 0) hx hb dX11_canChange_132 (by decide) ?_
      refine lv_bipush (v := 9) hx hb dX11_canChange_133 (by decide) ?_
      refine fx_si X h ym_X11_isWithin yt_X11_isWithin (fx_s3 (List.mem_of_getElem? (i := 64) rfl) rfl) (c_X11_isWithin l G hT) (As := [.int x3, .int (0 : Int32), .int (9 : Int32)]) (rest := []) rfl rfl ⟨Nat.le_of_ble_eq_true rfl, Nat.le_of_ble_eq_true rfl⟩ ⟨Nat.le_refl _, Nat.le_refl _⟩ hl.1 (Nat.le_of_ble_eq_true rfl) dX11_canChange_135 (fun r34 M33 H locs hT h => ?_)
      refine lv_if_eq (tgt := 145) hx hb dX11_canChange_138 (by decide) (fun hc35 => ?_) (fun hc35 => ?_)
      · have hT := hT.1 hc35
        refine lv_iconst (v := 0) hx hb dX11_canChange_145 (by decide) ?_
        exact fx_zret X hr hk h (Or.inl rfl) hT dX11_canChange_146
      · have hT := hT.2 hc35
        refine lv_iconst (v := 1) hx hb dX11_canChange_141 (by decide) ?_
        refine lv_goto (tgt := 146) hx hb dX11_canChange_142 (by decide) ?_
        exact fx_zret X hr hk h (Or.inr rfl) hT dX11_canChange_146
  have hT := hT.2 hc27
  by_cases hc36 : x1 = (5 : Int32)
  · have hT := hT.1 hc36
    refine lv_tableIn (off := 146) (tgt := 147) hx hb dX11_canChange_1 (by rw [hc36]; decide) (by rw [hc36]; decide) (by rw [hc36]; rfl) (by decide) ?_
    refine lv_aload_n hx hb dX11_canChange_147 rfl (lv_at hl 0 rfl) ?_
    refine fx_getR X h (k := 0) (j := 0) (r := 1) sh_0 rfl fl_RX11_12 dX11_canChange_148 ?_
    refine fx_getR X h (k := 1) (j := 0) (r := 2) sh_1 rfl fl_RX11_92 dX11_canChange_151 ?_
    refine lv_iload_n hx hb dX11_canChange_154 rfl (lv_at hl 2 rfl) ?_
    refine fx_vi X h ym_X1_hasParcel yi_X1_hasParcel ys_X1_hasParcel (fx_s3 (List.mem_of_getElem? (i := 91) rfl) rfl) sh_2 rfl (c_X1_hasParcel l G (by decide) hT) (As := [.int x2]) (rest := []) rfl rfl ⟨Nat.le_of_ble_eq_true rfl, Nat.le_of_ble_eq_true rfl⟩ ⟨Nat.le_refl _, Nat.le_refl _⟩ hl.1 (Nat.le_of_ble_eq_true rfl) dX11_canChange_155 (fun r39 M38 H locs hT h => ?_)
    refine lv_if_eq (tgt := 175) hx hb dX11_canChange_158 (by decide) (fun hc40 => ?_) (fun hc40 => ?_)
    · have hT := hT.1 hc40
      refine lv_iconst (v := 0) hx hb dX11_canChange_175 (by decide) ?_
      exact fx_zret X hr hk h (Or.inl rfl) hT dX11_canChange_176
    · have hT := hT.2 hc40
      refine lv_iload_n hx hb dX11_canChange_161 rfl (lv_at hl 3 rfl) ?_
      refine lv_iconst (v := 0) hx hb dX11_canChange_162 (by decide) ?_
      refine lv_bipush (v := 99) hx hb dX11_canChange_163 (by decide) ?_
      refine fx_si X h ym_X11_isWithin yt_X11_isWithin (fx_s3 (List.mem_of_getElem? (i := 64) rfl) rfl) (c_X11_isWithin l G hT) (As := [.int x3, .int (0 : Int32), .int (99 : Int32)]) (rest := []) rfl rfl ⟨Nat.le_of_ble_eq_true rfl, Nat.le_of_ble_eq_true rfl⟩ ⟨Nat.le_refl _, Nat.le_refl _⟩ hl.1 (Nat.le_of_ble_eq_true rfl) dX11_canChange_165 (fun r43 M42 H locs hT h => ?_)
      refine lv_if_eq (tgt := 175) hx hb dX11_canChange_168 (by decide) (fun hc44 => ?_) (fun hc44 => ?_)
      · have hT := hT.1 hc44
        refine lv_iconst (v := 0) hx hb dX11_canChange_175 (by decide) ?_
        exact fx_zret X hr hk h (Or.inl rfl) hT dX11_canChange_176
      · have hT := hT.2 hc44
        refine lv_iconst (v := 1) hx hb dX11_canChange_171 (by decide) ?_
        refine lv_goto (tgt := 176) hx hb dX11_canChange_172 (by decide) ?_
        exact fx_zret X hr hk h (Or.inr rfl) hT dX11_canChange_176
  have hT := hT.2 hc36
  have khc1 : ¬ (x1).toInt = 0 := fun q => hc1 (Int32.toInt_inj.mp (q.trans (by decide)))
  have khc5 : ¬ (x1).toInt = 1 := fun q => hc5 (Int32.toInt_inj.mp (q.trans (by decide)))
  have khc9 : ¬ (x1).toInt = 2 := fun q => hc9 (Int32.toInt_inj.mp (q.trans (by decide)))
  have khc18 : ¬ (x1).toInt = 3 := fun q => hc18 (Int32.toInt_inj.mp (q.trans (by decide)))
  have khc27 : ¬ (x1).toInt = 4 := fun q => hc27 (Int32.toInt_inj.mp (q.trans (by decide)))
  have khc36 : ¬ (x1).toInt = 5 := fun q => hc36 (Int32.toInt_inj.mp (q.trans (by decide)))
  refine lv_tableOut (tgt := 177) hx hb dX11_canChange_1 (by omega) (by decide) ?_
  refine lv_iconst (v := 0) hx hb dX11_canChange_177 (by decide) ?_
  exact fx_zret X hr hk h (Or.inl rfl) hT dX11_canChange_178
/-! MockParcels.set(III)Z -/
theorem dX11_set_0 : decode cX11_set 0 = .ok (.aload_n 0, 1) := by decide +kernel
theorem dX11_set_1 : decode cX11_set 1 = .ok (.iload_n 1, 1) := by decide +kernel
theorem dX11_set_2 : decode cX11_set 2 = .ok (.iload_n 2, 1) := by decide +kernel
theorem dX11_set_3 : decode cX11_set 3 = .ok (.iload_n 3, 1) := by decide +kernel
theorem dX11_set_4 : decode cX11_set 4 = .ok (.invokevirtual 116, 3) := by decide +kernel
theorem dX11_set_7 : decode cX11_set 7 = .ok (.ifCond .ne 5, 3) := by decide +kernel
theorem dX11_set_10 : decode cX11_set 10 = .ok (.iconst 0, 1) := by decide +kernel
theorem dX11_set_11 : decode cX11_set 11 = .ok (.ireturn, 1) := by decide +kernel
theorem dX11_set_12 : decode cX11_set 12 = .ok (.aload_n 0, 1) := by decide +kernel
theorem dX11_set_13 : decode cX11_set 13 = .ok (.getfield 22, 3) := by decide +kernel
theorem dX11_set_16 : decode cX11_set 16 = .ok (.invokevirtual 85, 3) := by decide +kernel
theorem dX11_set_19 : decode cX11_set 19 = .ok (.iload_n 1, 1) := by decide +kernel
theorem dX11_set_20 : decode cX11_set 20 = .ok (.tableswitch 112 0 4 #[36, 50, 64, 80, 96], 36) := by decide +kernel
theorem dX11_set_56 : decode cX11_set 56 = .ok (.aload_n 0, 1) := by decide +kernel
theorem dX11_set_57 : decode cX11_set 57 = .ok (.getfield 12, 3) := by decide +kernel
theorem dX11_set_60 : decode cX11_set 60 = .ok (.getfield 35, 3) := by decide +kernel
theorem dX11_set_63 : decode cX11_set 63 = .ok (.iload_n 3, 1) := by decide +kernel
theorem dX11_set_64 : decode cX11_set 64 = .ok (.putfield 119, 3) := by decide +kernel
theorem dX11_set_67 : decode cX11_set 67 = .ok (.goto 78, 3) := by decide +kernel
theorem dX11_set_70 : decode cX11_set 70 = .ok (.aload_n 0, 1) := by decide +kernel
theorem dX11_set_71 : decode cX11_set 71 = .ok (.getfield 12, 3) := by decide +kernel
theorem dX11_set_74 : decode cX11_set 74 = .ok (.getfield 35, 3) := by decide +kernel
theorem dX11_set_77 : decode cX11_set 77 = .ok (.iload_n 3, 1) := by decide +kernel
theorem dX11_set_78 : decode cX11_set 78 = .ok (.putfield 122, 3) := by decide +kernel
theorem dX11_set_81 : decode cX11_set 81 = .ok (.goto 64, 3) := by decide +kernel
theorem dX11_set_84 : decode cX11_set 84 = .ok (.aload_n 0, 1) := by decide +kernel
theorem dX11_set_85 : decode cX11_set 85 = .ok (.getfield 12, 3) := by decide +kernel
theorem dX11_set_88 : decode cX11_set 88 = .ok (.getfield 35, 3) := by decide +kernel
theorem dX11_set_91 : decode cX11_set 91 = .ok (.getfield 108, 3) := by decide +kernel
theorem dX11_set_94 : decode cX11_set 94 = .ok (.iload_n 2, 1) := by decide +kernel
theorem dX11_set_95 : decode cX11_set 95 = .ok (.iload_n 3, 1) := by decide +kernel
theorem dX11_set_96 : decode cX11_set 96 = .ok (.iastore, 1) := by decide +kernel
theorem dX11_set_97 : decode cX11_set 97 = .ok (.goto 48, 3) := by decide +kernel
theorem dX11_set_100 : decode cX11_set 100 = .ok (.aload_n 0, 1) := by decide +kernel
theorem dX11_set_101 : decode cX11_set 101 = .ok (.getfield 12, 3) := by decide +kernel
theorem dX11_set_104 : decode cX11_set 104 = .ok (.getfield 92, 3) := by decide +kernel
theorem dX11_set_107 : decode cX11_set 107 = .ok (.getfield 125, 3) := by decide +kernel
theorem dX11_set_110 : decode cX11_set 110 = .ok (.iload_n 2, 1) := by decide +kernel
theorem dX11_set_111 : decode cX11_set 111 = .ok (.iload_n 3, 1) := by decide +kernel
theorem dX11_set_112 : decode cX11_set 112 = .ok (.iastore, 1) := by decide +kernel
theorem dX11_set_113 : decode cX11_set 113 = .ok (.goto 32, 3) := by decide +kernel
theorem dX11_set_116 : decode cX11_set 116 = .ok (.aload_n 0, 1) := by decide +kernel
theorem dX11_set_117 : decode cX11_set 117 = .ok (.getfield 12, 3) := by decide +kernel
theorem dX11_set_120 : decode cX11_set 120 = .ok (.getfield 92, 3) := by decide +kernel
theorem dX11_set_123 : decode cX11_set 123 = .ok (.getfield 128, 3) := by decide +kernel
theorem dX11_set_126 : decode cX11_set 126 = .ok (.iload_n 2, 1) := by decide +kernel
theorem dX11_set_127 : decode cX11_set 127 = .ok (.iload_n 3, 1) := by decide +kernel
theorem dX11_set_128 : decode cX11_set 128 = .ok (.iastore, 1) := by decide +kernel
theorem dX11_set_129 : decode cX11_set 129 = .ok (.goto 16, 3) := by decide +kernel
theorem dX11_set_132 : decode cX11_set 132 = .ok (.aload_n 0, 1) := by decide +kernel
theorem dX11_set_133 : decode cX11_set 133 = .ok (.getfield 12, 3) := by decide +kernel
theorem dX11_set_136 : decode cX11_set 136 = .ok (.getfield 35, 3) := by decide +kernel
theorem dX11_set_139 : decode cX11_set 139 = .ok (.getfield 131, 3) := by decide +kernel
theorem dX11_set_142 : decode cX11_set 142 = .ok (.iload_n 2, 1) := by decide +kernel
theorem dX11_set_143 : decode cX11_set 143 = .ok (.iload_n 3, 1) := by decide +kernel
theorem dX11_set_144 : decode cX11_set 144 = .ok (.iastore, 1) := by decide +kernel
theorem dX11_set_145 : decode cX11_set 145 = .ok (.iconst 1, 1) := by decide +kernel
theorem dX11_set_146 : decode cX11_set 146 = .ok (.ireturn, 1) := by decide +kernel
def T_X11_set (x1 : Int32) (x2 : Int32) (x3 : Int32) (M : Mm) (K : Int32 → Mm → Prop) : Prop := (T_X11_canChange x1 x2 x3 M (fun r3 M2 => ((r3 = 0 → (K (0 : Int32) M2)) ∧ (¬ r3 = 0 → (T_X4_forget M2 (fun M6 => ((x1 = (0 : Int32) → (∀ M8 : Mm, M8 = m_up M6 8 8 x3 → (K (1 : Int32) M8))) ∧ (¬ x1 = (0 : Int32) → ((x1 = (1 : Int32) → (∀ M10 : Mm, M10 = m_up M6 8 9 x3 → (K (1 : Int32) M10))) ∧ (¬ x1 = (1 : Int32) → ((x1 = (2 : Int32) → (vp_in x2 8 ∧ (∀ M12 : Mm, M12 = m_up M6 12 (x2).toNatClampNeg x3 → (K (1 : Int32) M12)))) ∧ (¬ x1 = (2 : Int32) → ((x1 = (3 : Int32) → (vp_in x2 8 ∧ (∀ M15 : Mm, M15 = m_up M6 6 (x2).toNatClampNeg x3 → (K (1 : Int32) M15)))) ∧ (¬ x1 = (3 : Int32) → ((x1 = (4 : Int32) → (vp_in x2 16 ∧ (∀ M18 : Mm, M18 = m_up M6 5 (x2).toNatClampNeg x3 → (K (1 : Int32) M18)))) ∧ (¬ x1 = (4 : Int32) → (vp_in x2 16 ∧ (∀ M20 : Mm, M20 = m_up M6 11 (x2).toNatClampNeg x3 → (K (1 : Int32) M20)))))))))))))))))))
set_option maxHeartbeats 4000000 in
set_option maxRecDepth 100000 in
theorem c_X11_set (l : Launch) (G : fx_G) {x1 : Int32} {x2 : Int32} {x3 : Int32} {M : Mm} {K : Int32 → Mm → Prop} (hT : T_X11_set x1 x2 x3 M K) : Met l yX11_set (fx_ws yX11_set cX11_set 4 (some .boolean)) (fx_rm (2)) (va_Pc [.ref (G.2.2.2 + 0), .int x1, .int x2, .int x3] (fx_P G SH M)) (va_Qi K (fx_R G SH) (fx_A G)) 0 0 (fx_A G) := by
  refine fx_met (own := RX11) (by decide +kernel) rfl (Nat.le_of_ble_eq_true rfl) (fun p e s m below meth c X hr hk h ls hl => ?_)
  obtain ⟨⟨hx, hb, hml, hown, hts⟩, hK, hQ⟩ := id X
  have hl : lv_has ls 4 [(0, .ref (G.2.2.2 + 0)), (1, .int x1), (2, .int x2), (3, .int x3)] := hl
  unfold T_X11_set at hT
  refine lv_aload_n hx hb dX11_set_0 rfl (lv_at hl 0 rfl) ?_
  refine lv_iload_n hx hb dX11_set_1 rfl (lv_at hl 1 rfl) ?_
  refine lv_iload_n hx hb dX11_set_2 rfl (lv_at hl 2 rfl) ?_
  refine lv_iload_n hx hb dX11_set_3 rfl (lv_at hl 3 rfl) ?_
  refine fx_vi X h ym_X11_canChange yi_X11_canChange ys_X11_canChange (fx_s3 (List.mem_of_getElem? (i := 83) rfl) rfl) sh_0 rfl (c_X11_canChange l G hT) (As := [.int x1, .int x2, .int x3]) (rest := []) rfl rfl ⟨Nat.le_of_ble_eq_true rfl, Nat.le_of_ble_eq_true rfl⟩ ⟨Nat.le_refl _, Nat.le_refl _⟩ hl.1 (Nat.le_of_ble_eq_true rfl) dX11_set_4 (fun r3 M2 H locs hT h => ?_)
  refine lv_if_ne (tgt := 12) hx hb dX11_set_7 (by decide) (fun hc4 => ?_) (fun hc4 => ?_)
  · have hT := hT.2 hc4
    refine lv_aload_n hx hb dX11_set_12 rfl (lv_at hl 0 rfl) ?_
    refine fx_getR X h (k := 0) (j := 2) (r := 79) sh_0 rfl fl_RX11_22 dX11_set_13 ?_
    refine fx_vv X h ym_X4_forget yi_X4_forget ys_X4_forget (fx_s3 (List.mem_of_getElem? (i := 56) rfl) rfl) sh_79 rfl (c_X4_forget l G hT) (As := []) (rest := []) rfl rfl ⟨Nat.le_of_ble_eq_true rfl, Nat.le_of_ble_eq_true rfl⟩ ⟨Nat.le_refl _, Nat.le_refl _⟩ hl.1 (Nat.le_of_ble_eq_true rfl) dX11_set_16 (fun M6 H locs hT h => ?_)
    refine lv_iload_n hx hb dX11_set_19 rfl (lv_at hl 1 rfl) ?_
    by_cases hc7 : x1 = (0 : Int32)
    · have hT := hT.1 hc7
      refine lv_tableIn (off := 36) (tgt := 56) hx hb dX11_set_20 (by rw [hc7]; decide) (by rw [hc7]; decide) (by rw [hc7]; rfl) (by decide) ?_
      refine lv_aload_n hx hb dX11_set_56 rfl (lv_at hl 0 rfl) ?_
      refine fx_getR X h (k := 0) (j := 0) (r := 1) sh_0 rfl fl_RX11_12 dX11_set_57 ?_
      refine fx_getR X h (k := 1) (j := 1) (r := 8) sh_1 rfl fl_RX11_35 dX11_set_60 ?_
      refine lv_iload_n hx hb dX11_set_63 rfl (lv_at hl 3 rfl) ?_
      refine fx_putI X h (k := 8) (j := 8) sh_8 rfl fl_RX11_119 dX11_set_64 (fun H locs h => ?_)
      obtain ⟨M8, eM8⟩ : ∃ z : Mm, z = m_up M6 8 8 x3 := ⟨_, rfl⟩
      have hT := hT M8 eM8
      rw [← eM8] at h
      refine lv_goto (tgt := 145) hx hb dX11_set_67 (by decide) ?_
      refine lv_iconst (v := 1) hx hb dX11_set_145 (by decide) ?_
      exact fx_zret X hr hk h (Or.inr rfl) hT dX11_set_146
    have hT := hT.2 hc7
    by_cases hc9 : x1 = (1 : Int32)
    · have hT := hT.1 hc9
      refine lv_tableIn (off := 50) (tgt := 70) hx hb dX11_set_20 (by rw [hc9]; decide) (by rw [hc9]; decide) (by rw [hc9]; rfl) (by decide) ?_
      refine lv_aload_n hx hb dX11_set_70 rfl (lv_at hl 0 rfl) ?_
      refine fx_getR X h (k := 0) (j := 0) (r := 1) sh_0 rfl fl_RX11_12 dX11_set_71 ?_
      refine fx_getR X h (k := 1) (j := 1) (r := 8) sh_1 rfl fl_RX11_35 dX11_set_74 ?_
      refine lv_iload_n hx hb dX11_set_77 rfl (lv_at hl 3 rfl) ?_
      refine fx_putI X h (k := 8) (j := 9) sh_8 rfl fl_RX11_122 dX11_set_78 (fun H locs h => ?_)
      obtain ⟨M10, eM10⟩ : ∃ z : Mm, z = m_up M6 8 9 x3 := ⟨_, rfl⟩
      have hT := hT M10 eM10
      rw [← eM10] at h
      refine lv_goto (tgt := 145) hx hb dX11_set_81 (by decide) ?_
      refine lv_iconst (v := 1) hx hb dX11_set_145 (by decide) ?_
      exact fx_zret X hr hk h (Or.inr rfl) hT dX11_set_146
    have hT := hT.2 hc9
    by_cases hc11 : x1 = (2 : Int32)
    · have hT := hT.1 hc11
      refine lv_tableIn (off := 64) (tgt := 84) hx hb dX11_set_20 (by rw [hc11]; decide) (by rw [hc11]; decide) (by rw [hc11]; rfl) (by decide) ?_
      refine lv_aload_n hx hb dX11_set_84 rfl (lv_at hl 0 rfl) ?_
      refine fx_getR X h (k := 0) (j := 0) (r := 1) sh_0 rfl fl_RX11_12 dX11_set_85 ?_
      refine fx_getR X h (k := 1) (j := 1) (r := 8) sh_1 rfl fl_RX11_35 dX11_set_88 ?_
      refine fx_getR X h (k := 8) (j := 3) (r := 12) sh_8 rfl fl_RX11_108 dX11_set_91 ?_
      refine lv_iload_n hx hb dX11_set_94 rfl (lv_at hl 2 rfl) ?_
      refine lv_iload_n hx hb dX11_set_95 rfl (lv_at hl 3 rfl) ?_
      obtain ⟨hi13, hT⟩ := hT
      refine fx_iast X h (k := 12) sh_12 hi13 dX11_set_96 (fun H locs h => ?_)
      obtain ⟨M12, eM12⟩ : ∃ z : Mm, z = m_up M6 12 (x2).toNatClampNeg x3 := ⟨_, rfl⟩
      have hT := hT M12 eM12
      rw [← eM12] at h
      refine lv_goto (tgt := 145) hx hb dX11_set_97 (by decide) ?_
      refine lv_iconst (v := 1) hx hb dX11_set_145 (by decide) ?_
      exact fx_zret X hr hk h (Or.inr rfl) hT dX11_set_146
    have hT := hT.2 hc11
    by_cases hc14 : x1 = (3 : Int32)
    · have hT := hT.1 hc14
      refine lv_tableIn (off := 80) (tgt := 100) hx hb dX11_set_20 (by rw [hc14]; decide) (by rw [hc14]; decide) (by rw [hc14]; rfl) (by decide) ?_
      refine lv_aload_n hx hb dX11_set_100 rfl (lv_at hl 0 rfl) ?_
      refine fx_getR X h (k := 0) (j := 0) (r := 1) sh_0 rfl fl_RX11_12 dX11_set_101 ?_
      refine fx_getR X h (k := 1) (j := 0) (r := 2) sh_1 rfl fl_RX11_92 dX11_set_104 ?_
      refine fx_getR X h (k := 2) (j := 5) (r := 6) sh_2 rfl fl_RX11_125 dX11_set_107 ?_
      refine lv_iload_n hx hb dX11_set_110 rfl (lv_at hl 2 rfl) ?_
      refine lv_iload_n hx hb dX11_set_111 rfl (lv_at hl 3 rfl) ?_
      obtain ⟨hi16, hT⟩ := hT
      refine fx_iast X h (k := 6) sh_6 hi16 dX11_set_112 (fun H locs h => ?_)
      obtain ⟨M15, eM15⟩ : ∃ z : Mm, z = m_up M6 6 (x2).toNatClampNeg x3 := ⟨_, rfl⟩
      have hT := hT M15 eM15
      rw [← eM15] at h
      refine lv_goto (tgt := 145) hx hb dX11_set_113 (by decide) ?_
      refine lv_iconst (v := 1) hx hb dX11_set_145 (by decide) ?_
      exact fx_zret X hr hk h (Or.inr rfl) hT dX11_set_146
    have hT := hT.2 hc14
    by_cases hc17 : x1 = (4 : Int32)
    · have hT := hT.1 hc17
      refine lv_tableIn (off := 96) (tgt := 116) hx hb dX11_set_20 (by rw [hc17]; decide) (by rw [hc17]; decide) (by rw [hc17]; rfl) (by decide) ?_
      refine lv_aload_n hx hb dX11_set_116 rfl (lv_at hl 0 rfl) ?_
      refine fx_getR X h (k := 0) (j := 0) (r := 1) sh_0 rfl fl_RX11_12 dX11_set_117 ?_
      refine fx_getR X h (k := 1) (j := 0) (r := 2) sh_1 rfl fl_RX11_92 dX11_set_120 ?_
      refine fx_getR X h (k := 2) (j := 4) (r := 5) sh_2 rfl fl_RX11_128 dX11_set_123 ?_
      refine lv_iload_n hx hb dX11_set_126 rfl (lv_at hl 2 rfl) ?_
      refine lv_iload_n hx hb dX11_set_127 rfl (lv_at hl 3 rfl) ?_
      obtain ⟨hi19, hT⟩ := hT
      refine fx_iast X h (k := 5) sh_5 hi19 dX11_set_128 (fun H locs h => ?_)
      obtain ⟨M18, eM18⟩ : ∃ z : Mm, z = m_up M6 5 (x2).toNatClampNeg x3 := ⟨_, rfl⟩
      have hT := hT M18 eM18
      rw [← eM18] at h
      refine lv_goto (tgt := 145) hx hb dX11_set_129 (by decide) ?_
      refine lv_iconst (v := 1) hx hb dX11_set_145 (by decide) ?_
      exact fx_zret X hr hk h (Or.inr rfl) hT dX11_set_146
    have hT := hT.2 hc17
    have khc7 : ¬ (x1).toInt = 0 := fun q => hc7 (Int32.toInt_inj.mp (q.trans (by decide)))
    have khc9 : ¬ (x1).toInt = 1 := fun q => hc9 (Int32.toInt_inj.mp (q.trans (by decide)))
    have khc11 : ¬ (x1).toInt = 2 := fun q => hc11 (Int32.toInt_inj.mp (q.trans (by decide)))
    have khc14 : ¬ (x1).toInt = 3 := fun q => hc14 (Int32.toInt_inj.mp (q.trans (by decide)))
    have khc17 : ¬ (x1).toInt = 4 := fun q => hc17 (Int32.toInt_inj.mp (q.trans (by decide)))
    refine lv_tableOut (tgt := 132) hx hb dX11_set_20 (by omega) (by decide) ?_
    refine lv_aload_n hx hb dX11_set_132 rfl (lv_at hl 0 rfl) ?_
    refine fx_getR X h (k := 0) (j := 0) (r := 1) sh_0 rfl fl_RX11_12 dX11_set_133 ?_
    refine fx_getR X h (k := 1) (j := 1) (r := 8) sh_1 rfl fl_RX11_35 dX11_set_136 ?_
    refine fx_getR X h (k := 8) (j := 2) (r := 11) sh_8 rfl fl_RX11_131 dX11_set_139 ?_
    refine lv_iload_n hx hb dX11_set_142 rfl (lv_at hl 2 rfl) ?_
    refine lv_iload_n hx hb dX11_set_143 rfl (lv_at hl 3 rfl) ?_
    obtain ⟨hi21, hT⟩ := hT
    refine fx_iast X h (k := 11) sh_11 hi21 dX11_set_144 (fun H locs h => ?_)
    obtain ⟨M20, eM20⟩ : ∃ z : Mm, z = m_up M6 11 (x2).toNatClampNeg x3 := ⟨_, rfl⟩
    have hT := hT M20 eM20
    rw [← eM20] at h
    refine lv_iconst (v := 1) hx hb dX11_set_145 (by decide) ?_
    exact fx_zret X hr hk h (Or.inr rfl) hT dX11_set_146
  · have hT := hT.1 hc4
    refine lv_iconst (v := 0) hx hb dX11_set_10 (by decide) ?_
    exact fx_zret X hr hk h (Or.inl rfl) hT dX11_set_11
/-! MockParcels.sell(I)I -/
theorem dX11_sell_0 : decode cX11_sell 0 = .ok (.aload_n 0, 1) := by decide +kernel
theorem dX11_sell_1 : decode cX11_sell 1 = .ok (.getfield 41, 3) := by decide +kernel
theorem dX11_sell_4 : decode cX11_sell 4 = .ok (.iload_n 1, 1) := by decide +kernel
theorem dX11_sell_5 : decode cX11_sell 5 = .ok (.invokevirtual 141, 3) := by decide +kernel
theorem dX11_sell_8 : decode cX11_sell 8 = .ok (.ifCond .ne 5, 3) := by decide +kernel
theorem dX11_sell_11 : decode cX11_sell 11 = .ok (.iconst (-1), 1) := by decide +kernel
theorem dX11_sell_12 : decode cX11_sell 12 = .ok (.ireturn, 1) := by decide +kernel
theorem dX11_sell_13 : decode cX11_sell 13 = .ok (.aload_n 0, 1) := by decide +kernel
theorem dX11_sell_14 : decode cX11_sell 14 = .ok (.getfield 22, 3) := by decide +kernel
theorem dX11_sell_17 : decode cX11_sell 17 = .ok (.aload_n 0, 1) := by decide +kernel
theorem dX11_sell_18 : decode cX11_sell 18 = .ok (.getfield 12, 3) := by decide +kernel
theorem dX11_sell_21 : decode cX11_sell 21 = .ok (.getfield 35, 3) := by decide +kernel
theorem dX11_sell_24 : decode cX11_sell 24 = .ok (.invokevirtual 144, 3) := by decide +kernel
theorem dX11_sell_27 : decode cX11_sell 27 = .ok (.aload_n 0, 1) := by decide +kernel
theorem dX11_sell_28 : decode cX11_sell 28 = .ok (.getfield 41, 3) := by decide +kernel
theorem dX11_sell_31 : decode cX11_sell 31 = .ok (.iload_n 1, 1) := by decide +kernel
theorem dX11_sell_32 : decode cX11_sell 32 = .ok (.invokevirtual 148, 3) := by decide +kernel
theorem dX11_sell_35 : decode cX11_sell 35 = .ok (.pop, 1) := by decide +kernel
theorem dX11_sell_36 : decode cX11_sell 36 = .ok (.aload_n 0, 1) := by decide +kernel
theorem dX11_sell_37 : decode cX11_sell 37 = .ok (.getfield 41, 3) := by decide +kernel
theorem dX11_sell_40 : decode cX11_sell 40 = .ok (.getfield 151, 3) := by decide +kernel
theorem dX11_sell_43 : decode cX11_sell 43 = .ok (.ireturn, 1) := by decide +kernel
def T_X11_sell (x1 : Int32) (M : Mm) (K : Int32 → Mm → Prop) : Prop := (T_X0_canSell 130 x1 M (fun r3 M2 => ((r3 = 0 → (K (-1 : Int32) M2)) ∧ (¬ r3 = 0 → (T_X4_keep 8 M2 (fun M6 => (T_X0_sellOff 130 x1 M6 (fun r9 M8 => (K (M8 130 7) M8)))))))))
set_option maxHeartbeats 4000000 in
set_option maxRecDepth 100000 in
theorem c_X11_sell (l : Launch) (G : fx_G) {x1 : Int32} {M : Mm} {K : Int32 → Mm → Prop} (hT : T_X11_sell x1 M K) : Met l yX11_sell (fx_ws yX11_sell cX11_sell 2 (some .int)) (fx_rm (6)) (va_Pc [.ref (G.2.2.2 + 0), .int x1] (fx_P G SH M)) (va_Qi K (fx_R G SH) (fx_A G)) 0 0 (fx_A G) := by
  refine fx_met (own := RX11) (by decide +kernel) rfl (Nat.le_of_ble_eq_true rfl) (fun p e s m below meth c X hr hk h ls hl => ?_)
  obtain ⟨⟨hx, hb, hml, hown, hts⟩, hK, hQ⟩ := id X
  have hl : lv_has ls 2 [(0, .ref (G.2.2.2 + 0)), (1, .int x1)] := hl
  unfold T_X11_sell at hT
  refine lv_aload_n hx hb dX11_sell_0 rfl (lv_at hl 0 rfl) ?_
  refine fx_getR X h (k := 0) (j := 4) (r := 130) sh_0 rfl fl_RX11_41 dX11_sell_1 ?_
  refine lv_iload_n hx hb dX11_sell_4 rfl (lv_at hl 1 rfl) ?_
  refine fx_vi X h ym_X0_canSell yi_X0_canSell ys_X0_canSell (fx_s3 (List.mem_of_getElem? (i := 99) rfl) rfl) sh_130 rfl (c_X0_canSell l G (by decide) hT) (As := [.int x1]) (rest := []) rfl rfl ⟨Nat.le_of_ble_eq_true rfl, Nat.le_of_ble_eq_true rfl⟩ ⟨Nat.le_refl _, Nat.le_refl _⟩ hl.1 (Nat.le_of_ble_eq_true rfl) dX11_sell_5 (fun r3 M2 H locs hT h => ?_)
  refine lv_if_ne (tgt := 13) hx hb dX11_sell_8 (by decide) (fun hc4 => ?_) (fun hc4 => ?_)
  · have hT := hT.2 hc4
    refine lv_aload_n hx hb dX11_sell_13 rfl (lv_at hl 0 rfl) ?_
    refine fx_getR X h (k := 0) (j := 2) (r := 79) sh_0 rfl fl_RX11_22 dX11_sell_14 ?_
    refine lv_aload_n hx hb dX11_sell_17 rfl (lv_at hl 0 rfl) ?_
    refine fx_getR X h (k := 0) (j := 0) (r := 1) sh_0 rfl fl_RX11_12 dX11_sell_18 ?_
    refine fx_getR X h (k := 1) (j := 1) (r := 8) sh_1 rfl fl_RX11_35 dX11_sell_21 ?_
    refine fx_vv X h ym_X4_keep yi_X4_keep ys_X4_keep (fx_s3 (List.mem_of_getElem? (i := 104) rfl) rfl) sh_79 rfl (c_X4_keep l G (by decide) hT) (As := [.ref (G.2.2.2 + 8)]) (rest := []) rfl rfl ⟨Nat.le_of_ble_eq_true rfl, Nat.le_of_ble_eq_true rfl⟩ ⟨Nat.le_refl _, Nat.le_refl _⟩ hl.1 (Nat.le_of_ble_eq_true rfl) dX11_sell_24 (fun M6 H locs hT h => ?_)
    refine lv_aload_n hx hb dX11_sell_27 rfl (lv_at hl 0 rfl) ?_
    refine fx_getR X h (k := 0) (j := 4) (r := 130) sh_0 rfl fl_RX11_41 dX11_sell_28 ?_
    refine lv_iload_n hx hb dX11_sell_31 rfl (lv_at hl 1 rfl) ?_
    refine fx_vi X h ym_X0_sellOff yi_X0_sellOff ys_X0_sellOff (fx_s3 (List.mem_of_getElem? (i := 115) rfl) rfl) sh_130 rfl (c_X0_sellOff l G (by decide) hT) (As := [.int x1]) (rest := []) rfl rfl ⟨Nat.le_of_ble_eq_true rfl, Nat.le_of_ble_eq_true rfl⟩ ⟨Nat.le_refl _, Nat.le_refl _⟩ hl.1 (Nat.le_of_ble_eq_true rfl) dX11_sell_32 (fun r9 M8 H locs hT h => ?_)
    refine lv_pop hx hb dX11_sell_35 rfl ?_
    refine lv_aload_n hx hb dX11_sell_36 rfl (lv_at hl 0 rfl) ?_
    refine fx_getR X h (k := 0) (j := 4) (r := 130) sh_0 rfl fl_RX11_41 dX11_sell_37 ?_
    refine fx_getI X h (k := 130) (j := 7) sh_130 rfl fl_RX11_151 dX11_sell_40 ?_
    exact fx_iret X hr hk h hT dX11_sell_43
  · have hT := hT.1 hc4
    refine lv_iconst (v := -1) hx hb dX11_sell_11 (by decide) ?_
    exact fx_iret X hr hk h hT dX11_sell_12
/-! MockParcels.pay(II)Z -/
theorem dX11_pay_0 : decode cX11_pay 0 = .ok (.aload_n 0, 1) := by decide +kernel
theorem dX11_pay_1 : decode cX11_pay 1 = .ok (.getfield 12, 3) := by decide +kernel
theorem dX11_pay_4 : decode cX11_pay 4 = .ok (.getfield 92, 3) := by decide +kernel
theorem dX11_pay_7 : decode cX11_pay 7 = .ok (.iload_n 1, 1) := by decide +kernel
theorem dX11_pay_8 : decode cX11_pay 8 = .ok (.invokevirtual 134, 3) := by decide +kernel
theorem dX11_pay_11 : decode cX11_pay 11 = .ok (.ifCond .eq 14, 3) := by decide +kernel
theorem dX11_pay_14 : decode cX11_pay 14 = .ok (.iload_n 2, 1) := by decide +kernel
theorem dX11_pay_15 : decode cX11_pay 15 = .ok (.iconst 1, 1) := by decide +kernel
theorem dX11_pay_16 : decode cX11_pay 16 = .ok (.sipush 999, 3) := by decide +kernel
theorem dX11_pay_19 : decode cX11_pay 19 = .ok (.invokestatic 88, 3) := by decide +kernel
theorem dX11_pay_22 : decode cX11_pay 22 = .ok (.ifCond .ne 5, 3) := by decide +kernel
theorem dX11_pay_25 : decode cX11_pay 25 = .ok (.iconst 0, 1) := by decide +kernel
theorem dX11_pay_26 : decode cX11_pay 26 = .ok (.ireturn, 1) := by decide +kernel
theorem dX11_pay_27 : decode cX11_pay 27 = .ok (.aload_n 0, 1) := by decide +kernel
theorem dX11_pay_28 : decode cX11_pay 28 = .ok (.getfield 22, 3) := by decide +kernel
theorem dX11_pay_31 : decode cX11_pay 31 = .ok (.aload_n 0, 1) := by decide +kernel
theorem dX11_pay_32 : decode cX11_pay 32 = .ok (.getfield 12, 3) := by decide +kernel
theorem dX11_pay_35 : decode cX11_pay 35 = .ok (.getfield 35, 3) := by decide +kernel
theorem dX11_pay_38 : decode cX11_pay 38 = .ok (.invokevirtual 144, 3) := by decide +kernel
theorem dX11_pay_41 : decode cX11_pay 41 = .ok (.aload_n 0, 1) := by decide +kernel
theorem dX11_pay_42 : decode cX11_pay 42 = .ok (.getfield 41, 3) := by decide +kernel
theorem dX11_pay_45 : decode cX11_pay 45 = .ok (.iload_n 1, 1) := by decide +kernel
theorem dX11_pay_46 : decode cX11_pay 46 = .ok (.iload_n 2, 1) := by decide +kernel
theorem dX11_pay_47 : decode cX11_pay 47 = .ok (.invokevirtual 154, 3) := by decide +kernel
theorem dX11_pay_50 : decode cX11_pay 50 = .ok (.iconst 1, 1) := by decide +kernel
theorem dX11_pay_51 : decode cX11_pay 51 = .ok (.ireturn, 1) := by decide +kernel
def T_X11_pay (x1 : Int32) (x2 : Int32) (M : Mm) (K : Int32 → Mm → Prop) : Prop := (T_X1_hasBidder 2 x1 M (fun r3 M2 => ((r3 = 0 → (K (0 : Int32) M2)) ∧ (¬ r3 = 0 → (T_X11_isWithin x2 (1 : Int32) (999 : Int32) M2 (fun r7 M6 => ((r7 = 0 → (K (0 : Int32) M6)) ∧ (¬ r7 = 0 → (T_X4_keep 8 M6 (fun M10 => (T_X0_payOut 130 x1 x2 M10 (fun M12 => (K (1 : Int32) M12)))))))))))))
set_option maxHeartbeats 4000000 in
set_option maxRecDepth 100000 in
theorem c_X11_pay (l : Launch) (G : fx_G) {x1 : Int32} {x2 : Int32} {M : Mm} {K : Int32 → Mm → Prop} (hT : T_X11_pay x1 x2 M K) : Met l yX11_pay (fx_ws yX11_pay cX11_pay 3 (some .boolean)) (fx_rm (3)) (va_Pc [.ref (G.2.2.2 + 0), .int x1, .int x2] (fx_P G SH M)) (va_Qi K (fx_R G SH) (fx_A G)) 0 0 (fx_A G) := by
  refine fx_met (own := RX11) (by decide +kernel) rfl (Nat.le_of_ble_eq_true rfl) (fun p e s m below meth c X hr hk h ls hl => ?_)
  obtain ⟨⟨hx, hb, hml, hown, hts⟩, hK, hQ⟩ := id X
  have hl : lv_has ls 3 [(0, .ref (G.2.2.2 + 0)), (1, .int x1), (2, .int x2)] := hl
  unfold T_X11_pay at hT
  refine lv_aload_n hx hb dX11_pay_0 rfl (lv_at hl 0 rfl) ?_
  refine fx_getR X h (k := 0) (j := 0) (r := 1) sh_0 rfl fl_RX11_12 dX11_pay_1 ?_
  refine fx_getR X h (k := 1) (j := 0) (r := 2) sh_1 rfl fl_RX11_92 dX11_pay_4 ?_
  refine lv_iload_n hx hb dX11_pay_7 rfl (lv_at hl 1 rfl) ?_
  refine fx_vi X h ym_X1_hasBidder yi_X1_hasBidder ys_X1_hasBidder (fx_s3 (List.mem_of_getElem? (i := 87) rfl) rfl) sh_2 rfl (c_X1_hasBidder l G (by decide) hT) (As := [.int x1]) (rest := []) rfl rfl ⟨Nat.le_of_ble_eq_true rfl, Nat.le_of_ble_eq_true rfl⟩ ⟨Nat.le_refl _, Nat.le_refl _⟩ hl.1 (Nat.le_of_ble_eq_true rfl) dX11_pay_8 (fun r3 M2 H locs hT h => ?_)
  refine lv_if_eq (tgt := 25) hx hb dX11_pay_11 (by decide) (fun hc4 => ?_) (fun hc4 => ?_)
  · have hT := hT.1 hc4
    refine lv_iconst (v := 0) hx hb dX11_pay_25 (by decide) ?_
    exact fx_zret X hr hk h (Or.inl rfl) hT dX11_pay_26
  · have hT := hT.2 hc4
    refine lv_iload_n hx hb dX11_pay_14 rfl (lv_at hl 2 rfl) ?_
    refine lv_iconst (v := 1) hx hb dX11_pay_15 (by decide) ?_
    refine lv_sipush (v := 999) hx hb dX11_pay_16 (by decide) ?_
    refine fx_si X h ym_X11_isWithin yt_X11_isWithin (fx_s3 (List.mem_of_getElem? (i := 64) rfl) rfl) (c_X11_isWithin l G hT) (As := [.int x2, .int (1 : Int32), .int (999 : Int32)]) (rest := []) rfl rfl ⟨Nat.le_of_ble_eq_true rfl, Nat.le_of_ble_eq_true rfl⟩ ⟨Nat.le_refl _, Nat.le_refl _⟩ hl.1 (Nat.le_of_ble_eq_true rfl) dX11_pay_19 (fun r7 M6 H locs hT h => ?_)
    refine lv_if_ne (tgt := 27) hx hb dX11_pay_22 (by decide) (fun hc8 => ?_) (fun hc8 => ?_)
    · have hT := hT.2 hc8
      refine lv_aload_n hx hb dX11_pay_27 rfl (lv_at hl 0 rfl) ?_
      refine fx_getR X h (k := 0) (j := 2) (r := 79) sh_0 rfl fl_RX11_22 dX11_pay_28 ?_
      refine lv_aload_n hx hb dX11_pay_31 rfl (lv_at hl 0 rfl) ?_
      refine fx_getR X h (k := 0) (j := 0) (r := 1) sh_0 rfl fl_RX11_12 dX11_pay_32 ?_
      refine fx_getR X h (k := 1) (j := 1) (r := 8) sh_1 rfl fl_RX11_35 dX11_pay_35 ?_
      refine fx_vv X h ym_X4_keep yi_X4_keep ys_X4_keep (fx_s3 (List.mem_of_getElem? (i := 104) rfl) rfl) sh_79 rfl (c_X4_keep l G (by decide) hT) (As := [.ref (G.2.2.2 + 8)]) (rest := []) rfl rfl ⟨Nat.le_of_ble_eq_true rfl, Nat.le_of_ble_eq_true rfl⟩ ⟨Nat.le_refl _, Nat.le_refl _⟩ hl.1 (Nat.le_of_ble_eq_true rfl) dX11_pay_38 (fun M10 H locs hT h => ?_)
      refine lv_aload_n hx hb dX11_pay_41 rfl (lv_at hl 0 rfl) ?_
      refine fx_getR X h (k := 0) (j := 4) (r := 130) sh_0 rfl fl_RX11_41 dX11_pay_42 ?_
      refine lv_iload_n hx hb dX11_pay_45 rfl (lv_at hl 1 rfl) ?_
      refine lv_iload_n hx hb dX11_pay_46 rfl (lv_at hl 2 rfl) ?_
      refine fx_vv X h ym_X0_payOut yi_X0_payOut ys_X0_payOut (fx_s3 (List.mem_of_getElem? (i := 195) rfl) rfl) sh_130 rfl (c_X0_payOut l G (by decide) hT) (As := [.int x1, .int x2]) (rest := []) rfl rfl ⟨Nat.le_of_ble_eq_true rfl, Nat.le_of_ble_eq_true rfl⟩ ⟨Nat.le_refl _, Nat.le_refl _⟩ hl.1 (Nat.le_of_ble_eq_true rfl) dX11_pay_47 (fun M12 H locs hT h => ?_)
      refine lv_iconst (v := 1) hx hb dX11_pay_50 (by decide) ?_
      exact fx_zret X hr hk h (Or.inr rfl) hT dX11_pay_51
    · have hT := hT.1 hc8
      refine lv_iconst (v := 0) hx hb dX11_pay_25 (by decide) ?_
      exact fx_zret X hr hk h (Or.inl rfl) hT dX11_pay_26
/-! MockParcels.give(III)Z -/
theorem dX11_give_0 : decode cX11_give 0 = .ok (.aload_n 0, 1) := by decide +kernel
theorem dX11_give_1 : decode cX11_give 1 = .ok (.getfield 12, 3) := by decide +kernel
theorem dX11_give_4 : decode cX11_give 4 = .ok (.getfield 92, 3) := by decide +kernel
theorem dX11_give_7 : decode cX11_give 7 = .ok (.iload_n 1, 1) := by decide +kernel
theorem dX11_give_8 : decode cX11_give 8 = .ok (.invokevirtual 134, 3) := by decide +kernel
theorem dX11_give_11 : decode cX11_give 11 = .ok (.ifCond .eq 53, 3) := by decide +kernel
theorem dX11_give_14 : decode cX11_give 14 = .ok (.aload_n 0, 1) := by decide +kernel
theorem dX11_give_15 : decode cX11_give 15 = .ok (.getfield 12, 3) := by decide +kernel
theorem dX11_give_18 : decode cX11_give 18 = .ok (.getfield 92, 3) := by decide +kernel
theorem dX11_give_21 : decode cX11_give 21 = .ok (.iload_n 2, 1) := by decide +kernel
theorem dX11_give_22 : decode cX11_give 22 = .ok (.invokevirtual 134, 3) := by decide +kernel
theorem dX11_give_25 : decode cX11_give 25 = .ok (.ifCond .eq 39, 3) := by decide +kernel
theorem dX11_give_28 : decode cX11_give 28 = .ok (.iload_n 1, 1) := by decide +kernel
theorem dX11_give_29 : decode cX11_give 29 = .ok (.iload_n 2, 1) := by decide +kernel
theorem dX11_give_30 : decode cX11_give 30 = .ok (.if_icmp .eq 34, 3) := by decide +kernel
theorem dX11_give_33 : decode cX11_give 33 = .ok (.iload_n 3, 1) := by decide +kernel
theorem dX11_give_34 : decode cX11_give 34 = .ok (.iconst 1, 1) := by decide +kernel
theorem dX11_give_35 : decode cX11_give 35 = .ok (.bipush 7, 2) := by decide +kernel
theorem dX11_give_37 : decode cX11_give 37 = .ok (.invokestatic 88, 3) := by decide +kernel
theorem dX11_give_40 : decode cX11_give 40 = .ok (.ifCond .eq 24, 3) := by decide +kernel
theorem dX11_give_43 : decode cX11_give 43 = .ok (.aload_n 0, 1) := by decide +kernel
theorem dX11_give_44 : decode cX11_give 44 = .ok (.getfield 12, 3) := by decide +kernel
theorem dX11_give_47 : decode cX11_give 47 = .ok (.getfield 35, 3) := by decide +kernel
theorem dX11_give_50 : decode cX11_give 50 = .ok (.getfield 158, 3) := by decide +kernel
theorem dX11_give_53 : decode cX11_give 53 = .ok (.iload_n 1, 1) := by decide +kernel
theorem dX11_give_54 : decode cX11_give 54 = .ok (.bipush 8, 2) := by decide +kernel
theorem dX11_give_56 : decode cX11_give 56 = .ok (.imul, 1) := by decide +kernel
theorem dX11_give_57 : decode cX11_give 57 = .ok (.iload_n 3, 1) := by decide +kernel
theorem dX11_give_58 : decode cX11_give 58 = .ok (.iadd, 1) := by decide +kernel
theorem dX11_give_59 : decode cX11_give 59 = .ok (.iaload, 1) := by decide +kernel
theorem dX11_give_60 : decode cX11_give 60 = .ok (.iconst 1, 1) := by decide +kernel
theorem dX11_give_61 : decode cX11_give 61 = .ok (.if_icmp .ge 5, 3) := by decide +kernel
theorem dX11_give_64 : decode cX11_give 64 = .ok (.iconst 0, 1) := by decide +kernel
theorem dX11_give_65 : decode cX11_give 65 = .ok (.ireturn, 1) := by decide +kernel
theorem dX11_give_66 : decode cX11_give 66 = .ok (.aload_n 0, 1) := by decide +kernel
theorem dX11_give_67 : decode cX11_give 67 = .ok (.getfield 22, 3) := by decide +kernel
theorem dX11_give_70 : decode cX11_give 70 = .ok (.aload_n 0, 1) := by decide +kernel
theorem dX11_give_71 : decode cX11_give 71 = .ok (.getfield 12, 3) := by decide +kernel
theorem dX11_give_74 : decode cX11_give 74 = .ok (.getfield 35, 3) := by decide +kernel
theorem dX11_give_77 : decode cX11_give 77 = .ok (.invokevirtual 144, 3) := by decide +kernel
theorem dX11_give_80 : decode cX11_give 80 = .ok (.aload_n 0, 1) := by decide +kernel
theorem dX11_give_81 : decode cX11_give 81 = .ok (.getfield 41, 3) := by decide +kernel
theorem dX11_give_84 : decode cX11_give 84 = .ok (.iload_n 1, 1) := by decide +kernel
theorem dX11_give_85 : decode cX11_give 85 = .ok (.iload_n 2, 1) := by decide +kernel
theorem dX11_give_86 : decode cX11_give 86 = .ok (.iload_n 3, 1) := by decide +kernel
theorem dX11_give_87 : decode cX11_give 87 = .ok (.invokevirtual 161, 3) := by decide +kernel
theorem dX11_give_90 : decode cX11_give 90 = .ok (.iconst 1, 1) := by decide +kernel
theorem dX11_give_91 : decode cX11_give 91 = .ok (.ireturn, 1) := by decide +kernel
def T_X11_give (x1 : Int32) (x2 : Int32) (x3 : Int32) (M : Mm) (K : Int32 → Mm → Prop) : Prop := (T_X1_hasBidder 2 x1 M (fun r3 M2 => ((r3 = 0 → (K (0 : Int32) M2)) ∧ (¬ r3 = 0 → (T_X1_hasBidder 2 x2 M2 (fun r7 M6 => ((r7 = 0 → (K (0 : Int32) M6)) ∧ (¬ r7 = 0 → ((x1 = x2 → (K (0 : Int32) M6)) ∧ (¬ x1 = x2 → (T_X11_isWithin x3 (1 : Int32) (7 : Int32) M6 (fun r12 M11 => ((r12 = 0 → (K (0 : Int32) M11)) ∧ (¬ r12 = 0 → (vp_in ((x1 * (8 : Int32)) + x3) 64 ∧ (((1 : Int32) ≤ (M11 14 (((x1 * (8 : Int32)) + x3)).toNatClampNeg) → (T_X4_keep 8 M11 (fun M17 => (T_X0_handOver 130 x1 x2 x3 M17 (fun M19 => (K (1 : Int32) M19)))))) ∧ (¬ (1 : Int32) ≤ (M11 14 (((x1 * (8 : Int32)) + x3)).toNatClampNeg) → (K (0 : Int32) M11))))))))))))))))))
set_option maxHeartbeats 4000000 in
set_option maxRecDepth 100000 in
theorem c_X11_give (l : Launch) (G : fx_G) {x1 : Int32} {x2 : Int32} {x3 : Int32} {M : Mm} {K : Int32 → Mm → Prop} (hT : T_X11_give x1 x2 x3 M K) : Met l yX11_give (fx_ws yX11_give cX11_give 4 (some .boolean)) (fx_rm (3)) (va_Pc [.ref (G.2.2.2 + 0), .int x1, .int x2, .int x3] (fx_P G SH M)) (va_Qi K (fx_R G SH) (fx_A G)) 0 0 (fx_A G) := by
  refine fx_met (own := RX11) (by decide +kernel) rfl (Nat.le_of_ble_eq_true rfl) (fun p e s m below meth c X hr hk h ls hl => ?_)
  obtain ⟨⟨hx, hb, hml, hown, hts⟩, hK, hQ⟩ := id X
  have hl : lv_has ls 4 [(0, .ref (G.2.2.2 + 0)), (1, .int x1), (2, .int x2), (3, .int x3)] := hl
  unfold T_X11_give at hT
  refine lv_aload_n hx hb dX11_give_0 rfl (lv_at hl 0 rfl) ?_
  refine fx_getR X h (k := 0) (j := 0) (r := 1) sh_0 rfl fl_RX11_12 dX11_give_1 ?_
  refine fx_getR X h (k := 1) (j := 0) (r := 2) sh_1 rfl fl_RX11_92 dX11_give_4 ?_
  refine lv_iload_n hx hb dX11_give_7 rfl (lv_at hl 1 rfl) ?_
  refine fx_vi X h ym_X1_hasBidder yi_X1_hasBidder ys_X1_hasBidder (fx_s3 (List.mem_of_getElem? (i := 87) rfl) rfl) sh_2 rfl (c_X1_hasBidder l G (by decide) hT) (As := [.int x1]) (rest := []) rfl rfl ⟨Nat.le_of_ble_eq_true rfl, Nat.le_of_ble_eq_true rfl⟩ ⟨Nat.le_refl _, Nat.le_refl _⟩ hl.1 (Nat.le_of_ble_eq_true rfl) dX11_give_8 (fun r3 M2 H locs hT h => ?_)
  refine lv_if_eq (tgt := 64) hx hb dX11_give_11 (by decide) (fun hc4 => ?_) (fun hc4 => ?_)
  · have hT := hT.1 hc4
    refine lv_iconst (v := 0) hx hb dX11_give_64 (by decide) ?_
    exact fx_zret X hr hk h (Or.inl rfl) hT dX11_give_65
  · have hT := hT.2 hc4
    refine lv_aload_n hx hb dX11_give_14 rfl (lv_at hl 0 rfl) ?_
    refine fx_getR X h (k := 0) (j := 0) (r := 1) sh_0 rfl fl_RX11_12 dX11_give_15 ?_
    refine fx_getR X h (k := 1) (j := 0) (r := 2) sh_1 rfl fl_RX11_92 dX11_give_18 ?_
    refine lv_iload_n hx hb dX11_give_21 rfl (lv_at hl 2 rfl) ?_
    refine fx_vi X h ym_X1_hasBidder yi_X1_hasBidder ys_X1_hasBidder (fx_s3 (List.mem_of_getElem? (i := 87) rfl) rfl) sh_2 rfl (c_X1_hasBidder l G (by decide) hT) (As := [.int x2]) (rest := []) rfl rfl ⟨Nat.le_of_ble_eq_true rfl, Nat.le_of_ble_eq_true rfl⟩ ⟨Nat.le_refl _, Nat.le_refl _⟩ hl.1 (Nat.le_of_ble_eq_true rfl) dX11_give_22 (fun r7 M6 H locs hT h => ?_)
    refine lv_if_eq (tgt := 64) hx hb dX11_give_25 (by decide) (fun hc8 => ?_) (fun hc8 => ?_)
    · have hT := hT.1 hc8
      refine lv_iconst (v := 0) hx hb dX11_give_64 (by decide) ?_
      exact fx_zret X hr hk h (Or.inl rfl) hT dX11_give_65
    · have hT := hT.2 hc8
      refine lv_iload_n hx hb dX11_give_28 rfl (lv_at hl 1 rfl) ?_
      refine lv_iload_n hx hb dX11_give_29 rfl (lv_at hl 2 rfl) ?_
      refine lv_icmp_eq (tgt := 64) hx hb dX11_give_30 (by decide) (fun hc9 => ?_) (fun hc9 => ?_)
      · have hT := hT.1 hc9
        refine lv_iconst (v := 0) hx hb dX11_give_64 (by decide) ?_
        exact fx_zret X hr hk h (Or.inl rfl) hT dX11_give_65
      · have hT := hT.2 hc9
        refine lv_iload_n hx hb dX11_give_33 rfl (lv_at hl 3 rfl) ?_
        refine lv_iconst (v := 1) hx hb dX11_give_34 (by decide) ?_
        refine lv_bipush (v := 7) hx hb dX11_give_35 (by decide) ?_
        refine fx_si X h ym_X11_isWithin yt_X11_isWithin (fx_s3 (List.mem_of_getElem? (i := 64) rfl) rfl) (c_X11_isWithin l G hT) (As := [.int x3, .int (1 : Int32), .int (7 : Int32)]) (rest := []) rfl rfl ⟨Nat.le_of_ble_eq_true rfl, Nat.le_of_ble_eq_true rfl⟩ ⟨Nat.le_refl _, Nat.le_refl _⟩ hl.1 (Nat.le_of_ble_eq_true rfl) dX11_give_37 (fun r12 M11 H locs hT h => ?_)
        refine lv_if_eq (tgt := 64) hx hb dX11_give_40 (by decide) (fun hc13 => ?_) (fun hc13 => ?_)
        · have hT := hT.1 hc13
          refine lv_iconst (v := 0) hx hb dX11_give_64 (by decide) ?_
          exact fx_zret X hr hk h (Or.inl rfl) hT dX11_give_65
        · have hT := hT.2 hc13
          refine lv_aload_n hx hb dX11_give_43 rfl (lv_at hl 0 rfl) ?_
          refine fx_getR X h (k := 0) (j := 0) (r := 1) sh_0 rfl fl_RX11_12 dX11_give_44 ?_
          refine fx_getR X h (k := 1) (j := 1) (r := 8) sh_1 rfl fl_RX11_35 dX11_give_47 ?_
          refine fx_getR X h (k := 8) (j := 5) (r := 14) sh_8 rfl fl_RX11_158 dX11_give_50 ?_
          refine lv_iload_n hx hb dX11_give_53 rfl (lv_at hl 1 rfl) ?_
          refine lv_bipush (v := 8) hx hb dX11_give_54 (by decide) ?_
          refine lv_imul hx hb dX11_give_56 ?_
          refine lv_iload_n hx hb dX11_give_57 rfl (lv_at hl 3 rfl) ?_
          refine lv_iadd hx hb dX11_give_58 ?_
          obtain ⟨hi14, hT⟩ := hT
          refine fx_iald X h (k := 14) sh_14 hi14 dX11_give_59 ?_
          refine lv_iconst (v := 1) hx hb dX11_give_60 (by decide) ?_
          refine lv_icmp_ge (tgt := 66) hx hb dX11_give_61 (by decide) (fun hc15 => ?_) (fun hc15 => ?_)
          · have hT := hT.1 hc15
            refine lv_aload_n hx hb dX11_give_66 rfl (lv_at hl 0 rfl) ?_
            refine fx_getR X h (k := 0) (j := 2) (r := 79) sh_0 rfl fl_RX11_22 dX11_give_67 ?_
            refine lv_aload_n hx hb dX11_give_70 rfl (lv_at hl 0 rfl) ?_
            refine fx_getR X h (k := 0) (j := 0) (r := 1) sh_0 rfl fl_RX11_12 dX11_give_71 ?_
            refine fx_getR X h (k := 1) (j := 1) (r := 8) sh_1 rfl fl_RX11_35 dX11_give_74 ?_
            refine fx_vv X h ym_X4_keep yi_X4_keep ys_X4_keep (fx_s3 (List.mem_of_getElem? (i := 104) rfl) rfl) sh_79 rfl (c_X4_keep l G (by decide) hT) (As := [.ref (G.2.2.2 + 8)]) (rest := []) rfl rfl ⟨Nat.le_of_ble_eq_true rfl, Nat.le_of_ble_eq_true rfl⟩ ⟨Nat.le_refl _, Nat.le_refl _⟩ hl.1 (Nat.le_of_ble_eq_true rfl) dX11_give_77 (fun M17 H locs hT h => ?_)
            refine lv_aload_n hx hb dX11_give_80 rfl (lv_at hl 0 rfl) ?_
            refine fx_getR X h (k := 0) (j := 4) (r := 130) sh_0 rfl fl_RX11_41 dX11_give_81 ?_
            refine lv_iload_n hx hb dX11_give_84 rfl (lv_at hl 1 rfl) ?_
            refine lv_iload_n hx hb dX11_give_85 rfl (lv_at hl 2 rfl) ?_
            refine lv_iload_n hx hb dX11_give_86 rfl (lv_at hl 3 rfl) ?_
            refine fx_vv X h ym_X0_handOver yi_X0_handOver ys_X0_handOver (fx_s3 (List.mem_of_getElem? (i := 203) rfl) rfl) sh_130 rfl (c_X0_handOver l G (by decide) hT) (As := [.int x1, .int x2, .int x3]) (rest := []) rfl rfl ⟨Nat.le_of_ble_eq_true rfl, Nat.le_of_ble_eq_true rfl⟩ ⟨Nat.le_refl _, Nat.le_refl _⟩ hl.1 (Nat.le_of_ble_eq_true rfl) dX11_give_87 (fun M19 H locs hT h => ?_)
            refine lv_iconst (v := 1) hx hb dX11_give_90 (by decide) ?_
            exact fx_zret X hr hk h (Or.inr rfl) hT dX11_give_91
          · have hT := hT.2 hc15
            refine lv_iconst (v := 0) hx hb dX11_give_64 (by decide) ?_
            exact fx_zret X hr hk h (Or.inl rfl) hT dX11_give_65
/-! MockParcels.settle(I)I -/
theorem dX11_settle_0 : decode cX11_settle 0 = .ok (.aload_n 0, 1) := by decide +kernel
theorem dX11_settle_1 : decode cX11_settle 1 = .ok (.getfield 12, 3) := by decide +kernel
theorem dX11_settle_4 : decode cX11_settle 4 = .ok (.getfield 92, 3) := by decide +kernel
theorem dX11_settle_7 : decode cX11_settle 7 = .ok (.iload_n 1, 1) := by decide +kernel
theorem dX11_settle_8 : decode cX11_settle 8 = .ok (.invokevirtual 134, 3) := by decide +kernel
theorem dX11_settle_11 : decode cX11_settle 11 = .ok (.ifCond .eq 18, 3) := by decide +kernel
theorem dX11_settle_14 : decode cX11_settle 14 = .ok (.aload_n 0, 1) := by decide +kernel
theorem dX11_settle_15 : decode cX11_settle 15 = .ok (.getfield 12, 3) := by decide +kernel
theorem dX11_settle_18 : decode cX11_settle 18 = .ok (.getfield 35, 3) := by decide +kernel
theorem dX11_settle_21 : decode cX11_settle 21 = .ok (.getfield 165, 3) := by decide +kernel
theorem dX11_settle_24 : decode cX11_settle 24 = .ok (.iload_n 1, 1) := by decide +kernel
theorem dX11_settle_25 : decode cX11_settle 25 = .ok (.iaload, 1) := by decide +kernel
theorem dX11_settle_26 : decode cX11_settle 26 = .ok (.ifCond .gt 5, 3) := by decide +kernel
theorem dX11_settle_29 : decode cX11_settle 29 = .ok (.iconst (-1), 1) := by decide +kernel
theorem dX11_settle_30 : decode cX11_settle 30 = .ok (.ireturn, 1) := by decide +kernel
theorem dX11_settle_31 : decode cX11_settle 31 = .ok (.aload_n 0, 1) := by decide +kernel
theorem dX11_settle_32 : decode cX11_settle 32 = .ok (.getfield 22, 3) := by decide +kernel
theorem dX11_settle_35 : decode cX11_settle 35 = .ok (.aload_n 0, 1) := by decide +kernel
theorem dX11_settle_36 : decode cX11_settle 36 = .ok (.getfield 12, 3) := by decide +kernel
theorem dX11_settle_39 : decode cX11_settle 39 = .ok (.getfield 35, 3) := by decide +kernel
theorem dX11_settle_42 : decode cX11_settle 42 = .ok (.invokevirtual 144, 3) := by decide +kernel
theorem dX11_settle_45 : decode cX11_settle 45 = .ok (.aload_n 0, 1) := by decide +kernel
theorem dX11_settle_46 : decode cX11_settle 46 = .ok (.getfield 41, 3) := by decide +kernel
theorem dX11_settle_49 : decode cX11_settle 49 = .ok (.iload_n 1, 1) := by decide +kernel
theorem dX11_settle_50 : decode cX11_settle 50 = .ok (.invokevirtual 168, 3) := by decide +kernel
theorem dX11_settle_53 : decode cX11_settle 53 = .ok (.ireturn, 1) := by decide +kernel
def T_X11_settle (x1 : Int32) (M : Mm) (K : Int32 → Mm → Prop) : Prop := (T_X1_hasBidder 2 x1 M (fun r3 M2 => ((r3 = 0 → (K (-1 : Int32) M2)) ∧ (¬ r3 = 0 → (vp_in x1 8 ∧ ((0 < (M2 13 (x1).toNatClampNeg) → (T_X4_keep 8 M2 (fun M8 => (T_X0_clearBill 130 x1 M8 (fun r11 M10 => (K r11 M10)))))) ∧ (¬ 0 < (M2 13 (x1).toNatClampNeg) → (K (-1 : Int32) M2))))))))
set_option maxHeartbeats 4000000 in
set_option maxRecDepth 100000 in
theorem c_X11_settle (l : Launch) (G : fx_G) {x1 : Int32} {M : Mm} {K : Int32 → Mm → Prop} (hT : T_X11_settle x1 M K) : Met l yX11_settle (fx_ws yX11_settle cX11_settle 2 (some .int)) (fx_rm (3)) (va_Pc [.ref (G.2.2.2 + 0), .int x1] (fx_P G SH M)) (va_Qi K (fx_R G SH) (fx_A G)) 0 0 (fx_A G) := by
  refine fx_met (own := RX11) (by decide +kernel) rfl (Nat.le_of_ble_eq_true rfl) (fun p e s m below meth c X hr hk h ls hl => ?_)
  obtain ⟨⟨hx, hb, hml, hown, hts⟩, hK, hQ⟩ := id X
  have hl : lv_has ls 2 [(0, .ref (G.2.2.2 + 0)), (1, .int x1)] := hl
  unfold T_X11_settle at hT
  refine lv_aload_n hx hb dX11_settle_0 rfl (lv_at hl 0 rfl) ?_
  refine fx_getR X h (k := 0) (j := 0) (r := 1) sh_0 rfl fl_RX11_12 dX11_settle_1 ?_
  refine fx_getR X h (k := 1) (j := 0) (r := 2) sh_1 rfl fl_RX11_92 dX11_settle_4 ?_
  refine lv_iload_n hx hb dX11_settle_7 rfl (lv_at hl 1 rfl) ?_
  refine fx_vi X h ym_X1_hasBidder yi_X1_hasBidder ys_X1_hasBidder (fx_s3 (List.mem_of_getElem? (i := 87) rfl) rfl) sh_2 rfl (c_X1_hasBidder l G (by decide) hT) (As := [.int x1]) (rest := []) rfl rfl ⟨Nat.le_of_ble_eq_true rfl, Nat.le_of_ble_eq_true rfl⟩ ⟨Nat.le_refl _, Nat.le_refl _⟩ hl.1 (Nat.le_of_ble_eq_true rfl) dX11_settle_8 (fun r3 M2 H locs hT h => ?_)
  refine lv_if_eq (tgt := 29) hx hb dX11_settle_11 (by decide) (fun hc4 => ?_) (fun hc4 => ?_)
  · have hT := hT.1 hc4
    refine lv_iconst (v := -1) hx hb dX11_settle_29 (by decide) ?_
    exact fx_iret X hr hk h hT dX11_settle_30
  · have hT := hT.2 hc4
    refine lv_aload_n hx hb dX11_settle_14 rfl (lv_at hl 0 rfl) ?_
    refine fx_getR X h (k := 0) (j := 0) (r := 1) sh_0 rfl fl_RX11_12 dX11_settle_15 ?_
    refine fx_getR X h (k := 1) (j := 1) (r := 8) sh_1 rfl fl_RX11_35 dX11_settle_18 ?_
    refine fx_getR X h (k := 8) (j := 4) (r := 13) sh_8 rfl fl_RX11_165 dX11_settle_21 ?_
    refine lv_iload_n hx hb dX11_settle_24 rfl (lv_at hl 1 rfl) ?_
    obtain ⟨hi5, hT⟩ := hT
    refine fx_iald X h (k := 13) sh_13 hi5 dX11_settle_25 ?_
    refine lv_if_gt (tgt := 31) hx hb dX11_settle_26 (by decide) (fun hc6 => ?_) (fun hc6 => ?_)
    · have hT := hT.1 hc6
      refine lv_aload_n hx hb dX11_settle_31 rfl (lv_at hl 0 rfl) ?_
      refine fx_getR X h (k := 0) (j := 2) (r := 79) sh_0 rfl fl_RX11_22 dX11_settle_32 ?_
      refine lv_aload_n hx hb dX11_settle_35 rfl (lv_at hl 0 rfl) ?_
      refine fx_getR X h (k := 0) (j := 0) (r := 1) sh_0 rfl fl_RX11_12 dX11_settle_36 ?_
      refine fx_getR X h (k := 1) (j := 1) (r := 8) sh_1 rfl fl_RX11_35 dX11_settle_39 ?_
      refine fx_vv X h ym_X4_keep yi_X4_keep ys_X4_keep (fx_s3 (List.mem_of_getElem? (i := 104) rfl) rfl) sh_79 rfl (c_X4_keep l G (by decide) hT) (As := [.ref (G.2.2.2 + 8)]) (rest := []) rfl rfl ⟨Nat.le_of_ble_eq_true rfl, Nat.le_of_ble_eq_true rfl⟩ ⟨Nat.le_refl _, Nat.le_refl _⟩ hl.1 (Nat.le_of_ble_eq_true rfl) dX11_settle_42 (fun M8 H locs hT h => ?_)
      refine lv_aload_n hx hb dX11_settle_45 rfl (lv_at hl 0 rfl) ?_
      refine fx_getR X h (k := 0) (j := 4) (r := 130) sh_0 rfl fl_RX11_41 dX11_settle_46 ?_
      refine lv_iload_n hx hb dX11_settle_49 rfl (lv_at hl 1 rfl) ?_
      refine fx_vi X h ym_X0_clearBill yi_X0_clearBill ys_X0_clearBill (fx_s3 (List.mem_of_getElem? (i := 212) rfl) rfl) sh_130 rfl (c_X0_clearBill l G (by decide) hT) (As := [.int x1]) (rest := []) rfl rfl ⟨Nat.le_of_ble_eq_true rfl, Nat.le_of_ble_eq_true rfl⟩ ⟨Nat.le_refl _, Nat.le_refl _⟩ hl.1 (Nat.le_of_ble_eq_true rfl) dX11_settle_50 (fun r11 M10 H locs hT h => ?_)
      exact fx_iret X hr hk h hT dX11_settle_53
    · have hT := hT.2 hc6
      refine lv_iconst (v := -1) hx hb dX11_settle_29 (by decide) ?_
      exact fx_iret X hr hk h hT dX11_settle_30
/-! MockParcels.days(I)I -/
theorem dX11_days_0 : decode cX11_days 0 = .ok (.iload_n 1, 1) := by decide +kernel
theorem dX11_days_1 : decode cX11_days 1 = .ok (.iconst 1, 1) := by decide +kernel
theorem dX11_days_2 : decode cX11_days 2 = .ok (.bipush 60, 2) := by decide +kernel
theorem dX11_days_4 : decode cX11_days 4 = .ok (.invokestatic 88, 3) := by decide +kernel
theorem dX11_days_7 : decode cX11_days 7 = .ok (.ifCond .eq 21, 3) := by decide +kernel
theorem dX11_days_10 : decode cX11_days 10 = .ok (.aload_n 0, 1) := by decide +kernel
theorem dX11_days_11 : decode cX11_days 11 = .ok (.getfield 12, 3) := by decide +kernel
theorem dX11_days_14 : decode cX11_days 14 = .ok (.getfield 35, 3) := by decide +kernel
theorem dX11_days_17 : decode cX11_days 17 = .ok (.getfield 172, 3) := by decide +kernel
theorem dX11_days_20 : decode cX11_days 20 = .ok (.iload_n 1, 1) := by decide +kernel
theorem dX11_days_21 : decode cX11_days 21 = .ok (.iadd, 1) := by decide +kernel
theorem dX11_days_22 : decode cX11_days 22 = .ok (.sipush 9999, 3) := by decide +kernel
theorem dX11_days_25 : decode cX11_days 25 = .ok (.if_icmp .le 5, 3) := by decide +kernel
theorem dX11_days_28 : decode cX11_days 28 = .ok (.iconst (-1), 1) := by decide +kernel
theorem dX11_days_29 : decode cX11_days 29 = .ok (.ireturn, 1) := by decide +kernel
theorem dX11_days_30 : decode cX11_days 30 = .ok (.iconst 0, 1) := by decide +kernel
theorem dX11_days_31 : decode cX11_days 31 = .ok (.istore_n 2, 1) := by decide +kernel
theorem dX11_days_32 : decode cX11_days 32 = .ok (.iconst 0, 1) := by decide +kernel
theorem dX11_days_33 : decode cX11_days 33 = .ok (.istore_n 3, 1) := by decide +kernel
theorem dX11_days_34 : decode cX11_days 34 = .ok (.iload_n 3, 1) := by decide +kernel
theorem dX11_days_35 : decode cX11_days 35 = .ok (.iload_n 1, 1) := by decide +kernel
theorem dX11_days_36 : decode cX11_days 36 = .ok (.if_icmp .ge 33, 3) := by decide +kernel
theorem dX11_days_39 : decode cX11_days 39 = .ok (.aload_n 0, 1) := by decide +kernel
theorem dX11_days_40 : decode cX11_days 40 = .ok (.getfield 22, 3) := by decide +kernel
theorem dX11_days_43 : decode cX11_days 43 = .ok (.aload_n 0, 1) := by decide +kernel
theorem dX11_days_44 : decode cX11_days 44 = .ok (.getfield 12, 3) := by decide +kernel
theorem dX11_days_47 : decode cX11_days 47 = .ok (.getfield 35, 3) := by decide +kernel
theorem dX11_days_50 : decode cX11_days 50 = .ok (.invokevirtual 144, 3) := by decide +kernel
theorem dX11_days_53 : decode cX11_days 53 = .ok (.iload_n 2, 1) := by decide +kernel
theorem dX11_days_54 : decode cX11_days 54 = .ok (.aload_n 0, 1) := by decide +kernel
theorem dX11_days_55 : decode cX11_days 55 = .ok (.getfield 41, 3) := by decide +kernel
theorem dX11_days_58 : decode cX11_days 58 = .ok (.invokevirtual 175, 3) := by decide +kernel
theorem dX11_days_61 : decode cX11_days 61 = .ok (.iadd, 1) := by decide +kernel
theorem dX11_days_62 : decode cX11_days 62 = .ok (.istore_n 2, 1) := by decide +kernel
theorem dX11_days_63 : decode cX11_days 63 = .ok (.iinc 3 1, 3) := by decide +kernel
theorem dX11_days_66 : decode cX11_days 66 = .ok (.goto (-32), 3) := by decide +kernel
theorem dX11_days_69 : decode cX11_days 69 = .ok (.iload_n 2, 1) := by decide +kernel
theorem dX11_days_70 : decode cX11_days 70 = .ok (.ireturn, 1) := by decide +kernel
def T_X11_days_34 : Nat → Int32 → Int32 → Int32 → Mm → (Int32 → Mm → Prop) → Prop
  | 0, _, _, _, _, _ => False
  | n + 1, x1, x2, x3, M, K => ((x1 ≤ x3 → (K x2 M)) ∧ (¬ x1 ≤ x3 → (T_X4_keep 8 M (fun M3 => (T_X0_passDay 130 M3 (fun r6 M5 => (∀ y7 : Int32, y7 = (x2 + r6) → (∀ y8 : Int32, y8 = x3 + (1 : Int32) → (T_X11_days_34 n x1 y7 y8 M5 K)))))))))
set_option maxHeartbeats 4000000 in
set_option maxRecDepth 100000 in
theorem w_X11_days_34 {p : Program} {l : Launch} {e : Env} {s : State} {m : MethodId} {args : Array Value} {below : List Frame} {meth : Method} {c : Code} {G : fx_G} {K : Int32 → Mm → Prop} (X : fx_C G p s m c args cX11_days 4 RX11) (hr : meth.sig.returnType = (some .int)) (hk : meth.locks = false) : ∀ (n : Nat) (x1 : Int32) (x2 : Int32) (x3 : Int32) (M : Mm) (H : Heap) (locs : List Loc) (ls : Array Slot), T_X11_days_34 n x1 x2 x3 M K → fx_H G SH M s H locs → lv_has ls 4 [(0, .ref (G.2.2.2 + 0)), (1, .int x1), (2, .int x2), (3, .int x3)] → W p l e (fx_rm (7)) s m args below meth c H locs 0 0 (MQ below (va_Qi K (fx_R G SH) (fx_A G)) args s 0 0 (fx_A G)) (F0 m 34 ls []) := by
  obtain ⟨⟨hx, hb, hml, hown, hts⟩, hK, hQ⟩ := id X
  intro n
  induction n with
  | zero =>
    intro x1 x2 x3 M H locs ls hT
    exact hT.elim
  | succ n ih =>
    intro x1 x2 x3 M H locs ls hT h hl
    rw [T_X11_days_34] at hT
    refine lv_iload_n hx hb dX11_days_34 rfl (lv_at hl 3 rfl) ?_
    refine lv_iload_n hx hb dX11_days_35 rfl (lv_at hl 1 rfl) ?_
    refine lv_icmp_ge (tgt := 69) hx hb dX11_days_36 (by decide) (fun hc1 => ?_) (fun hc1 => ?_)
    · have hT := hT.1 hc1
      refine lv_iload_n hx hb dX11_days_69 rfl (lv_at hl 2 rfl) ?_
      exact fx_iret X hr hk h hT dX11_days_70
    · have hT := hT.2 hc1
      refine lv_aload_n hx hb dX11_days_39 rfl (lv_at hl 0 rfl) ?_
      refine fx_getR X h (k := 0) (j := 2) (r := 79) sh_0 rfl fl_RX11_22 dX11_days_40 ?_
      refine lv_aload_n hx hb dX11_days_43 rfl (lv_at hl 0 rfl) ?_
      refine fx_getR X h (k := 0) (j := 0) (r := 1) sh_0 rfl fl_RX11_12 dX11_days_44 ?_
      refine fx_getR X h (k := 1) (j := 1) (r := 8) sh_1 rfl fl_RX11_35 dX11_days_47 ?_
      refine fx_vv X h ym_X4_keep yi_X4_keep ys_X4_keep (fx_s3 (List.mem_of_getElem? (i := 104) rfl) rfl) sh_79 rfl (c_X4_keep l G (by decide) hT) (As := [.ref (G.2.2.2 + 8)]) (rest := []) rfl rfl ⟨Nat.le_of_ble_eq_true rfl, Nat.le_of_ble_eq_true rfl⟩ ⟨Nat.le_refl _, Nat.le_refl _⟩ hl.1 (Nat.le_of_ble_eq_true rfl) dX11_days_50 (fun M3 H locs hT h => ?_)
      refine lv_iload_n hx hb dX11_days_53 rfl (lv_at hl 2 rfl) ?_
      refine lv_aload_n hx hb dX11_days_54 rfl (lv_at hl 0 rfl) ?_
      refine fx_getR X h (k := 0) (j := 4) (r := 130) sh_0 rfl fl_RX11_41 dX11_days_55 ?_
      refine fx_vi X h ym_X0_passDay yi_X0_passDay ys_X0_passDay (fx_s3 (List.mem_of_getElem? (i := 220) rfl) rfl) sh_130 rfl (c_X0_passDay l G (by decide) hT) (As := []) (rest := [.int x2]) rfl rfl ⟨Nat.le_of_ble_eq_true rfl, Nat.le_of_ble_eq_true rfl⟩ ⟨Nat.le_refl _, Nat.le_refl _⟩ hl.1 (Nat.le_of_ble_eq_true rfl) dX11_days_58 (fun r6 M5 H locs hT h => ?_)
      refine lv_iadd hx hb dX11_days_61 ?_
      refine lv_topi (fun y7 ey7 => ?_)
      have hT := hT y7 ey7
      refine lv_istore_n (lv' := [(2, .int y7), (0, .ref (G.2.2.2 + 0)), (1, .int x1), (3, .int x3)]) hx hb dX11_days_62 rfl hl (by decide) rfl (fun ls hl => ?_)
      obtain ⟨y8, ey8⟩ : ∃ z : Int32, z = x3 + (1 : Int32) := ⟨_, rfl⟩
      have hT := hT y8 ey8
      refine lv_iinc (v := y8) (lv' := [(3, .int y8), (2, .int y7), (0, .ref (G.2.2.2 + 0)), (1, .int x1)]) hx hb dX11_days_63 hl (k := 3) rfl (by rw [ey8]; rfl) (by decide) rfl (fun ls hl => ?_)
      refine lv_goto (tgt := 34) hx hb dX11_days_66 (by decide) ?_
      exact ih x1 y7 y8 M5 _ _ ls hT h (lv_sub hl [2, 3, 1, 0] rfl)
def T_X11_days (x1 : Int32) (M : Mm) (K : Int32 → Mm → Prop) : Prop := (T_X11_isWithin x1 (1 : Int32) (60 : Int32) M (fun r11 M10 => ((r11 = 0 → (K (-1 : Int32) M10)) ∧ (¬ r11 = 0 → ((((M10 8 10) + x1) ≤ (9999 : Int32) → (T_X11_days_34 5000 x1 (0 : Int32) (0 : Int32) M10 K)) ∧ (¬ ((M10 8 10) + x1) ≤ (9999 : Int32) → (K (-1 : Int32) M10)))))))
set_option maxHeartbeats 4000000 in
set_option maxRecDepth 100000 in
theorem c_X11_days (l : Launch) (G : fx_G) {x1 : Int32} {M : Mm} {K : Int32 → Mm → Prop} (hT : T_X11_days x1 M K) : Met l yX11_days (fx_ws yX11_days cX11_days 4 (some .int)) (fx_rm (7)) (va_Pc [.ref (G.2.2.2 + 0), .int x1] (fx_P G SH M)) (va_Qi K (fx_R G SH) (fx_A G)) 0 0 (fx_A G) := by
  refine fx_met (own := RX11) (by decide +kernel) rfl (Nat.le_of_ble_eq_true rfl) (fun p e s m below meth c X hr hk h ls hl => ?_)
  obtain ⟨⟨hx, hb, hml, hown, hts⟩, hK, hQ⟩ := id X
  have hl : lv_has ls 4 [(0, .ref (G.2.2.2 + 0)), (1, .int x1)] := hl
  unfold T_X11_days at hT
  refine lv_iload_n hx hb dX11_days_0 rfl (lv_at hl 1 rfl) ?_
  refine lv_iconst (v := 1) hx hb dX11_days_1 (by decide) ?_
  refine lv_bipush (v := 60) hx hb dX11_days_2 (by decide) ?_
  refine fx_si X h ym_X11_isWithin yt_X11_isWithin (fx_s3 (List.mem_of_getElem? (i := 64) rfl) rfl) (c_X11_isWithin l G hT) (As := [.int x1, .int (1 : Int32), .int (60 : Int32)]) (rest := []) rfl rfl ⟨Nat.le_of_ble_eq_true rfl, Nat.le_of_ble_eq_true rfl⟩ ⟨Nat.le_refl _, Nat.le_refl _⟩ hl.1 (Nat.le_of_ble_eq_true rfl) dX11_days_4 (fun r11 M10 H locs hT h => ?_)
  refine lv_if_eq (tgt := 28) hx hb dX11_days_7 (by decide) (fun hc12 => ?_) (fun hc12 => ?_)
  · have hT := hT.1 hc12
    refine lv_iconst (v := -1) hx hb dX11_days_28 (by decide) ?_
    exact fx_iret X hr hk h hT dX11_days_29
  · have hT := hT.2 hc12
    refine lv_aload_n hx hb dX11_days_10 rfl (lv_at hl 0 rfl) ?_
    refine fx_getR X h (k := 0) (j := 0) (r := 1) sh_0 rfl fl_RX11_12 dX11_days_11 ?_
    refine fx_getR X h (k := 1) (j := 1) (r := 8) sh_1 rfl fl_RX11_35 dX11_days_14 ?_
    refine fx_getI X h (k := 8) (j := 10) sh_8 rfl fl_RX11_172 dX11_days_17 ?_
    refine lv_iload_n hx hb dX11_days_20 rfl (lv_at hl 1 rfl) ?_
    refine lv_iadd hx hb dX11_days_21 ?_
    refine lv_sipush (v := 9999) hx hb dX11_days_22 (by decide) ?_
    refine lv_icmp_le (tgt := 30) hx hb dX11_days_25 (by decide) (fun hc13 => ?_) (fun hc13 => ?_)
    · have hT := hT.1 hc13
      refine lv_iconst (v := 0) hx hb dX11_days_30 (by decide) ?_
      refine lv_istore_n (lv' := [(2, .int (0 : Int32)), (0, .ref (G.2.2.2 + 0)), (1, .int x1)]) hx hb dX11_days_31 rfl hl (by decide) rfl (fun ls hl => ?_)
      refine lv_iconst (v := 0) hx hb dX11_days_32 (by decide) ?_
      refine lv_istore_n (lv' := [(3, .int (0 : Int32)), (2, .int (0 : Int32)), (0, .ref (G.2.2.2 + 0)), (1, .int x1)]) hx hb dX11_days_33 rfl hl (by decide) rfl (fun ls hl => ?_)
      exact w_X11_days_34 X hr hk 5000 x1 (0 : Int32) (0 : Int32) M10 _ _ ls hT h (lv_sub hl [2, 3, 1, 0] rfl)
    · have hT := hT.2 hc13
      refine lv_iconst (v := -1) hx hb dX11_days_28 (by decide) ?_
      exact fx_iret X hr hk h hT dX11_days_29
/-! MockParcels.feed(IIIII)I -/
theorem dX11_feed_0 : decode cX11_feed 0 = .ok (.aload_n 0, 1) := by decide +kernel
theorem dX11_feed_1 : decode cX11_feed 1 = .ok (.getfield 51, 3) := by decide +kernel
theorem dX11_feed_4 : decode cX11_feed 4 = .ok (.getfield 179, 3) := by decide +kernel
theorem dX11_feed_7 : decode cX11_feed 7 = .ok (.bipush 20, 2) := by decide +kernel
theorem dX11_feed_9 : decode cX11_feed 9 = .ok (.iadd, 1) := by decide +kernel
theorem dX11_feed_10 : decode cX11_feed 10 = .ok (.sipush 400, 3) := by decide +kernel
theorem dX11_feed_13 : decode cX11_feed 13 = .ok (.if_icmp .le 5, 3) := by decide +kernel
theorem dX11_feed_16 : decode cX11_feed 16 = .ok (.iconst (-1), 1) := by decide +kernel
theorem dX11_feed_17 : decode cX11_feed 17 = .ok (.ireturn, 1) := by decide +kernel
theorem dX11_feed_18 : decode cX11_feed 18 = .ok (.aload_n 0, 1) := by decide +kernel
theorem dX11_feed_19 : decode cX11_feed 19 = .ok (.getfield 51, 3) := by decide +kernel
theorem dX11_feed_22 : decode cX11_feed 22 = .ok (.iload_n 1, 1) := by decide +kernel
theorem dX11_feed_23 : decode cX11_feed 23 = .ok (.invokevirtual 182, 3) := by decide +kernel
theorem dX11_feed_26 : decode cX11_feed 26 = .ok (.aload_n 0, 1) := by decide +kernel
theorem dX11_feed_27 : decode cX11_feed 27 = .ok (.getfield 51, 3) := by decide +kernel
theorem dX11_feed_30 : decode cX11_feed 30 = .ok (.iload_n 2, 1) := by decide +kernel
theorem dX11_feed_31 : decode cX11_feed 31 = .ok (.invokevirtual 182, 3) := by decide +kernel
theorem dX11_feed_34 : decode cX11_feed 34 = .ok (.aload_n 0, 1) := by decide +kernel
theorem dX11_feed_35 : decode cX11_feed 35 = .ok (.getfield 51, 3) := by decide +kernel
theorem dX11_feed_38 : decode cX11_feed 38 = .ok (.iload_n 3, 1) := by decide +kernel
theorem dX11_feed_39 : decode cX11_feed 39 = .ok (.invokevirtual 182, 3) := by decide +kernel
theorem dX11_feed_42 : decode cX11_feed 42 = .ok (.aload_n 0, 1) := by decide +kernel
theorem dX11_feed_43 : decode cX11_feed 43 = .ok (.getfield 51, 3) := by decide +kernel
theorem dX11_feed_46 : decode cX11_feed 46 = .ok (.iload 4, 2) := by decide +kernel
theorem dX11_feed_48 : decode cX11_feed 48 = .ok (.invokevirtual 182, 3) := by decide +kernel
theorem dX11_feed_51 : decode cX11_feed 51 = .ok (.aload_n 0, 1) := by decide +kernel
theorem dX11_feed_52 : decode cX11_feed 52 = .ok (.getfield 51, 3) := by decide +kernel
theorem dX11_feed_55 : decode cX11_feed 55 = .ok (.iload 5, 2) := by decide +kernel
theorem dX11_feed_57 : decode cX11_feed 57 = .ok (.invokevirtual 182, 3) := by decide +kernel
theorem dX11_feed_60 : decode cX11_feed 60 = .ok (.aload_n 0, 1) := by decide +kernel
theorem dX11_feed_61 : decode cX11_feed 61 = .ok (.getfield 51, 3) := by decide +kernel
theorem dX11_feed_64 : decode cX11_feed 64 = .ok (.getfield 179, 3) := by decide +kernel
theorem dX11_feed_67 : decode cX11_feed 67 = .ok (.ireturn, 1) := by decide +kernel
def T_X11_feed (x1 : Int32) (x2 : Int32) (x3 : Int32) (x4 : Int32) (x5 : Int32) (M : Mm) (K : Int32 → Mm → Prop) : Prop := ((((M 132 1) + (20 : Int32)) ≤ (400 : Int32) → (T_X7_append x1 M (fun M3 => (T_X7_append x2 M3 (fun M5 => (T_X7_append x3 M5 (fun M7 => (T_X7_append x4 M7 (fun M9 => (T_X7_append x5 M9 (fun M11 => (K (M11 132 1) M11)))))))))))) ∧ (¬ ((M 132 1) + (20 : Int32)) ≤ (400 : Int32) → (K (-1 : Int32) M)))
set_option maxHeartbeats 4000000 in
set_option maxRecDepth 100000 in
theorem c_X11_feed (l : Launch) (G : fx_G) {x1 : Int32} {x2 : Int32} {x3 : Int32} {x4 : Int32} {x5 : Int32} {M : Mm} {K : Int32 → Mm → Prop} (hT : T_X11_feed x1 x2 x3 x4 x5 M K) : Met l yX11_feed (fx_ws yX11_feed cX11_feed 6 (some .int)) (fx_rm (1)) (va_Pc [.ref (G.2.2.2 + 0), .int x1, .int x2, .int x3, .int x4, .int x5] (fx_P G SH M)) (va_Qi K (fx_R G SH) (fx_A G)) 0 0 (fx_A G) := by
  refine fx_met (own := RX11) (by decide +kernel) rfl (Nat.le_of_ble_eq_true rfl) (fun p e s m below meth c X hr hk h ls hl => ?_)
  obtain ⟨⟨hx, hb, hml, hown, hts⟩, hK, hQ⟩ := id X
  have hl : lv_has ls 6 [(0, .ref (G.2.2.2 + 0)), (1, .int x1), (2, .int x2), (3, .int x3), (4, .int x4), (5, .int x5)] := hl
  unfold T_X11_feed at hT
  refine lv_aload_n hx hb dX11_feed_0 rfl (lv_at hl 0 rfl) ?_
  refine fx_getR X h (k := 0) (j := 6) (r := 132) sh_0 rfl fl_RX11_51 dX11_feed_1 ?_
  refine fx_getI X h (k := 132) (j := 1) sh_132 rfl fl_RX11_179 dX11_feed_4 ?_
  refine lv_bipush (v := 20) hx hb dX11_feed_7 (by decide) ?_
  refine lv_iadd hx hb dX11_feed_9 ?_
  refine lv_sipush (v := 400) hx hb dX11_feed_10 (by decide) ?_
  refine lv_icmp_le (tgt := 18) hx hb dX11_feed_13 (by decide) (fun hc1 => ?_) (fun hc1 => ?_)
  · have hT := hT.1 hc1
    refine lv_aload_n hx hb dX11_feed_18 rfl (lv_at hl 0 rfl) ?_
    refine fx_getR X h (k := 0) (j := 6) (r := 132) sh_0 rfl fl_RX11_51 dX11_feed_19 ?_
    refine lv_iload_n hx hb dX11_feed_22 rfl (lv_at hl 1 rfl) ?_
    refine fx_vv X h ym_X7_append yi_X7_append ys_X7_append (fx_s4 (List.mem_of_getElem? (i := 2) rfl) rfl) sh_132 rfl (c_X7_append l G hT) (As := [.int x1]) (rest := []) rfl rfl ⟨Nat.le_of_ble_eq_true rfl, Nat.le_of_ble_eq_true rfl⟩ ⟨Nat.le_refl _, Nat.le_refl _⟩ hl.1 (Nat.le_of_ble_eq_true rfl) dX11_feed_23 (fun M3 H locs hT h => ?_)
    refine lv_aload_n hx hb dX11_feed_26 rfl (lv_at hl 0 rfl) ?_
    refine fx_getR X h (k := 0) (j := 6) (r := 132) sh_0 rfl fl_RX11_51 dX11_feed_27 ?_
    refine lv_iload_n hx hb dX11_feed_30 rfl (lv_at hl 2 rfl) ?_
    refine fx_vv X h ym_X7_append yi_X7_append ys_X7_append (fx_s4 (List.mem_of_getElem? (i := 2) rfl) rfl) sh_132 rfl (c_X7_append l G hT) (As := [.int x2]) (rest := []) rfl rfl ⟨Nat.le_of_ble_eq_true rfl, Nat.le_of_ble_eq_true rfl⟩ ⟨Nat.le_refl _, Nat.le_refl _⟩ hl.1 (Nat.le_of_ble_eq_true rfl) dX11_feed_31 (fun M5 H locs hT h => ?_)
    refine lv_aload_n hx hb dX11_feed_34 rfl (lv_at hl 0 rfl) ?_
    refine fx_getR X h (k := 0) (j := 6) (r := 132) sh_0 rfl fl_RX11_51 dX11_feed_35 ?_
    refine lv_iload_n hx hb dX11_feed_38 rfl (lv_at hl 3 rfl) ?_
    refine fx_vv X h ym_X7_append yi_X7_append ys_X7_append (fx_s4 (List.mem_of_getElem? (i := 2) rfl) rfl) sh_132 rfl (c_X7_append l G hT) (As := [.int x3]) (rest := []) rfl rfl ⟨Nat.le_of_ble_eq_true rfl, Nat.le_of_ble_eq_true rfl⟩ ⟨Nat.le_refl _, Nat.le_refl _⟩ hl.1 (Nat.le_of_ble_eq_true rfl) dX11_feed_39 (fun M7 H locs hT h => ?_)
    refine lv_aload_n hx hb dX11_feed_42 rfl (lv_at hl 0 rfl) ?_
    refine fx_getR X h (k := 0) (j := 6) (r := 132) sh_0 rfl fl_RX11_51 dX11_feed_43 ?_
    refine lv_iload hx hb dX11_feed_46 (lv_at hl 4 rfl) ?_
    refine fx_vv X h ym_X7_append yi_X7_append ys_X7_append (fx_s4 (List.mem_of_getElem? (i := 2) rfl) rfl) sh_132 rfl (c_X7_append l G hT) (As := [.int x4]) (rest := []) rfl rfl ⟨Nat.le_of_ble_eq_true rfl, Nat.le_of_ble_eq_true rfl⟩ ⟨Nat.le_refl _, Nat.le_refl _⟩ hl.1 (Nat.le_of_ble_eq_true rfl) dX11_feed_48 (fun M9 H locs hT h => ?_)
    refine lv_aload_n hx hb dX11_feed_51 rfl (lv_at hl 0 rfl) ?_
    refine fx_getR X h (k := 0) (j := 6) (r := 132) sh_0 rfl fl_RX11_51 dX11_feed_52 ?_
    refine lv_iload hx hb dX11_feed_55 (lv_at hl 5 rfl) ?_
    refine fx_vv X h ym_X7_append yi_X7_append ys_X7_append (fx_s4 (List.mem_of_getElem? (i := 2) rfl) rfl) sh_132 rfl (c_X7_append l G hT) (As := [.int x5]) (rest := []) rfl rfl ⟨Nat.le_of_ble_eq_true rfl, Nat.le_of_ble_eq_true rfl⟩ ⟨Nat.le_refl _, Nat.le_refl _⟩ hl.1 (Nat.le_of_ble_eq_true rfl) dX11_feed_57 (fun M11 H locs hT h => ?_)
    refine lv_aload_n hx hb dX11_feed_60 rfl (lv_at hl 0 rfl) ?_
    refine fx_getR X h (k := 0) (j := 6) (r := 132) sh_0 rfl fl_RX11_51 dX11_feed_61 ?_
    refine fx_getI X h (k := 132) (j := 1) sh_132 rfl fl_RX11_179 dX11_feed_64 ?_
    exact fx_iret X hr hk h hT dX11_feed_67
  · have hT := hT.2 hc1
    refine lv_iconst (v := -1) hx hb dX11_feed_16 (by decide) ?_
    exact fx_iret X hr hk h hT dX11_feed_17
/-! MockParcels.end(I)Z -/
theorem dX11_end_0 : decode cX11_end 0 = .ok (.iload_n 1, 1) := by decide +kernel
theorem dX11_end_1 : decode cX11_end 1 = .ok (.ifCond .lt 14, 3) := by decide +kernel
theorem dX11_end_4 : decode cX11_end 4 = .ok (.iload_n 1, 1) := by decide +kernel
theorem dX11_end_5 : decode cX11_end 5 = .ok (.aload_n 0, 1) := by decide +kernel
theorem dX11_end_6 : decode cX11_end 6 = .ok (.getfield 51, 3) := by decide +kernel
theorem dX11_end_9 : decode cX11_end 9 = .ok (.getfield 179, 3) := by decide +kernel
theorem dX11_end_12 : decode cX11_end 12 = .ok (.if_icmp .le 5, 3) := by decide +kernel
theorem dX11_end_15 : decode cX11_end 15 = .ok (.iconst 0, 1) := by decide +kernel
theorem dX11_end_16 : decode cX11_end 16 = .ok (.ireturn, 1) := by decide +kernel
theorem dX11_end_17 : decode cX11_end 17 = .ok (.aload_n 0, 1) := by decide +kernel
theorem dX11_end_18 : decode cX11_end 18 = .ok (.getfield 51, 3) := by decide +kernel
theorem dX11_end_21 : decode cX11_end 21 = .ok (.iload_n 1, 1) := by decide +kernel
theorem dX11_end_22 : decode cX11_end 22 = .ok (.putfield 179, 3) := by decide +kernel
theorem dX11_end_25 : decode cX11_end 25 = .ok (.iconst 1, 1) := by decide +kernel
theorem dX11_end_26 : decode cX11_end 26 = .ok (.ireturn, 1) := by decide +kernel
def T_X11_end (x1 : Int32) (M : Mm) (K : Int32 → Mm → Prop) : Prop := ((x1 < 0 → (K (0 : Int32) M)) ∧ (¬ x1 < 0 → ((x1 ≤ (M 132 1) → (∀ M3 : Mm, M3 = m_up M 132 1 x1 → (K (1 : Int32) M3))) ∧ (¬ x1 ≤ (M 132 1) → (K (0 : Int32) M)))))
set_option maxHeartbeats 4000000 in
set_option maxRecDepth 100000 in
theorem c_X11_end (l : Launch) (G : fx_G) {x1 : Int32} {M : Mm} {K : Int32 → Mm → Prop} (hT : T_X11_end x1 M K) : Met l yX11_end (fx_ws yX11_end cX11_end 2 (some .boolean)) (fx_rm (0)) (va_Pc [.ref (G.2.2.2 + 0), .int x1] (fx_P G SH M)) (va_Qi K (fx_R G SH) (fx_A G)) 0 0 (fx_A G) := by
  refine fx_met (own := RX11) (by decide +kernel) rfl (Nat.le_of_ble_eq_true rfl) (fun p e s m below meth c X hr hk h ls hl => ?_)
  obtain ⟨⟨hx, hb, hml, hown, hts⟩, hK, hQ⟩ := id X
  have hl : lv_has ls 2 [(0, .ref (G.2.2.2 + 0)), (1, .int x1)] := hl
  unfold T_X11_end at hT
  refine lv_iload_n hx hb dX11_end_0 rfl (lv_at hl 1 rfl) ?_
  refine lv_if_lt (tgt := 15) hx hb dX11_end_1 (by decide) (fun hc1 => ?_) (fun hc1 => ?_)
  · have hT := hT.1 hc1
    refine lv_iconst (v := 0) hx hb dX11_end_15 (by decide) ?_
    exact fx_zret X hr hk h (Or.inl rfl) hT dX11_end_16
  · have hT := hT.2 hc1
    refine lv_iload_n hx hb dX11_end_4 rfl (lv_at hl 1 rfl) ?_
    refine lv_aload_n hx hb dX11_end_5 rfl (lv_at hl 0 rfl) ?_
    refine fx_getR X h (k := 0) (j := 6) (r := 132) sh_0 rfl fl_RX11_51 dX11_end_6 ?_
    refine fx_getI X h (k := 132) (j := 1) sh_132 rfl fl_RX11_179 dX11_end_9 ?_
    refine lv_icmp_le (tgt := 17) hx hb dX11_end_12 (by decide) (fun hc2 => ?_) (fun hc2 => ?_)
    · have hT := hT.1 hc2
      refine lv_aload_n hx hb dX11_end_17 rfl (lv_at hl 0 rfl) ?_
      refine fx_getR X h (k := 0) (j := 6) (r := 132) sh_0 rfl fl_RX11_51 dX11_end_18 ?_
      refine lv_iload_n hx hb dX11_end_21 rfl (lv_at hl 1 rfl) ?_
      refine fx_putI X h (k := 132) (j := 1) sh_132 rfl fl_RX11_179 dX11_end_22 (fun H locs h => ?_)
      obtain ⟨M3, eM3⟩ : ∃ z : Mm, z = m_up M 132 1 x1 := ⟨_, rfl⟩
      have hT := hT M3 eM3
      rw [← eM3] at h
      refine lv_iconst (v := 1) hx hb dX11_end_25 (by decide) ?_
      exact fx_zret X hr hk h (Or.inr rfl) hT dX11_end_26
    · have hT := hT.2 hc2
      refine lv_iconst (v := 0) hx hb dX11_end_15 (by decide) ?_
      exact fx_zret X hr hk h (Or.inl rfl) hT dX11_end_16
/-! MockParcels.takeText(I)V -/
theorem dX11_takeText_0 : decode cX11_takeText 0 = .ok (.iload_n 1, 1) := by decide +kernel
theorem dX11_takeText_1 : decode cX11_takeText 1 = .ok (.ifCond .ne 23, 3) := by decide +kernel
theorem dX11_takeText_4 : decode cX11_takeText 4 = .ok (.aload_n 0, 1) := by decide +kernel
theorem dX11_takeText_5 : decode cX11_takeText 5 = .ok (.getfield 12, 3) := by decide +kernel
theorem dX11_takeText_8 : decode cX11_takeText 8 = .ok (.getfield 202, 3) := by decide +kernel
theorem dX11_takeText_11 : decode cX11_takeText 11 = .ok (.aload_n 0, 1) := by decide +kernel
theorem dX11_takeText_12 : decode cX11_takeText 12 = .ok (.getfield 60, 3) := by decide +kernel
theorem dX11_takeText_15 : decode cX11_takeText 15 = .ok (.getfield 206, 3) := by decide +kernel
theorem dX11_takeText_18 : decode cX11_takeText 18 = .ok (.invokevirtual 207, 3) := by decide +kernel
theorem dX11_takeText_21 : decode cX11_takeText 21 = .ok (.goto 84, 3) := by decide +kernel
theorem dX11_takeText_24 : decode cX11_takeText 24 = .ok (.iload_n 1, 1) := by decide +kernel
theorem dX11_takeText_25 : decode cX11_takeText 25 = .ok (.iconst 1, 1) := by decide +kernel
theorem dX11_takeText_26 : decode cX11_takeText 26 = .ok (.if_icmp .ne 30, 3) := by decide +kernel
theorem dX11_takeText_29 : decode cX11_takeText 29 = .ok (.aload_n 0, 1) := by decide +kernel
theorem dX11_takeText_30 : decode cX11_takeText 30 = .ok (.getfield 12, 3) := by decide +kernel
theorem dX11_takeText_33 : decode cX11_takeText 33 = .ok (.getfield 213, 3) := by decide +kernel
theorem dX11_takeText_36 : decode cX11_takeText 36 = .ok (.aload_n 0, 1) := by decide +kernel
theorem dX11_takeText_37 : decode cX11_takeText 37 = .ok (.getfield 60, 3) := by decide +kernel
theorem dX11_takeText_40 : decode cX11_takeText 40 = .ok (.getfield 217, 3) := by decide +kernel
theorem dX11_takeText_43 : decode cX11_takeText 43 = .ok (.invokevirtual 218, 3) := by decide +kernel
theorem dX11_takeText_46 : decode cX11_takeText 46 = .ok (.aload_n 0, 1) := by decide +kernel
theorem dX11_takeText_47 : decode cX11_takeText 47 = .ok (.getfield 22, 3) := by decide +kernel
theorem dX11_takeText_50 : decode cX11_takeText 50 = .ok (.invokevirtual 85, 3) := by decide +kernel
theorem dX11_takeText_53 : decode cX11_takeText 53 = .ok (.goto 52, 3) := by decide +kernel
theorem dX11_takeText_56 : decode cX11_takeText 56 = .ok (.iload_n 1, 1) := by decide +kernel
theorem dX11_takeText_57 : decode cX11_takeText 57 = .ok (.iconst 2, 1) := by decide +kernel
theorem dX11_takeText_58 : decode cX11_takeText 58 = .ok (.if_icmp .ne 30, 3) := by decide +kernel
theorem dX11_takeText_61 : decode cX11_takeText 61 = .ok (.aload_n 0, 1) := by decide +kernel
theorem dX11_takeText_62 : decode cX11_takeText 62 = .ok (.getfield 12, 3) := by decide +kernel
theorem dX11_takeText_65 : decode cX11_takeText 65 = .ok (.getfield 213, 3) := by decide +kernel
theorem dX11_takeText_68 : decode cX11_takeText 68 = .ok (.aload_n 0, 1) := by decide +kernel
theorem dX11_takeText_69 : decode cX11_takeText 69 = .ok (.getfield 60, 3) := by decide +kernel
theorem dX11_takeText_72 : decode cX11_takeText 72 = .ok (.getfield 217, 3) := by decide +kernel
theorem dX11_takeText_75 : decode cX11_takeText 75 = .ok (.invokevirtual 224, 3) := by decide +kernel
theorem dX11_takeText_78 : decode cX11_takeText 78 = .ok (.aload_n 0, 1) := by decide +kernel
theorem dX11_takeText_79 : decode cX11_takeText 79 = .ok (.getfield 22, 3) := by decide +kernel
theorem dX11_takeText_82 : decode cX11_takeText 82 = .ok (.invokevirtual 85, 3) := by decide +kernel
theorem dX11_takeText_85 : decode cX11_takeText 85 = .ok (.goto 20, 3) := by decide +kernel
theorem dX11_takeText_88 : decode cX11_takeText 88 = .ok (.aload_n 0, 1) := by decide +kernel
theorem dX11_takeText_89 : decode cX11_takeText 89 = .ok (.getfield 12, 3) := by decide +kernel
theorem dX11_takeText_92 : decode cX11_takeText 92 = .ok (.getfield 213, 3) := by decide +kernel
theorem dX11_takeText_95 : decode cX11_takeText 95 = .ok (.aload_n 0, 1) := by decide +kernel
theorem dX11_takeText_96 : decode cX11_takeText 96 = .ok (.getfield 60, 3) := by decide +kernel
theorem dX11_takeText_99 : decode cX11_takeText 99 = .ok (.getfield 217, 3) := by decide +kernel
theorem dX11_takeText_102 : decode cX11_takeText 102 = .ok (.invokevirtual 227, 3) := by decide +kernel
theorem dX11_takeText_105 : decode cX11_takeText 105 = .ok (.return_, 1) := by decide +kernel
def T_X11_takeText (x1 : Int32) (M : Mm) (K : Mm → Prop) : Prop := ((x1 = 0 → (T_X2_copyFrom 16 137 M (fun M15 => (K M15)))) ∧ (¬ x1 = 0 → ((x1 = (1 : Int32) → (T_X5_copyFollows 23 144 M (fun M11 => (T_X4_forget M11 (fun M13 => (K M13)))))) ∧ (¬ x1 = (1 : Int32) → ((x1 = (2 : Int32) → (T_X5_copyWeek 23 144 M (fun M7 => (T_X4_forget M7 (fun M9 => (K M9)))))) ∧ (¬ x1 = (2 : Int32) → (T_X5_copyWants 23 144 M (fun M5 => (K M5)))))))))
set_option maxHeartbeats 4000000 in
set_option maxRecDepth 100000 in
theorem c_X11_takeText (l : Launch) (G : fx_G) {x1 : Int32} {M : Mm} {K : Mm → Prop} (hT : T_X11_takeText x1 M K) : Met l yX11_takeText (fx_ws yX11_takeText cX11_takeText 2 none) (fx_rm (2)) (va_Pc [.ref (G.2.2.2 + 0), .int x1] (fx_P G SH M)) (va_Qv K (fx_R G SH) (fx_A G)) 0 0 (fx_A G) := by
  refine fx_met (own := RX11) (by decide +kernel) rfl (Nat.le_of_ble_eq_true rfl) (fun p e s m below meth c X hr hk h ls hl => ?_)
  obtain ⟨⟨hx, hb, hml, hown, hts⟩, hK, hQ⟩ := id X
  have hl : lv_has ls 2 [(0, .ref (G.2.2.2 + 0)), (1, .int x1)] := hl
  unfold T_X11_takeText at hT
  refine lv_iload_n hx hb dX11_takeText_0 rfl (lv_at hl 1 rfl) ?_
  refine lv_if_ne (tgt := 24) hx hb dX11_takeText_1 (by decide) (fun hc1 => ?_) (fun hc1 => ?_)
  · have hT := hT.2 hc1
    refine lv_iload_n hx hb dX11_takeText_24 rfl (lv_at hl 1 rfl) ?_
    refine lv_iconst (v := 1) hx hb dX11_takeText_25 (by decide) ?_
    refine lv_icmp_ne (tgt := 56) hx hb dX11_takeText_26 (by decide) (fun hc2 => ?_) (fun hc2 => ?_)
    · have hT := hT.2 hc2
      refine lv_iload_n hx hb dX11_takeText_56 rfl (lv_at hl 1 rfl) ?_
      refine lv_iconst (v := 2) hx hb dX11_takeText_57 (by decide) ?_
      refine lv_icmp_ne (tgt := 88) hx hb dX11_takeText_58 (by decide) (fun hc3 => ?_) (fun hc3 => ?_)
      · have hT := hT.2 hc3
        refine lv_aload_n hx hb dX11_takeText_88 rfl (lv_at hl 0 rfl) ?_
        refine fx_getR X h (k := 0) (j := 0) (r := 1) sh_0 rfl fl_RX11_12 dX11_takeText_89 ?_
        refine fx_getR X h (k := 1) (j := 4) (r := 23) sh_1 rfl fl_RX11_213 dX11_takeText_92 ?_
        refine lv_aload_n hx hb dX11_takeText_95 rfl (lv_at hl 0 rfl) ?_
        refine fx_getR X h (k := 0) (j := 7) (r := 136) sh_0 rfl fl_RX11_60 dX11_takeText_96 ?_
        refine fx_getR X h (k := 136) (j := 1) (r := 144) sh_136 rfl fl_RX11_217 dX11_takeText_99 ?_
        refine fx_vv X h ym_X5_copyWants yi_X5_copyWants ys_X5_copyWants (fx_s5 (List.mem_of_getElem? (i := 26) rfl) rfl) sh_23 rfl (c_X5_copyWants l G (by decide) (by decide) hT) (As := [.ref (G.2.2.2 + 144)]) (rest := []) rfl rfl ⟨Nat.le_of_ble_eq_true rfl, Nat.le_of_ble_eq_true rfl⟩ ⟨Nat.le_refl _, Nat.le_refl _⟩ hl.1 (Nat.le_of_ble_eq_true rfl) dX11_takeText_102 (fun M5 H locs hT h => ?_)
        exact fx_vret X hr hk h hT dX11_takeText_105
      · have hT := hT.1 hc3
        refine lv_aload_n hx hb dX11_takeText_61 rfl (lv_at hl 0 rfl) ?_
        refine fx_getR X h (k := 0) (j := 0) (r := 1) sh_0 rfl fl_RX11_12 dX11_takeText_62 ?_
        refine fx_getR X h (k := 1) (j := 4) (r := 23) sh_1 rfl fl_RX11_213 dX11_takeText_65 ?_
        refine lv_aload_n hx hb dX11_takeText_68 rfl (lv_at hl 0 rfl) ?_
        refine fx_getR X h (k := 0) (j := 7) (r := 136) sh_0 rfl fl_RX11_60 dX11_takeText_69 ?_
        refine fx_getR X h (k := 136) (j := 1) (r := 144) sh_136 rfl fl_RX11_217 dX11_takeText_72 ?_
        refine fx_vv X h ym_X5_copyWeek yi_X5_copyWeek ys_X5_copyWeek (fx_s5 (List.mem_of_getElem? (i := 22) rfl) rfl) sh_23 rfl (c_X5_copyWeek l G (by decide) (by decide) hT) (As := [.ref (G.2.2.2 + 144)]) (rest := []) rfl rfl ⟨Nat.le_of_ble_eq_true rfl, Nat.le_of_ble_eq_true rfl⟩ ⟨Nat.le_refl _, Nat.le_refl _⟩ hl.1 (Nat.le_of_ble_eq_true rfl) dX11_takeText_75 (fun M7 H locs hT h => ?_)
        refine lv_aload_n hx hb dX11_takeText_78 rfl (lv_at hl 0 rfl) ?_
        refine fx_getR X h (k := 0) (j := 2) (r := 79) sh_0 rfl fl_RX11_22 dX11_takeText_79 ?_
        refine fx_vv X h ym_X4_forget yi_X4_forget ys_X4_forget (fx_s3 (List.mem_of_getElem? (i := 56) rfl) rfl) sh_79 rfl (c_X4_forget l G hT) (As := []) (rest := []) rfl rfl ⟨Nat.le_of_ble_eq_true rfl, Nat.le_of_ble_eq_true rfl⟩ ⟨Nat.le_refl _, Nat.le_refl _⟩ hl.1 (Nat.le_of_ble_eq_true rfl) dX11_takeText_82 (fun M9 H locs hT h => ?_)
        refine lv_goto (tgt := 105) hx hb dX11_takeText_85 (by decide) ?_
        exact fx_vret X hr hk h hT dX11_takeText_105
    · have hT := hT.1 hc2
      refine lv_aload_n hx hb dX11_takeText_29 rfl (lv_at hl 0 rfl) ?_
      refine fx_getR X h (k := 0) (j := 0) (r := 1) sh_0 rfl fl_RX11_12 dX11_takeText_30 ?_
      refine fx_getR X h (k := 1) (j := 4) (r := 23) sh_1 rfl fl_RX11_213 dX11_takeText_33 ?_
      refine lv_aload_n hx hb dX11_takeText_36 rfl (lv_at hl 0 rfl) ?_
      refine fx_getR X h (k := 0) (j := 7) (r := 136) sh_0 rfl fl_RX11_60 dX11_takeText_37 ?_
      refine fx_getR X h (k := 136) (j := 1) (r := 144) sh_136 rfl fl_RX11_217 dX11_takeText_40 ?_
      refine fx_vv X h ym_X5_copyFollows yi_X5_copyFollows ys_X5_copyFollows (fx_s5 (List.mem_of_getElem? (i := 17) rfl) rfl) sh_23 rfl (c_X5_copyFollows l G (by decide) (by decide) hT) (As := [.ref (G.2.2.2 + 144)]) (rest := []) rfl rfl ⟨Nat.le_of_ble_eq_true rfl, Nat.le_of_ble_eq_true rfl⟩ ⟨Nat.le_refl _, Nat.le_refl _⟩ hl.1 (Nat.le_of_ble_eq_true rfl) dX11_takeText_43 (fun M11 H locs hT h => ?_)
      refine lv_aload_n hx hb dX11_takeText_46 rfl (lv_at hl 0 rfl) ?_
      refine fx_getR X h (k := 0) (j := 2) (r := 79) sh_0 rfl fl_RX11_22 dX11_takeText_47 ?_
      refine fx_vv X h ym_X4_forget yi_X4_forget ys_X4_forget (fx_s3 (List.mem_of_getElem? (i := 56) rfl) rfl) sh_79 rfl (c_X4_forget l G hT) (As := []) (rest := []) rfl rfl ⟨Nat.le_of_ble_eq_true rfl, Nat.le_of_ble_eq_true rfl⟩ ⟨Nat.le_refl _, Nat.le_refl _⟩ hl.1 (Nat.le_of_ble_eq_true rfl) dX11_takeText_50 (fun M13 H locs hT h => ?_)
      refine lv_goto (tgt := 105) hx hb dX11_takeText_53 (by decide) ?_
      exact fx_vret X hr hk h hT dX11_takeText_105
  · have hT := hT.1 hc1
    refine lv_aload_n hx hb dX11_takeText_4 rfl (lv_at hl 0 rfl) ?_
    refine fx_getR X h (k := 0) (j := 0) (r := 1) sh_0 rfl fl_RX11_12 dX11_takeText_5 ?_
    refine fx_getR X h (k := 1) (j := 3) (r := 16) sh_1 rfl fl_RX11_202 dX11_takeText_8 ?_
    refine lv_aload_n hx hb dX11_takeText_11 rfl (lv_at hl 0 rfl) ?_
    refine fx_getR X h (k := 0) (j := 7) (r := 136) sh_0 rfl fl_RX11_60 dX11_takeText_12 ?_
    refine fx_getR X h (k := 136) (j := 0) (r := 137) sh_136 rfl fl_RX11_206 dX11_takeText_15 ?_
    refine fx_vv X h ym_X2_copyFrom yi_X2_copyFrom ys_X2_copyFrom (fx_s5 (List.mem_of_getElem? (i := 12) rfl) rfl) sh_16 rfl (c_X2_copyFrom l G (by decide) (by decide) hT) (As := [.ref (G.2.2.2 + 137)]) (rest := []) rfl rfl ⟨Nat.le_of_ble_eq_true rfl, Nat.le_of_ble_eq_true rfl⟩ ⟨Nat.le_refl _, Nat.le_refl _⟩ hl.1 (Nat.le_of_ble_eq_true rfl) dX11_takeText_18 (fun M15 H locs hT h => ?_)
    refine lv_goto (tgt := 105) hx hb dX11_takeText_21 (by decide) ?_
    exact fx_vret X hr hk h hT dX11_takeText_105
/-! MockParcels.fault(I)I -/
theorem dX11_fault_0 : decode cX11_fault 0 = .ok (.iload_n 1, 1) := by decide +kernel
theorem dX11_fault_1 : decode cX11_fault 1 = .ok (.ifCond .ne 8, 3) := by decide +kernel
theorem dX11_fault_4 : decode cX11_fault 4 = .ok (.aload_n 0, 1) := by decide +kernel
theorem dX11_fault_5 : decode cX11_fault 5 = .ok (.getfield 75, 3) := by decide +kernel
theorem dX11_fault_8 : decode cX11_fault 8 = .ok (.ireturn, 1) := by decide +kernel
theorem dX11_fault_9 : decode cX11_fault 9 = .ok (.iload_n 1, 1) := by decide +kernel
theorem dX11_fault_10 : decode cX11_fault 10 = .ok (.iconst 1, 1) := by decide +kernel
theorem dX11_fault_11 : decode cX11_fault 11 = .ok (.if_icmp .ne 10, 3) := by decide +kernel
theorem dX11_fault_14 : decode cX11_fault 14 = .ok (.aload_n 0, 1) := by decide +kernel
theorem dX11_fault_15 : decode cX11_fault 15 = .ok (.getfield 79, 3) := by decide +kernel
theorem dX11_fault_18 : decode cX11_fault 18 = .ok (.goto 4, 3) := by decide +kernel
theorem dX11_fault_21 : decode cX11_fault 21 = .ok (.iconst (-1), 1) := by decide +kernel
theorem dX11_fault_22 : decode cX11_fault 22 = .ok (.ireturn, 1) := by decide +kernel
def T_X11_fault (x1 : Int32) (M : Mm) (K : Int32 → Mm → Prop) : Prop := ((x1 = 0 → (K (M 0 10) M)) ∧ (¬ x1 = 0 → ((x1 = (1 : Int32) → (K (M 0 11) M)) ∧ (¬ x1 = (1 : Int32) → (K (-1 : Int32) M)))))
set_option maxHeartbeats 4000000 in
set_option maxRecDepth 100000 in
theorem c_X11_fault (l : Launch) (G : fx_G) {x1 : Int32} {M : Mm} {K : Int32 → Mm → Prop} (hT : T_X11_fault x1 M K) : Met l yX11_fault (fx_ws yX11_fault cX11_fault 2 (some .int)) (fx_rm (0)) (va_Pc [.ref (G.2.2.2 + 0), .int x1] (fx_P G SH M)) (va_Qi K (fx_R G SH) (fx_A G)) 0 0 (fx_A G) := by
  refine fx_met (own := RX11) (by decide +kernel) rfl (Nat.le_of_ble_eq_true rfl) (fun p e s m below meth c X hr hk h ls hl => ?_)
  obtain ⟨⟨hx, hb, hml, hown, hts⟩, hK, hQ⟩ := id X
  have hl : lv_has ls 2 [(0, .ref (G.2.2.2 + 0)), (1, .int x1)] := hl
  unfold T_X11_fault at hT
  refine lv_iload_n hx hb dX11_fault_0 rfl (lv_at hl 1 rfl) ?_
  refine lv_if_ne (tgt := 9) hx hb dX11_fault_1 (by decide) (fun hc1 => ?_) (fun hc1 => ?_)
  · have hT := hT.2 hc1
    refine lv_iload_n hx hb dX11_fault_9 rfl (lv_at hl 1 rfl) ?_
    refine lv_iconst (v := 1) hx hb dX11_fault_10 (by decide) ?_
    refine lv_icmp_ne (tgt := 21) hx hb dX11_fault_11 (by decide) (fun hc2 => ?_) (fun hc2 => ?_)
    · have hT := hT.2 hc2
      refine lv_iconst (v := -1) hx hb dX11_fault_21 (by decide) ?_
      exact fx_iret X hr hk h hT dX11_fault_22
    · have hT := hT.1 hc2
      refine lv_aload_n hx hb dX11_fault_14 rfl (lv_at hl 0 rfl) ?_
      refine fx_getI X h (k := 0) (j := 11) sh_0 rfl fl_RX11_79 dX11_fault_15 ?_
      refine lv_goto (tgt := 22) hx hb dX11_fault_18 (by decide) ?_
      exact fx_iret X hr hk h hT dX11_fault_22
  · have hT := hT.1 hc1
    refine lv_aload_n hx hb dX11_fault_4 rfl (lv_at hl 0 rfl) ?_
    refine fx_getI X h (k := 0) (j := 10) sh_0 rfl fl_RX11_75 dX11_fault_5 ?_
    exact fx_iret X hr hk h hT dX11_fault_8
/-! MockParcels.lawOf(II)I -/
theorem dX11_lawOf_0 : decode cX11_lawOf 0 = .ok (.iload_n 2, 1) := by decide +kernel
theorem dX11_lawOf_1 : decode cX11_lawOf 1 = .ok (.bipush 10, 2) := by decide +kernel
theorem dX11_lawOf_3 : decode cX11_lawOf 3 = .ok (.bipush 39, 2) := by decide +kernel
theorem dX11_lawOf_5 : decode cX11_lawOf 5 = .ok (.invokestatic 88, 3) := by decide +kernel
theorem dX11_lawOf_8 : decode cX11_lawOf 8 = .ok (.ifCond .eq 20, 3) := by decide +kernel
theorem dX11_lawOf_11 : decode cX11_lawOf 11 = .ok (.aload_n 0, 1) := by decide +kernel
theorem dX11_lawOf_12 : decode cX11_lawOf 12 = .ok (.getfield 12, 3) := by decide +kernel
theorem dX11_lawOf_15 : decode cX11_lawOf 15 = .ok (.getfield 92, 3) := by decide +kernel
theorem dX11_lawOf_18 : decode cX11_lawOf 18 = .ok (.iload_n 2, 1) := by decide +kernel
theorem dX11_lawOf_19 : decode cX11_lawOf 19 = .ok (.bipush 10, 2) := by decide +kernel
theorem dX11_lawOf_21 : decode cX11_lawOf 21 = .ok (.irem, 1) := by decide +kernel
theorem dX11_lawOf_22 : decode cX11_lawOf 22 = .ok (.invokevirtual 134, 3) := by decide +kernel
theorem dX11_lawOf_25 : decode cX11_lawOf 25 = .ok (.ifCond .ne 6, 3) := by decide +kernel
theorem dX11_lawOf_28 : decode cX11_lawOf 28 = .ok (.bipush (-2), 2) := by decide +kernel
theorem dX11_lawOf_30 : decode cX11_lawOf 30 = .ok (.ireturn, 1) := by decide +kernel
theorem dX11_lawOf_31 : decode cX11_lawOf 31 = .ok (.aload_n 0, 1) := by decide +kernel
theorem dX11_lawOf_32 : decode cX11_lawOf 32 = .ok (.getfield 41, 3) := by decide +kernel
theorem dX11_lawOf_35 : decode cX11_lawOf 35 = .ok (.iload_n 1, 1) := by decide +kernel
theorem dX11_lawOf_36 : decode cX11_lawOf 36 = .ok (.iload_n 2, 1) := by decide +kernel
theorem dX11_lawOf_37 : decode cX11_lawOf 37 = .ok (.bipush 10, 2) := by decide +kernel
theorem dX11_lawOf_39 : decode cX11_lawOf 39 = .ok (.irem, 1) := by decide +kernel
theorem dX11_lawOf_40 : decode cX11_lawOf 40 = .ok (.iconst 0, 1) := by decide +kernel
theorem dX11_lawOf_41 : decode cX11_lawOf 41 = .ok (.iconst 0, 1) := by decide +kernel
theorem dX11_lawOf_42 : decode cX11_lawOf 42 = .ok (.invokevirtual 245, 3) := by decide +kernel
theorem dX11_lawOf_45 : decode cX11_lawOf 45 = .ok (.aload_n 0, 1) := by decide +kernel
theorem dX11_lawOf_46 : decode cX11_lawOf 46 = .ok (.getfield 12, 3) := by decide +kernel
theorem dX11_lawOf_49 : decode cX11_lawOf 49 = .ok (.getfield 202, 3) := by decide +kernel
theorem dX11_lawOf_52 : decode cX11_lawOf 52 = .ok (.sipush 256, 3) := by decide +kernel
theorem dX11_lawOf_55 : decode cX11_lawOf 55 = .ok (.iload_n 2, 1) := by decide +kernel
theorem dX11_lawOf_56 : decode cX11_lawOf 56 = .ok (.bipush 10, 2) := by decide +kernel
theorem dX11_lawOf_58 : decode cX11_lawOf 58 = .ok (.idiv, 1) := by decide +kernel
theorem dX11_lawOf_59 : decode cX11_lawOf 59 = .ok (.iadd, 1) := by decide +kernel
theorem dX11_lawOf_60 : decode cX11_lawOf 60 = .ok (.iconst 1, 1) := by decide +kernel
theorem dX11_lawOf_61 : decode cX11_lawOf 61 = .ok (.isub, 1) := by decide +kernel
theorem dX11_lawOf_62 : decode cX11_lawOf 62 = .ok (.invokevirtual 249, 3) := by decide +kernel
theorem dX11_lawOf_65 : decode cX11_lawOf 65 = .ok (.ireturn, 1) := by decide +kernel
def T_X11_lawOf (x1 : Int32) (x2 : Int32) (M : Mm) (K : Int32 → Mm → Prop) : Prop := (T_X11_isWithin x2 (10 : Int32) (39 : Int32) M (fun r3 M2 => ((r3 = 0 → (K (-2 : Int32) M2)) ∧ (¬ r3 = 0 → (T_X1_hasBidder 2 (x2 - x2 / (10 : Int32) * (10 : Int32)) M2 (fun r7 M6 => ((r7 = 0 → (K (-2 : Int32) M6)) ∧ (¬ r7 = 0 → (T_X0_setScene 130 x1 (x2 - x2 / (10 : Int32) * (10 : Int32)) (0 : Int32) (0 : Int32) M6 (fun M10 => (T_X2_tell 16 (((256 : Int32) + (x2 / (10 : Int32))) - (1 : Int32)) M10 (fun r13 M12 => (K r13 M12)))))))))))))
set_option maxHeartbeats 4000000 in
set_option maxRecDepth 100000 in
theorem c_X11_lawOf (l : Launch) (G : fx_G) {x1 : Int32} {x2 : Int32} {M : Mm} {K : Int32 → Mm → Prop} (hT : T_X11_lawOf x1 x2 M K) : Met l yX11_lawOf (fx_ws yX11_lawOf cX11_lawOf 3 (some .int)) (fx_rm (3)) (va_Pc [.ref (G.2.2.2 + 0), .int x1, .int x2] (fx_P G SH M)) (va_Qi K (fx_R G SH) (fx_A G)) 0 0 (fx_A G) := by
  refine fx_met (own := RX11) (by decide +kernel) rfl (Nat.le_of_ble_eq_true rfl) (fun p e s m below meth c X hr hk h ls hl => ?_)
  obtain ⟨⟨hx, hb, hml, hown, hts⟩, hK, hQ⟩ := id X
  have hl : lv_has ls 3 [(0, .ref (G.2.2.2 + 0)), (1, .int x1), (2, .int x2)] := hl
  unfold T_X11_lawOf at hT
  refine lv_iload_n hx hb dX11_lawOf_0 rfl (lv_at hl 2 rfl) ?_
  refine lv_bipush (v := 10) hx hb dX11_lawOf_1 (by decide) ?_
  refine lv_bipush (v := 39) hx hb dX11_lawOf_3 (by decide) ?_
  refine fx_si X h ym_X11_isWithin yt_X11_isWithin (fx_s3 (List.mem_of_getElem? (i := 64) rfl) rfl) (c_X11_isWithin l G hT) (As := [.int x2, .int (10 : Int32), .int (39 : Int32)]) (rest := []) rfl rfl ⟨Nat.le_of_ble_eq_true rfl, Nat.le_of_ble_eq_true rfl⟩ ⟨Nat.le_refl _, Nat.le_refl _⟩ hl.1 (Nat.le_of_ble_eq_true rfl) dX11_lawOf_5 (fun r3 M2 H locs hT h => ?_)
  refine lv_if_eq (tgt := 28) hx hb dX11_lawOf_8 (by decide) (fun hc4 => ?_) (fun hc4 => ?_)
  · have hT := hT.1 hc4
    refine lv_bipush (v := -2) hx hb dX11_lawOf_28 (by decide) ?_
    exact fx_iret X hr hk h hT dX11_lawOf_30
  · have hT := hT.2 hc4
    refine lv_aload_n hx hb dX11_lawOf_11 rfl (lv_at hl 0 rfl) ?_
    refine fx_getR X h (k := 0) (j := 0) (r := 1) sh_0 rfl fl_RX11_12 dX11_lawOf_12 ?_
    refine fx_getR X h (k := 1) (j := 0) (r := 2) sh_1 rfl fl_RX11_92 dX11_lawOf_15 ?_
    refine lv_iload_n hx hb dX11_lawOf_18 rfl (lv_at hl 2 rfl) ?_
    refine lv_bipush (v := 10) hx hb dX11_lawOf_19 (by decide) ?_
    refine lv_irem hx hb dX11_lawOf_21 (by decide) ?_
    refine fx_vi X h ym_X1_hasBidder yi_X1_hasBidder ys_X1_hasBidder (fx_s3 (List.mem_of_getElem? (i := 87) rfl) rfl) sh_2 rfl (c_X1_hasBidder l G (by decide) hT) (As := [.int (x2 - x2 / (10 : Int32) * (10 : Int32))]) (rest := []) rfl rfl ⟨Nat.le_of_ble_eq_true rfl, Nat.le_of_ble_eq_true rfl⟩ ⟨Nat.le_refl _, Nat.le_refl _⟩ hl.1 (Nat.le_of_ble_eq_true rfl) dX11_lawOf_22 (fun r7 M6 H locs hT h => ?_)
    refine lv_if_ne (tgt := 31) hx hb dX11_lawOf_25 (by decide) (fun hc8 => ?_) (fun hc8 => ?_)
    · have hT := hT.2 hc8
      refine lv_aload_n hx hb dX11_lawOf_31 rfl (lv_at hl 0 rfl) ?_
      refine fx_getR X h (k := 0) (j := 4) (r := 130) sh_0 rfl fl_RX11_41 dX11_lawOf_32 ?_
      refine lv_iload_n hx hb dX11_lawOf_35 rfl (lv_at hl 1 rfl) ?_
      refine lv_iload_n hx hb dX11_lawOf_36 rfl (lv_at hl 2 rfl) ?_
      refine lv_bipush (v := 10) hx hb dX11_lawOf_37 (by decide) ?_
      refine lv_irem hx hb dX11_lawOf_39 (by decide) ?_
      refine lv_iconst (v := 0) hx hb dX11_lawOf_40 (by decide) ?_
      refine lv_iconst (v := 0) hx hb dX11_lawOf_41 (by decide) ?_
      refine fx_vv X h ym_X0_setScene yi_X0_setScene ys_X0_setScene (fx_s5 (List.mem_of_getElem? (i := 43) rfl) rfl) sh_130 rfl (c_X0_setScene l G (by decide) hT) (As := [.int x1, .int (x2 - x2 / (10 : Int32) * (10 : Int32)), .int (0 : Int32), .int (0 : Int32)]) (rest := []) rfl rfl ⟨Nat.le_of_ble_eq_true rfl, Nat.le_of_ble_eq_true rfl⟩ ⟨Nat.le_refl _, Nat.le_refl _⟩ hl.1 (Nat.le_of_ble_eq_true rfl) dX11_lawOf_42 (fun M10 H locs hT h => ?_)
      refine lv_aload_n hx hb dX11_lawOf_45 rfl (lv_at hl 0 rfl) ?_
      refine fx_getR X h (k := 0) (j := 0) (r := 1) sh_0 rfl fl_RX11_12 dX11_lawOf_46 ?_
      refine fx_getR X h (k := 1) (j := 3) (r := 16) sh_1 rfl fl_RX11_202 dX11_lawOf_49 ?_
      refine lv_sipush (v := 256) hx hb dX11_lawOf_52 (by decide) ?_
      refine lv_iload_n hx hb dX11_lawOf_55 rfl (lv_at hl 2 rfl) ?_
      refine lv_bipush (v := 10) hx hb dX11_lawOf_56 (by decide) ?_
      refine lv_idiv hx hb dX11_lawOf_58 (by decide) ?_
      refine lv_iadd hx hb dX11_lawOf_59 ?_
      refine lv_iconst (v := 1) hx hb dX11_lawOf_60 (by decide) ?_
      refine lv_isub hx hb dX11_lawOf_61 ?_
      refine fx_vi X h ym_X2_tell yi_X2_tell ys_X2_tell (fx_s5 (List.mem_of_getElem? (i := 44) rfl) rfl) sh_16 rfl (c_X2_tell l G (by decide) hT) (As := [.int (((256 : Int32) + (x2 / (10 : Int32))) - (1 : Int32))]) (rest := []) rfl rfl ⟨Nat.le_of_ble_eq_true rfl, Nat.le_of_ble_eq_true rfl⟩ ⟨Nat.le_refl _, Nat.le_refl _⟩ hl.1 (Nat.le_of_ble_eq_true rfl) dX11_lawOf_62 (fun r13 M12 H locs hT h => ?_)
      exact fx_iret X hr hk h hT dX11_lawOf_65
    · have hT := hT.1 hc8
      refine lv_bipush (v := -2) hx hb dX11_lawOf_28 (by decide) ?_
      exact fx_iret X hr hk h hT dX11_lawOf_30
/-! MockParcels.of(II)I -/
theorem dX11_of_0 : decode cX11_of 0 = .ok (.aload_n 0, 1) := by decide +kernel
theorem dX11_of_1 : decode cX11_of 1 = .ok (.getfield 12, 3) := by decide +kernel
theorem dX11_of_4 : decode cX11_of 4 = .ok (.getfield 92, 3) := by decide +kernel
theorem dX11_of_7 : decode cX11_of 7 = .ok (.iload_n 1, 1) := by decide +kernel
theorem dX11_of_8 : decode cX11_of 8 = .ok (.invokevirtual 138, 3) := by decide +kernel
theorem dX11_of_11 : decode cX11_of 11 = .ok (.ifCond .ne 6, 3) := by decide +kernel
theorem dX11_of_14 : decode cX11_of 14 = .ok (.bipush (-2), 2) := by decide +kernel
theorem dX11_of_16 : decode cX11_of 16 = .ok (.ireturn, 1) := by decide +kernel
theorem dX11_of_17 : decode cX11_of 17 = .ok (.iload_n 2, 1) := by decide +kernel
theorem dX11_of_18 : decode cX11_of 18 = .ok (.tableswitch 116 0 5 #[38, 51, 64, 77, 90, 103], 38) := by decide +kernel
theorem dX11_of_56 : decode cX11_of 56 = .ok (.aload_n 0, 1) := by decide +kernel
theorem dX11_of_57 : decode cX11_of 57 = .ok (.getfield 12, 3) := by decide +kernel
theorem dX11_of_60 : decode cX11_of 60 = .ok (.getfield 92, 3) := by decide +kernel
theorem dX11_of_63 : decode cX11_of 63 = .ok (.getfield 230, 3) := by decide +kernel
theorem dX11_of_66 : decode cX11_of 66 = .ok (.iload_n 1, 1) := by decide +kernel
theorem dX11_of_67 : decode cX11_of 67 = .ok (.iaload, 1) := by decide +kernel
theorem dX11_of_68 : decode cX11_of 68 = .ok (.ireturn, 1) := by decide +kernel
theorem dX11_of_69 : decode cX11_of 69 = .ok (.aload_n 0, 1) := by decide +kernel
theorem dX11_of_70 : decode cX11_of 70 = .ok (.getfield 12, 3) := by decide +kernel
theorem dX11_of_73 : decode cX11_of 73 = .ok (.getfield 92, 3) := by decide +kernel
theorem dX11_of_76 : decode cX11_of 76 = .ok (.getfield 233, 3) := by decide +kernel
theorem dX11_of_79 : decode cX11_of 79 = .ok (.iload_n 1, 1) := by decide +kernel
theorem dX11_of_80 : decode cX11_of 80 = .ok (.iaload, 1) := by decide +kernel
theorem dX11_of_81 : decode cX11_of 81 = .ok (.ireturn, 1) := by decide +kernel
theorem dX11_of_82 : decode cX11_of 82 = .ok (.aload_n 0, 1) := by decide +kernel
theorem dX11_of_83 : decode cX11_of 83 = .ok (.getfield 12, 3) := by decide +kernel
theorem dX11_of_86 : decode cX11_of 86 = .ok (.getfield 92, 3) := by decide +kernel
theorem dX11_of_89 : decode cX11_of 89 = .ok (.getfield 128, 3) := by decide +kernel
theorem dX11_of_92 : decode cX11_of 92 = .ok (.iload_n 1, 1) := by decide +kernel
theorem dX11_of_93 : decode cX11_of 93 = .ok (.iaload, 1) := by decide +kernel
theorem dX11_of_94 : decode cX11_of 94 = .ok (.ireturn, 1) := by decide +kernel
theorem dX11_of_95 : decode cX11_of 95 = .ok (.aload_n 0, 1) := by decide +kernel
theorem dX11_of_96 : decode cX11_of 96 = .ok (.getfield 12, 3) := by decide +kernel
theorem dX11_of_99 : decode cX11_of 99 = .ok (.getfield 35, 3) := by decide +kernel
theorem dX11_of_102 : decode cX11_of 102 = .ok (.getfield 236, 3) := by decide +kernel
theorem dX11_of_105 : decode cX11_of 105 = .ok (.iload_n 1, 1) := by decide +kernel
theorem dX11_of_106 : decode cX11_of 106 = .ok (.iaload, 1) := by decide +kernel
theorem dX11_of_107 : decode cX11_of 107 = .ok (.ireturn, 1) := by decide +kernel
theorem dX11_of_108 : decode cX11_of 108 = .ok (.aload_n 0, 1) := by decide +kernel
theorem dX11_of_109 : decode cX11_of 109 = .ok (.getfield 12, 3) := by decide +kernel
theorem dX11_of_112 : decode cX11_of 112 = .ok (.getfield 35, 3) := by decide +kernel
theorem dX11_of_115 : decode cX11_of 115 = .ok (.getfield 239, 3) := by decide +kernel
theorem dX11_of_118 : decode cX11_of 118 = .ok (.iload_n 1, 1) := by decide +kernel
theorem dX11_of_119 : decode cX11_of 119 = .ok (.iaload, 1) := by decide +kernel
theorem dX11_of_120 : decode cX11_of 120 = .ok (.ireturn, 1) := by decide +kernel
theorem dX11_of_121 : decode cX11_of 121 = .ok (.aload_n 0, 1) := by decide +kernel
theorem dX11_of_122 : decode cX11_of 122 = .ok (.getfield 12, 3) := by decide +kernel
theorem dX11_of_125 : decode cX11_of 125 = .ok (.getfield 35, 3) := by decide +kernel
theorem dX11_of_128 : decode cX11_of 128 = .ok (.getfield 131, 3) := by decide +kernel
theorem dX11_of_131 : decode cX11_of 131 = .ok (.iload_n 1, 1) := by decide +kernel
theorem dX11_of_132 : decode cX11_of 132 = .ok (.iaload, 1) := by decide +kernel
theorem dX11_of_133 : decode cX11_of 133 = .ok (.ireturn, 1) := by decide +kernel
theorem dX11_of_134 : decode cX11_of 134 = .ok (.aload_n 0, 1) := by decide +kernel
theorem dX11_of_135 : decode cX11_of 135 = .ok (.iload_n 1, 1) := by decide +kernel
theorem dX11_of_136 : decode cX11_of 136 = .ok (.iload_n 2, 1) := by decide +kernel
theorem dX11_of_137 : decode cX11_of 137 = .ok (.invokevirtual 242, 3) := by decide +kernel
theorem dX11_of_140 : decode cX11_of 140 = .ok (.ireturn, 1) := by decide +kernel
def T_X11_of (x1 : Int32) (x2 : Int32) (M : Mm) (K : Int32 → Mm → Prop) : Prop := (T_X1_hasParcel 2 x1 M (fun r3 M2 => ((r3 = 0 → (K (-2 : Int32) M2)) ∧ (¬ r3 = 0 → ((x2 = (0 : Int32) → (vp_in x1 16 ∧ (K (M2 3 (x1).toNatClampNeg) M2))) ∧ (¬ x2 = (0 : Int32) → ((x2 = (1 : Int32) → (vp_in x1 16 ∧ (K (M2 4 (x1).toNatClampNeg) M2))) ∧ (¬ x2 = (1 : Int32) → ((x2 = (2 : Int32) → (vp_in x1 16 ∧ (K (M2 5 (x1).toNatClampNeg) M2))) ∧ (¬ x2 = (2 : Int32) → ((x2 = (3 : Int32) → (vp_in x1 16 ∧ (K (M2 9 (x1).toNatClampNeg) M2))) ∧ (¬ x2 = (3 : Int32) → ((x2 = (4 : Int32) → (vp_in x1 16 ∧ (K (M2 10 (x1).toNatClampNeg) M2))) ∧ (¬ x2 = (4 : Int32) → ((x2 = (5 : Int32) → (vp_in x1 16 ∧ (K (M2 11 (x1).toNatClampNeg) M2))) ∧ (¬ x2 = (5 : Int32) → (T_X11_lawOf x1 x2 M2 (fun r19 M18 => (K r19 M18)))))))))))))))))))
set_option maxHeartbeats 4000000 in
set_option maxRecDepth 100000 in
theorem c_X11_of (l : Launch) (G : fx_G) {x1 : Int32} {x2 : Int32} {M : Mm} {K : Int32 → Mm → Prop} (hT : T_X11_of x1 x2 M K) : Met l yX11_of (fx_ws yX11_of cX11_of 3 (some .int)) (fx_rm (4)) (va_Pc [.ref (G.2.2.2 + 0), .int x1, .int x2] (fx_P G SH M)) (va_Qi K (fx_R G SH) (fx_A G)) 0 0 (fx_A G) := by
  refine fx_met (own := RX11) (by decide +kernel) rfl (Nat.le_of_ble_eq_true rfl) (fun p e s m below meth c X hr hk h ls hl => ?_)
  obtain ⟨⟨hx, hb, hml, hown, hts⟩, hK, hQ⟩ := id X
  have hl : lv_has ls 3 [(0, .ref (G.2.2.2 + 0)), (1, .int x1), (2, .int x2)] := hl
  unfold T_X11_of at hT
  refine lv_aload_n hx hb dX11_of_0 rfl (lv_at hl 0 rfl) ?_
  refine fx_getR X h (k := 0) (j := 0) (r := 1) sh_0 rfl fl_RX11_12 dX11_of_1 ?_
  refine fx_getR X h (k := 1) (j := 0) (r := 2) sh_1 rfl fl_RX11_92 dX11_of_4 ?_
  refine lv_iload_n hx hb dX11_of_7 rfl (lv_at hl 1 rfl) ?_
  refine fx_vi X h ym_X1_hasParcel yi_X1_hasParcel ys_X1_hasParcel (fx_s3 (List.mem_of_getElem? (i := 91) rfl) rfl) sh_2 rfl (c_X1_hasParcel l G (by decide) hT) (As := [.int x1]) (rest := []) rfl rfl ⟨Nat.le_of_ble_eq_true rfl, Nat.le_of_ble_eq_true rfl⟩ ⟨Nat.le_refl _, Nat.le_refl _⟩ hl.1 (Nat.le_of_ble_eq_true rfl) dX11_of_8 (fun r3 M2 H locs hT h => ?_)
  refine lv_if_ne (tgt := 17) hx hb dX11_of_11 (by decide) (fun hc4 => ?_) (fun hc4 => ?_)
  · have hT := hT.2 hc4
    refine lv_iload_n hx hb dX11_of_17 rfl (lv_at hl 2 rfl) ?_
    by_cases hc5 : x2 = (0 : Int32)
    · have hT := hT.1 hc5
      refine lv_tableIn (off := 38) (tgt := 56) hx hb dX11_of_18 (by rw [hc5]; decide) (by rw [hc5]; decide) (by rw [hc5]; rfl) (by decide) ?_
      refine lv_aload_n hx hb dX11_of_56 rfl (lv_at hl 0 rfl) ?_
      refine fx_getR X h (k := 0) (j := 0) (r := 1) sh_0 rfl fl_RX11_12 dX11_of_57 ?_
      refine fx_getR X h (k := 1) (j := 0) (r := 2) sh_1 rfl fl_RX11_92 dX11_of_60 ?_
      refine fx_getR X h (k := 2) (j := 2) (r := 3) sh_2 rfl fl_RX11_230 dX11_of_63 ?_
      refine lv_iload_n hx hb dX11_of_66 rfl (lv_at hl 1 rfl) ?_
      obtain ⟨hi6, hT⟩ := hT
      refine fx_iald X h (k := 3) sh_3 hi6 dX11_of_67 ?_
      exact fx_iret X hr hk h hT dX11_of_68
    have hT := hT.2 hc5
    by_cases hc7 : x2 = (1 : Int32)
    · have hT := hT.1 hc7
      refine lv_tableIn (off := 51) (tgt := 69) hx hb dX11_of_18 (by rw [hc7]; decide) (by rw [hc7]; decide) (by rw [hc7]; rfl) (by decide) ?_
      refine lv_aload_n hx hb dX11_of_69 rfl (lv_at hl 0 rfl) ?_
      refine fx_getR X h (k := 0) (j := 0) (r := 1) sh_0 rfl fl_RX11_12 dX11_of_70 ?_
      refine fx_getR X h (k := 1) (j := 0) (r := 2) sh_1 rfl fl_RX11_92 dX11_of_73 ?_
      refine fx_getR X h (k := 2) (j := 3) (r := 4) sh_2 rfl fl_RX11_233 dX11_of_76 ?_
      refine lv_iload_n hx hb dX11_of_79 rfl (lv_at hl 1 rfl) ?_
      obtain ⟨hi8, hT⟩ := hT
      refine fx_iald X h (k := 4) sh_4 hi8 dX11_of_80 ?_
      exact fx_iret X hr hk h hT dX11_of_81
    have hT := hT.2 hc7
    by_cases hc9 : x2 = (2 : Int32)
    · have hT := hT.1 hc9
      refine lv_tableIn (off := 64) (tgt := 82) hx hb dX11_of_18 (by rw [hc9]; decide) (by rw [hc9]; decide) (by rw [hc9]; rfl) (by decide) ?_
      refine lv_aload_n hx hb dX11_of_82 rfl (lv_at hl 0 rfl) ?_
      refine fx_getR X h (k := 0) (j := 0) (r := 1) sh_0 rfl fl_RX11_12 dX11_of_83 ?_
      refine fx_getR X h (k := 1) (j := 0) (r := 2) sh_1 rfl fl_RX11_92 dX11_of_86 ?_
      refine fx_getR X h (k := 2) (j := 4) (r := 5) sh_2 rfl fl_RX11_128 dX11_of_89 ?_
      refine lv_iload_n hx hb dX11_of_92 rfl (lv_at hl 1 rfl) ?_
      obtain ⟨hi10, hT⟩ := hT
      refine fx_iald X h (k := 5) sh_5 hi10 dX11_of_93 ?_
      exact fx_iret X hr hk h hT dX11_of_94
    have hT := hT.2 hc9
    by_cases hc11 : x2 = (3 : Int32)
    · have hT := hT.1 hc11
      refine lv_tableIn (off := 77) (tgt := 95) hx hb dX11_of_18 (by rw [hc11]; decide) (by rw [hc11]; decide) (by rw [hc11]; rfl) (by decide) ?_
      refine lv_aload_n hx hb dX11_of_95 rfl (lv_at hl 0 rfl) ?_
      refine fx_getR X h (k := 0) (j := 0) (r := 1) sh_0 rfl fl_RX11_12 dX11_of_96 ?_
      refine fx_getR X h (k := 1) (j := 1) (r := 8) sh_1 rfl fl_RX11_35 dX11_of_99 ?_
      refine fx_getR X h (k := 8) (j := 0) (r := 9) sh_8 rfl fl_RX11_236 dX11_of_102 ?_
      refine lv_iload_n hx hb dX11_of_105 rfl (lv_at hl 1 rfl) ?_
      obtain ⟨hi12, hT⟩ := hT
      refine fx_iald X h (k := 9) sh_9 hi12 dX11_of_106 ?_
      exact fx_iret X hr hk h hT dX11_of_107
    have hT := hT.2 hc11
    by_cases hc13 : x2 = (4 : Int32)
    · have hT := hT.1 hc13
      refine lv_tableIn (off := 90) (tgt := 108) hx hb dX11_of_18 (by rw [hc13]; decide) (by rw [hc13]; decide) (by rw [hc13]; rfl) (by decide) ?_
      refine lv_aload_n hx hb dX11_of_108 rfl (lv_at hl 0 rfl) ?_
      refine fx_getR X h (k := 0) (j := 0) (r := 1) sh_0 rfl fl_RX11_12 dX11_of_109 ?_
      refine fx_getR X h (k := 1) (j := 1) (r := 8) sh_1 rfl fl_RX11_35 dX11_of_112 ?_
      refine fx_getR X h (k := 8) (j := 1) (r := 10) sh_8 rfl fl_RX11_239 dX11_of_115 ?_
      refine lv_iload_n hx hb dX11_of_118 rfl (lv_at hl 1 rfl) ?_
      obtain ⟨hi14, hT⟩ := hT
      refine fx_iald X h (k := 10) sh_10 hi14 dX11_of_119 ?_
      exact fx_iret X hr hk h hT dX11_of_120
    have hT := hT.2 hc13
    by_cases hc15 : x2 = (5 : Int32)
    · have hT := hT.1 hc15
      refine lv_tableIn (off := 103) (tgt := 121) hx hb dX11_of_18 (by rw [hc15]; decide) (by rw [hc15]; decide) (by rw [hc15]; rfl) (by decide) ?_
      refine lv_aload_n hx hb dX11_of_121 rfl (lv_at hl 0 rfl) ?_
      refine fx_getR X h (k := 0) (j := 0) (r := 1) sh_0 rfl fl_RX11_12 dX11_of_122 ?_
      refine fx_getR X h (k := 1) (j := 1) (r := 8) sh_1 rfl fl_RX11_35 dX11_of_125 ?_
      refine fx_getR X h (k := 8) (j := 2) (r := 11) sh_8 rfl fl_RX11_131 dX11_of_128 ?_
      refine lv_iload_n hx hb dX11_of_131 rfl (lv_at hl 1 rfl) ?_
      obtain ⟨hi16, hT⟩ := hT
      refine fx_iald X h (k := 11) sh_11 hi16 dX11_of_132 ?_
      exact fx_iret X hr hk h hT dX11_of_133
    have hT := hT.2 hc15
    have khc5 : ¬ (x2).toInt = 0 := fun q => hc5 (Int32.toInt_inj.mp (q.trans (by decide)))
    have khc7 : ¬ (x2).toInt = 1 := fun q => hc7 (Int32.toInt_inj.mp (q.trans (by decide)))
    have khc9 : ¬ (x2).toInt = 2 := fun q => hc9 (Int32.toInt_inj.mp (q.trans (by decide)))
    have khc11 : ¬ (x2).toInt = 3 := fun q => hc11 (Int32.toInt_inj.mp (q.trans (by decide)))
    have khc13 : ¬ (x2).toInt = 4 := fun q => hc13 (Int32.toInt_inj.mp (q.trans (by decide)))
    have khc15 : ¬ (x2).toInt = 5 := fun q => hc15 (Int32.toInt_inj.mp (q.trans (by decide)))
    refine lv_tableOut (tgt := 134) hx hb dX11_of_18 (by omega) (by decide) ?_
    refine lv_aload_n hx hb dX11_of_134 rfl (lv_at hl 0 rfl) ?_
    refine lv_iload_n hx hb dX11_of_135 rfl (lv_at hl 1 rfl) ?_
    refine lv_iload_n hx hb dX11_of_136 rfl (lv_at hl 2 rfl) ?_
    refine fx_vi X h ym_X11_lawOf yi_X11_lawOf ys_X11_lawOf (fx_s5 (List.mem_of_getElem? (i := 39) rfl) rfl) sh_0 rfl (c_X11_lawOf l G hT) (As := [.int x1, .int x2]) (rest := []) rfl rfl ⟨Nat.le_of_ble_eq_true rfl, Nat.le_of_ble_eq_true rfl⟩ ⟨Nat.le_refl _, Nat.le_refl _⟩ hl.1 (Nat.le_of_ble_eq_true rfl) dX11_of_137 (fun r19 M18 H locs hT h => ?_)
    exact fx_iret X hr hk h hT dX11_of_140
  · have hT := hT.1 hc4
    refine lv_bipush (v := -2) hx hb dX11_of_14 (by decide) ?_
    exact fx_iret X hr hk h hT dX11_of_16
/-! MockParcels.who(II)I -/
theorem dX11_who_0 : decode cX11_who 0 = .ok (.aload_n 0, 1) := by decide +kernel
theorem dX11_who_1 : decode cX11_who 1 = .ok (.getfield 12, 3) := by decide +kernel
theorem dX11_who_4 : decode cX11_who 4 = .ok (.getfield 92, 3) := by decide +kernel
theorem dX11_who_7 : decode cX11_who 7 = .ok (.iload_n 1, 1) := by decide +kernel
theorem dX11_who_8 : decode cX11_who 8 = .ok (.invokevirtual 134, 3) := by decide +kernel
theorem dX11_who_11 : decode cX11_who 11 = .ok (.ifCond .ne 6, 3) := by decide +kernel
theorem dX11_who_14 : decode cX11_who 14 = .ok (.bipush (-2), 2) := by decide +kernel
theorem dX11_who_16 : decode cX11_who 16 = .ok (.ireturn, 1) := by decide +kernel
theorem dX11_who_17 : decode cX11_who 17 = .ok (.iload_n 2, 1) := by decide +kernel
theorem dX11_who_18 : decode cX11_who 18 = .ok (.tableswitch 99 0 4 #[34, 47, 60, 73, 86], 34) := by decide +kernel
theorem dX11_who_52 : decode cX11_who 52 = .ok (.aload_n 0, 1) := by decide +kernel
theorem dX11_who_53 : decode cX11_who 53 = .ok (.getfield 12, 3) := by decide +kernel
theorem dX11_who_56 : decode cX11_who 56 = .ok (.getfield 35, 3) := by decide +kernel
theorem dX11_who_59 : decode cX11_who 59 = .ok (.getfield 108, 3) := by decide +kernel
theorem dX11_who_62 : decode cX11_who 62 = .ok (.iload_n 1, 1) := by decide +kernel
theorem dX11_who_63 : decode cX11_who 63 = .ok (.iaload, 1) := by decide +kernel
theorem dX11_who_64 : decode cX11_who 64 = .ok (.ireturn, 1) := by decide +kernel
theorem dX11_who_65 : decode cX11_who 65 = .ok (.aload_n 0, 1) := by decide +kernel
theorem dX11_who_66 : decode cX11_who 66 = .ok (.getfield 12, 3) := by decide +kernel
theorem dX11_who_69 : decode cX11_who 69 = .ok (.getfield 92, 3) := by decide +kernel
theorem dX11_who_72 : decode cX11_who 72 = .ok (.getfield 125, 3) := by decide +kernel
theorem dX11_who_75 : decode cX11_who 75 = .ok (.iload_n 1, 1) := by decide +kernel
theorem dX11_who_76 : decode cX11_who 76 = .ok (.iaload, 1) := by decide +kernel
theorem dX11_who_77 : decode cX11_who 77 = .ok (.ireturn, 1) := by decide +kernel
theorem dX11_who_78 : decode cX11_who 78 = .ok (.aload_n 0, 1) := by decide +kernel
theorem dX11_who_79 : decode cX11_who 79 = .ok (.getfield 12, 3) := by decide +kernel
theorem dX11_who_82 : decode cX11_who 82 = .ok (.getfield 92, 3) := by decide +kernel
theorem dX11_who_85 : decode cX11_who 85 = .ok (.getfield 252, 3) := by decide +kernel
theorem dX11_who_88 : decode cX11_who 88 = .ok (.iload_n 1, 1) := by decide +kernel
theorem dX11_who_89 : decode cX11_who 89 = .ok (.iaload, 1) := by decide +kernel
theorem dX11_who_90 : decode cX11_who 90 = .ok (.ireturn, 1) := by decide +kernel
theorem dX11_who_91 : decode cX11_who 91 = .ok (.aload_n 0, 1) := by decide +kernel
theorem dX11_who_92 : decode cX11_who 92 = .ok (.getfield 12, 3) := by decide +kernel
theorem dX11_who_95 : decode cX11_who 95 = .ok (.getfield 35, 3) := by decide +kernel
theorem dX11_who_98 : decode cX11_who 98 = .ok (.getfield 165, 3) := by decide +kernel
theorem dX11_who_101 : decode cX11_who 101 = .ok (.iload_n 1, 1) := by decide +kernel
theorem dX11_who_102 : decode cX11_who 102 = .ok (.iaload, 1) := by decide +kernel
theorem dX11_who_103 : decode cX11_who 103 = .ok (.ireturn, 1) := by decide +kernel
theorem dX11_who_104 : decode cX11_who 104 = .ok (.aload_n 0, 1) := by decide +kernel
theorem dX11_who_105 : decode cX11_who 105 = .ok (.getfield 12, 3) := by decide +kernel
theorem dX11_who_108 : decode cX11_who 108 = .ok (.getfield 213, 3) := by decide +kernel
theorem dX11_who_111 : decode cX11_who 111 = .ok (.getfield 255, 3) := by decide +kernel
theorem dX11_who_114 : decode cX11_who 114 = .ok (.iload_n 1, 1) := by decide +kernel
theorem dX11_who_115 : decode cX11_who 115 = .ok (.iaload, 1) := by decide +kernel
theorem dX11_who_116 : decode cX11_who 116 = .ok (.ireturn, 1) := by decide +kernel
theorem dX11_who_117 : decode cX11_who 117 = .ok (.iload_n 2, 1) := by decide +kernel
theorem dX11_who_118 : decode cX11_who 118 = .ok (.bipush 11, 2) := by decide +kernel
theorem dX11_who_120 : decode cX11_who 120 = .ok (.bipush 17, 2) := by decide +kernel
theorem dX11_who_122 : decode cX11_who 122 = .ok (.invokestatic 88, 3) := by decide +kernel
theorem dX11_who_125 : decode cX11_who 125 = .ok (.ifCond .eq 24, 3) := by decide +kernel
theorem dX11_who_128 : decode cX11_who 128 = .ok (.aload_n 0, 1) := by decide +kernel
theorem dX11_who_129 : decode cX11_who 129 = .ok (.getfield 12, 3) := by decide +kernel
theorem dX11_who_132 : decode cX11_who 132 = .ok (.getfield 35, 3) := by decide +kernel
theorem dX11_who_135 : decode cX11_who 135 = .ok (.getfield 158, 3) := by decide +kernel
theorem dX11_who_138 : decode cX11_who 138 = .ok (.iload_n 1, 1) := by decide +kernel
theorem dX11_who_139 : decode cX11_who 139 = .ok (.bipush 8, 2) := by decide +kernel
theorem dX11_who_141 : decode cX11_who 141 = .ok (.imul, 1) := by decide +kernel
theorem dX11_who_142 : decode cX11_who 142 = .ok (.iload_n 2, 1) := by decide +kernel
theorem dX11_who_143 : decode cX11_who 143 = .ok (.iadd, 1) := by decide +kernel
theorem dX11_who_144 : decode cX11_who 144 = .ok (.bipush 10, 2) := by decide +kernel
theorem dX11_who_146 : decode cX11_who 146 = .ok (.isub, 1) := by decide +kernel
theorem dX11_who_147 : decode cX11_who 147 = .ok (.iaload, 1) := by decide +kernel
theorem dX11_who_148 : decode cX11_who 148 = .ok (.ireturn, 1) := by decide +kernel
theorem dX11_who_149 : decode cX11_who 149 = .ok (.iload_n 2, 1) := by decide +kernel
theorem dX11_who_150 : decode cX11_who 150 = .ok (.bipush 21, 2) := by decide +kernel
theorem dX11_who_152 : decode cX11_who 152 = .ok (.bipush 27, 2) := by decide +kernel
theorem dX11_who_154 : decode cX11_who 154 = .ok (.invokestatic 88, 3) := by decide +kernel
theorem dX11_who_157 : decode cX11_who 157 = .ok (.ifCond .eq 24, 3) := by decide +kernel
theorem dX11_who_160 : decode cX11_who 160 = .ok (.aload_n 0, 1) := by decide +kernel
theorem dX11_who_161 : decode cX11_who 161 = .ok (.getfield 12, 3) := by decide +kernel
theorem dX11_who_164 : decode cX11_who 164 = .ok (.getfield 213, 3) := by decide +kernel
theorem dX11_who_167 : decode cX11_who 167 = .ok (.getfield 258, 3) := by decide +kernel
theorem dX11_who_170 : decode cX11_who 170 = .ok (.iload_n 1, 1) := by decide +kernel
theorem dX11_who_171 : decode cX11_who 171 = .ok (.bipush 8, 2) := by decide +kernel
theorem dX11_who_173 : decode cX11_who 173 = .ok (.imul, 1) := by decide +kernel
theorem dX11_who_174 : decode cX11_who 174 = .ok (.iload_n 2, 1) := by decide +kernel
theorem dX11_who_175 : decode cX11_who 175 = .ok (.iadd, 1) := by decide +kernel
theorem dX11_who_176 : decode cX11_who 176 = .ok (.bipush 20, 2) := by decide +kernel
theorem dX11_who_178 : decode cX11_who 178 = .ok (.isub, 1) := by decide +kernel
theorem dX11_who_179 : decode cX11_who 179 = .ok (.iaload, 1) := by decide +kernel
theorem dX11_who_180 : decode cX11_who 180 = .ok (.ireturn, 1) := by decide +kernel
theorem dX11_who_181 : decode cX11_who 181 = .ok (.bipush (-2), 2) := by decide +kernel
theorem dX11_who_183 : decode cX11_who 183 = .ok (.ireturn, 1) := by decide +kernel
def T_X11_who (x1 : Int32) (x2 : Int32) (M : Mm) (K : Int32 → Mm → Prop) : Prop := (T_X1_hasBidder 2 x1 M (fun r3 M2 => ((r3 = 0 → (K (-2 : Int32) M2)) ∧ (¬ r3 = 0 → ((x2 = (0 : Int32) → (vp_in x1 8 ∧ (K (M2 12 (x1).toNatClampNeg) M2))) ∧ (¬ x2 = (0 : Int32) → ((x2 = (1 : Int32) → (vp_in x1 8 ∧ (K (M2 6 (x1).toNatClampNeg) M2))) ∧ (¬ x2 = (1 : Int32) → ((x2 = (2 : Int32) → (vp_in x1 8 ∧ (K (M2 7 (x1).toNatClampNeg) M2))) ∧ (¬ x2 = (2 : Int32) → ((x2 = (3 : Int32) → (vp_in x1 8 ∧ (K (M2 13 (x1).toNatClampNeg) M2))) ∧ (¬ x2 = (3 : Int32) → ((x2 = (4 : Int32) → (vp_in x1 8 ∧ (K (M2 24 (x1).toNatClampNeg) M2))) ∧ (¬ x2 = (4 : Int32) → (T_X11_isWithin x2 (11 : Int32) (17 : Int32) M2 (fun r17 M16 => ((r17 = 0 → (T_X11_isWithin x2 (21 : Int32) (27 : Int32) M16 (fun r21 M20 => ((r21 = 0 → (K (-2 : Int32) M20)) ∧ (¬ r21 = 0 → (vp_in (((x1 * (8 : Int32)) + x2) - (20 : Int32)) 64 ∧ (K (M20 25 ((((x1 * (8 : Int32)) + x2) - (20 : Int32))).toNatClampNeg) M20))))))) ∧ (¬ r17 = 0 → (vp_in (((x1 * (8 : Int32)) + x2) - (10 : Int32)) 64 ∧ (K (M16 14 ((((x1 * (8 : Int32)) + x2) - (10 : Int32))).toNatClampNeg) M16))))))))))))))))))))
set_option maxHeartbeats 4000000 in
set_option maxRecDepth 100000 in
theorem c_X11_who (l : Launch) (G : fx_G) {x1 : Int32} {x2 : Int32} {M : Mm} {K : Int32 → Mm → Prop} (hT : T_X11_who x1 x2 M K) : Met l yX11_who (fx_ws yX11_who cX11_who 3 (some .int)) (fx_rm (1)) (va_Pc [.ref (G.2.2.2 + 0), .int x1, .int x2] (fx_P G SH M)) (va_Qi K (fx_R G SH) (fx_A G)) 0 0 (fx_A G) := by
  refine fx_met (own := RX11) (by decide +kernel) rfl (Nat.le_of_ble_eq_true rfl) (fun p e s m below meth c X hr hk h ls hl => ?_)
  obtain ⟨⟨hx, hb, hml, hown, hts⟩, hK, hQ⟩ := id X
  have hl : lv_has ls 3 [(0, .ref (G.2.2.2 + 0)), (1, .int x1), (2, .int x2)] := hl
  unfold T_X11_who at hT
  refine lv_aload_n hx hb dX11_who_0 rfl (lv_at hl 0 rfl) ?_
  refine fx_getR X h (k := 0) (j := 0) (r := 1) sh_0 rfl fl_RX11_12 dX11_who_1 ?_
  refine fx_getR X h (k := 1) (j := 0) (r := 2) sh_1 rfl fl_RX11_92 dX11_who_4 ?_
  refine lv_iload_n hx hb dX11_who_7 rfl (lv_at hl 1 rfl) ?_
  refine fx_vi X h ym_X1_hasBidder yi_X1_hasBidder ys_X1_hasBidder (fx_s3 (List.mem_of_getElem? (i := 87) rfl) rfl) sh_2 rfl (c_X1_hasBidder l G (by decide) hT) (As := [.int x1]) (rest := []) rfl rfl ⟨Nat.le_of_ble_eq_true rfl, Nat.le_of_ble_eq_true rfl⟩ ⟨Nat.le_refl _, Nat.le_refl _⟩ hl.1 (Nat.le_of_ble_eq_true rfl) dX11_who_8 (fun r3 M2 H locs hT h => ?_)
  refine lv_if_ne (tgt := 17) hx hb dX11_who_11 (by decide) (fun hc4 => ?_) (fun hc4 => ?_)
  · have hT := hT.2 hc4
    refine lv_iload_n hx hb dX11_who_17 rfl (lv_at hl 2 rfl) ?_
    by_cases hc5 : x2 = (0 : Int32)
    · have hT := hT.1 hc5
      refine lv_tableIn (off := 34) (tgt := 52) hx hb dX11_who_18 (by rw [hc5]; decide) (by rw [hc5]; decide) (by rw [hc5]; rfl) (by decide) ?_
      refine lv_aload_n hx hb dX11_who_52 rfl (lv_at hl 0 rfl) ?_
      refine fx_getR X h (k := 0) (j := 0) (r := 1) sh_0 rfl fl_RX11_12 dX11_who_53 ?_
      refine fx_getR X h (k := 1) (j := 1) (r := 8) sh_1 rfl fl_RX11_35 dX11_who_56 ?_
      refine fx_getR X h (k := 8) (j := 3) (r := 12) sh_8 rfl fl_RX11_108 dX11_who_59 ?_
      refine lv_iload_n hx hb dX11_who_62 rfl (lv_at hl 1 rfl) ?_
      obtain ⟨hi6, hT⟩ := hT
      refine fx_iald X h (k := 12) sh_12 hi6 dX11_who_63 ?_
      exact fx_iret X hr hk h hT dX11_who_64
    have hT := hT.2 hc5
    by_cases hc7 : x2 = (1 : Int32)
    · have hT := hT.1 hc7
      refine lv_tableIn (off := 47) (tgt := 65) hx hb dX11_who_18 (by rw [hc7]; decide) (by rw [hc7]; decide) (by rw [hc7]; rfl) (by decide) ?_
      refine lv_aload_n hx hb dX11_who_65 rfl (lv_at hl 0 rfl) ?_
      refine fx_getR X h (k := 0) (j := 0) (r := 1) sh_0 rfl fl_RX11_12 dX11_who_66 ?_
      refine fx_getR X h (k := 1) (j := 0) (r := 2) sh_1 rfl fl_RX11_92 dX11_who_69 ?_
      refine fx_getR X h (k := 2) (j := 5) (r := 6) sh_2 rfl fl_RX11_125 dX11_who_72 ?_
      refine lv_iload_n hx hb dX11_who_75 rfl (lv_at hl 1 rfl) ?_
      obtain ⟨hi8, hT⟩ := hT
      refine fx_iald X h (k := 6) sh_6 hi8 dX11_who_76 ?_
      exact fx_iret X hr hk h hT dX11_who_77
    have hT := hT.2 hc7
    by_cases hc9 : x2 = (2 : Int32)
    · have hT := hT.1 hc9
      refine lv_tableIn (off := 60) (tgt := 78) hx hb dX11_who_18 (by rw [hc9]; decide) (by rw [hc9]; decide) (by rw [hc9]; rfl) (by decide) ?_
      refine lv_aload_n hx hb dX11_who_78 rfl (lv_at hl 0 rfl) ?_
      refine fx_getR X h (k := 0) (j := 0) (r := 1) sh_0 rfl fl_RX11_12 dX11_who_79 ?_
      refine fx_getR X h (k := 1) (j := 0) (r := 2) sh_1 rfl fl_RX11_92 dX11_who_82 ?_
      refine fx_getR X h (k := 2) (j := 6) (r := 7) sh_2 rfl fl_RX11_252 dX11_who_85 ?_
      refine lv_iload_n hx hb dX11_who_88 rfl (lv_at hl 1 rfl) ?_
      obtain ⟨hi10, hT⟩ := hT
      refine fx_iald X h (k := 7) sh_7 hi10 dX11_who_89 ?_
      exact fx_iret X hr hk h hT dX11_who_90
    have hT := hT.2 hc9
    by_cases hc11 : x2 = (3 : Int32)
    · have hT := hT.1 hc11
      refine lv_tableIn (off := 73) (tgt := 91) hx hb dX11_who_18 (by rw [hc11]; decide) (by rw [hc11]; decide) (by rw [hc11]; rfl) (by decide) ?_
      refine lv_aload_n hx hb dX11_who_91 rfl (lv_at hl 0 rfl) ?_
      refine fx_getR X h (k := 0) (j := 0) (r := 1) sh_0 rfl fl_RX11_12 dX11_who_92 ?_
      refine fx_getR X h (k := 1) (j := 1) (r := 8) sh_1 rfl fl_RX11_35 dX11_who_95 ?_
      refine fx_getR X h (k := 8) (j := 4) (r := 13) sh_8 rfl fl_RX11_165 dX11_who_98 ?_
      refine lv_iload_n hx hb dX11_who_101 rfl (lv_at hl 1 rfl) ?_
      obtain ⟨hi12, hT⟩ := hT
      refine fx_iald X h (k := 13) sh_13 hi12 dX11_who_102 ?_
      exact fx_iret X hr hk h hT dX11_who_103
    have hT := hT.2 hc11
    by_cases hc13 : x2 = (4 : Int32)
    · have hT := hT.1 hc13
      refine lv_tableIn (off := 86) (tgt := 104) hx hb dX11_who_18 (by rw [hc13]; decide) (by rw [hc13]; decide) (by rw [hc13]; rfl) (by decide) ?_
      refine lv_aload_n hx hb dX11_who_104 rfl (lv_at hl 0 rfl) ?_
      refine fx_getR X h (k := 0) (j := 0) (r := 1) sh_0 rfl fl_RX11_12 dX11_who_105 ?_
      refine fx_getR X h (k := 1) (j := 4) (r := 23) sh_1 rfl fl_RX11_213 dX11_who_108 ?_
      refine fx_getR X h (k := 23) (j := 0) (r := 24) sh_23 rfl fl_RX11_255 dX11_who_111 ?_
      refine lv_iload_n hx hb dX11_who_114 rfl (lv_at hl 1 rfl) ?_
      obtain ⟨hi14, hT⟩ := hT
      refine fx_iald X h (k := 24) sh_24 hi14 dX11_who_115 ?_
      exact fx_iret X hr hk h hT dX11_who_116
    have hT := hT.2 hc13
    have khc5 : ¬ (x2).toInt = 0 := fun q => hc5 (Int32.toInt_inj.mp (q.trans (by decide)))
    have khc7 : ¬ (x2).toInt = 1 := fun q => hc7 (Int32.toInt_inj.mp (q.trans (by decide)))
    have khc9 : ¬ (x2).toInt = 2 := fun q => hc9 (Int32.toInt_inj.mp (q.trans (by decide)))
    have khc11 : ¬ (x2).toInt = 3 := fun q => hc11 (Int32.toInt_inj.mp (q.trans (by decide)))
    have khc13 : ¬ (x2).toInt = 4 := fun q => hc13 (Int32.toInt_inj.mp (q.trans (by decide)))
    refine lv_tableOut (tgt := 117) hx hb dX11_who_18 (by omega) (by decide) ?_
    refine lv_iload_n hx hb dX11_who_117 rfl (lv_at hl 2 rfl) ?_
    refine lv_bipush (v := 11) hx hb dX11_who_118 (by decide) ?_
    refine lv_bipush (v := 17) hx hb dX11_who_120 (by decide) ?_
    refine fx_si X h ym_X11_isWithin yt_X11_isWithin (fx_s3 (List.mem_of_getElem? (i := 64) rfl) rfl) (c_X11_isWithin l G hT) (As := [.int x2, .int (11 : Int32), .int (17 : Int32)]) (rest := []) rfl rfl ⟨Nat.le_of_ble_eq_true rfl, Nat.le_of_ble_eq_true rfl⟩ ⟨Nat.le_refl _, Nat.le_refl _⟩ hl.1 (Nat.le_of_ble_eq_true rfl) dX11_who_122 (fun r17 M16 H locs hT h => ?_)
    refine lv_if_eq (tgt := 149) hx hb dX11_who_125 (by decide) (fun hc18 => ?_) (fun hc18 => ?_)
    · have hT := hT.1 hc18
      refine lv_iload_n hx hb dX11_who_149 rfl (lv_at hl 2 rfl) ?_
      refine lv_bipush (v := 21) hx hb dX11_who_150 (by decide) ?_
      refine lv_bipush (v := 27) hx hb dX11_who_152 (by decide) ?_
      refine fx_si X h ym_X11_isWithin yt_X11_isWithin (fx_s3 (List.mem_of_getElem? (i := 64) rfl) rfl) (c_X11_isWithin l G hT) (As := [.int x2, .int (21 : Int32), .int (27 : Int32)]) (rest := []) rfl rfl ⟨Nat.le_of_ble_eq_true rfl, Nat.le_of_ble_eq_true rfl⟩ ⟨Nat.le_refl _, Nat.le_refl _⟩ hl.1 (Nat.le_of_ble_eq_true rfl) dX11_who_154 (fun r21 M20 H locs hT h => ?_)
      refine lv_if_eq (tgt := 181) hx hb dX11_who_157 (by decide) (fun hc22 => ?_) (fun hc22 => ?_)
      · have hT := hT.1 hc22
        refine lv_bipush (v := -2) hx hb dX11_who_181 (by decide) ?_
        exact fx_iret X hr hk h hT dX11_who_183
      · have hT := hT.2 hc22
        refine lv_aload_n hx hb dX11_who_160 rfl (lv_at hl 0 rfl) ?_
        refine fx_getR X h (k := 0) (j := 0) (r := 1) sh_0 rfl fl_RX11_12 dX11_who_161 ?_
        refine fx_getR X h (k := 1) (j := 4) (r := 23) sh_1 rfl fl_RX11_213 dX11_who_164 ?_
        refine fx_getR X h (k := 23) (j := 1) (r := 25) sh_23 rfl fl_RX11_258 dX11_who_167 ?_
        refine lv_iload_n hx hb dX11_who_170 rfl (lv_at hl 1 rfl) ?_
        refine lv_bipush (v := 8) hx hb dX11_who_171 (by decide) ?_
        refine lv_imul hx hb dX11_who_173 ?_
        refine lv_iload_n hx hb dX11_who_174 rfl (lv_at hl 2 rfl) ?_
        refine lv_iadd hx hb dX11_who_175 ?_
        refine lv_bipush (v := 20) hx hb dX11_who_176 (by decide) ?_
        refine lv_isub hx hb dX11_who_178 ?_
        obtain ⟨hi23, hT⟩ := hT
        refine fx_iald X h (k := 25) sh_25 hi23 dX11_who_179 ?_
        exact fx_iret X hr hk h hT dX11_who_180
    · have hT := hT.2 hc18
      refine lv_aload_n hx hb dX11_who_128 rfl (lv_at hl 0 rfl) ?_
      refine fx_getR X h (k := 0) (j := 0) (r := 1) sh_0 rfl fl_RX11_12 dX11_who_129 ?_
      refine fx_getR X h (k := 1) (j := 1) (r := 8) sh_1 rfl fl_RX11_35 dX11_who_132 ?_
      refine fx_getR X h (k := 8) (j := 5) (r := 14) sh_8 rfl fl_RX11_158 dX11_who_135 ?_
      refine lv_iload_n hx hb dX11_who_138 rfl (lv_at hl 1 rfl) ?_
      refine lv_bipush (v := 8) hx hb dX11_who_139 (by decide) ?_
      refine lv_imul hx hb dX11_who_141 ?_
      refine lv_iload_n hx hb dX11_who_142 rfl (lv_at hl 2 rfl) ?_
      refine lv_iadd hx hb dX11_who_143 ?_
      refine lv_bipush (v := 10) hx hb dX11_who_144 (by decide) ?_
      refine lv_isub hx hb dX11_who_146 ?_
      obtain ⟨hi24, hT⟩ := hT
      refine fx_iald X h (k := 14) sh_14 hi24 dX11_who_147 ?_
      exact fx_iret X hr hk h hT dX11_who_148
  · have hT := hT.1 hc4
    refine lv_bipush (v := -2) hx hb dX11_who_14 (by decide) ?_
    exact fx_iret X hr hk h hT dX11_who_16
/-! MockParcels.book(II)I -/
theorem dX11_book_0 : decode cX11_book 0 = .ok (.iload_n 1, 1) := by decide +kernel
theorem dX11_book_1 : decode cX11_book 1 = .ok (.ifCond .lt 33, 3) := by decide +kernel
theorem dX11_book_4 : decode cX11_book 4 = .ok (.iload_n 1, 1) := by decide +kernel
theorem dX11_book_5 : decode cX11_book 5 = .ok (.aload_n 0, 1) := by decide +kernel
theorem dX11_book_6 : decode cX11_book 6 = .ok (.getfield 12, 3) := by decide +kernel
theorem dX11_book_9 : decode cX11_book 9 = .ok (.getfield 35, 3) := by decide +kernel
theorem dX11_book_12 : decode cX11_book 12 = .ok (.getfield 261, 3) := by decide +kernel
theorem dX11_book_15 : decode cX11_book 15 = .ok (.if_icmp .ge 19, 3) := by decide +kernel
theorem dX11_book_18 : decode cX11_book 18 = .ok (.iload_n 1, 1) := by decide +kernel
theorem dX11_book_19 : decode cX11_book 19 = .ok (.sipush 150, 3) := by decide +kernel
theorem dX11_book_22 : decode cX11_book 22 = .ok (.if_icmp .ge 12, 3) := by decide +kernel
theorem dX11_book_25 : decode cX11_book 25 = .ok (.iload_n 2, 1) := by decide +kernel
theorem dX11_book_26 : decode cX11_book 26 = .ok (.ifCond .lt 8, 3) := by decide +kernel
theorem dX11_book_29 : decode cX11_book 29 = .ok (.iload_n 2, 1) := by decide +kernel
theorem dX11_book_30 : decode cX11_book 30 = .ok (.iconst 4, 1) := by decide +kernel
theorem dX11_book_31 : decode cX11_book 31 = .ok (.if_icmp .lt 5, 3) := by decide +kernel
theorem dX11_book_34 : decode cX11_book 34 = .ok (.iconst (-1), 1) := by decide +kernel
theorem dX11_book_35 : decode cX11_book 35 = .ok (.ireturn, 1) := by decide +kernel
theorem dX11_book_36 : decode cX11_book 36 = .ok (.aload_n 0, 1) := by decide +kernel
theorem dX11_book_37 : decode cX11_book 37 = .ok (.getfield 12, 3) := by decide +kernel
theorem dX11_book_40 : decode cX11_book 40 = .ok (.getfield 264, 3) := by decide +kernel
theorem dX11_book_43 : decode cX11_book 43 = .ok (.iload_n 1, 1) := by decide +kernel
theorem dX11_book_44 : decode cX11_book 44 = .ok (.iconst 4, 1) := by decide +kernel
theorem dX11_book_45 : decode cX11_book 45 = .ok (.imul, 1) := by decide +kernel
theorem dX11_book_46 : decode cX11_book 46 = .ok (.iload_n 2, 1) := by decide +kernel
theorem dX11_book_47 : decode cX11_book 47 = .ok (.iadd, 1) := by decide +kernel
theorem dX11_book_48 : decode cX11_book 48 = .ok (.iaload, 1) := by decide +kernel
theorem dX11_book_49 : decode cX11_book 49 = .ok (.ireturn, 1) := by decide +kernel
def T_X11_book (x1 : Int32) (x2 : Int32) (M : Mm) (K : Int32 → Mm → Prop) : Prop := ((x1 < 0 → (K (-1 : Int32) M)) ∧ (¬ x1 < 0 → (((M 8 12) ≤ x1 → (K (-1 : Int32) M)) ∧ (¬ (M 8 12) ≤ x1 → (((150 : Int32) ≤ x1 → (K (-1 : Int32) M)) ∧ (¬ (150 : Int32) ≤ x1 → ((x2 < 0 → (K (-1 : Int32) M)) ∧ (¬ x2 < 0 → ((x2 < (4 : Int32) → (vp_in ((x1 * (4 : Int32)) + x2) 600 ∧ (K (M 15 (((x1 * (4 : Int32)) + x2)).toNatClampNeg) M))) ∧ (¬ x2 < (4 : Int32) → (K (-1 : Int32) M)))))))))))
set_option maxHeartbeats 4000000 in
set_option maxRecDepth 100000 in
theorem c_X11_book (l : Launch) (G : fx_G) {x1 : Int32} {x2 : Int32} {M : Mm} {K : Int32 → Mm → Prop} (hT : T_X11_book x1 x2 M K) : Met l yX11_book (fx_ws yX11_book cX11_book 3 (some .int)) (fx_rm (0)) (va_Pc [.ref (G.2.2.2 + 0), .int x1, .int x2] (fx_P G SH M)) (va_Qi K (fx_R G SH) (fx_A G)) 0 0 (fx_A G) := by
  refine fx_met (own := RX11) (by decide +kernel) rfl (Nat.le_of_ble_eq_true rfl) (fun p e s m below meth c X hr hk h ls hl => ?_)
  obtain ⟨⟨hx, hb, hml, hown, hts⟩, hK, hQ⟩ := id X
  have hl : lv_has ls 3 [(0, .ref (G.2.2.2 + 0)), (1, .int x1), (2, .int x2)] := hl
  unfold T_X11_book at hT
  refine lv_iload_n hx hb dX11_book_0 rfl (lv_at hl 1 rfl) ?_
  refine lv_if_lt (tgt := 34) hx hb dX11_book_1 (by decide) (fun hc1 => ?_) (fun hc1 => ?_)
  · have hT := hT.1 hc1
    refine lv_iconst (v := -1) hx hb dX11_book_34 (by decide) ?_
    exact fx_iret X hr hk h hT dX11_book_35
  · have hT := hT.2 hc1
    refine lv_iload_n hx hb dX11_book_4 rfl (lv_at hl 1 rfl) ?_
    refine lv_aload_n hx hb dX11_book_5 rfl (lv_at hl 0 rfl) ?_
    refine fx_getR X h (k := 0) (j := 0) (r := 1) sh_0 rfl fl_RX11_12 dX11_book_6 ?_
    refine fx_getR X h (k := 1) (j := 1) (r := 8) sh_1 rfl fl_RX11_35 dX11_book_9 ?_
    refine fx_getI X h (k := 8) (j := 12) sh_8 rfl fl_RX11_261 dX11_book_12 ?_
    refine lv_icmp_ge (tgt := 34) hx hb dX11_book_15 (by decide) (fun hc2 => ?_) (fun hc2 => ?_)
    · have hT := hT.1 hc2
      refine lv_iconst (v := -1) hx hb dX11_book_34 (by decide) ?_
      exact fx_iret X hr hk h hT dX11_book_35
    · have hT := hT.2 hc2
      refine lv_iload_n hx hb dX11_book_18 rfl (lv_at hl 1 rfl) ?_
      refine lv_sipush (v := 150) hx hb dX11_book_19 (by decide) ?_
      refine lv_icmp_ge (tgt := 34) hx hb dX11_book_22 (by decide) (fun hc3 => ?_) (fun hc3 => ?_)
      · have hT := hT.1 hc3
        refine lv_iconst (v := -1) hx hb dX11_book_34 (by decide) ?_
        exact fx_iret X hr hk h hT dX11_book_35
      · have hT := hT.2 hc3
        refine lv_iload_n hx hb dX11_book_25 rfl (lv_at hl 2 rfl) ?_
        refine lv_if_lt (tgt := 34) hx hb dX11_book_26 (by decide) (fun hc4 => ?_) (fun hc4 => ?_)
        · have hT := hT.1 hc4
          refine lv_iconst (v := -1) hx hb dX11_book_34 (by decide) ?_
          exact fx_iret X hr hk h hT dX11_book_35
        · have hT := hT.2 hc4
          refine lv_iload_n hx hb dX11_book_29 rfl (lv_at hl 2 rfl) ?_
          refine lv_iconst (v := 4) hx hb dX11_book_30 (by decide) ?_
          refine lv_icmp_lt (tgt := 36) hx hb dX11_book_31 (by decide) (fun hc5 => ?_) (fun hc5 => ?_)
          · have hT := hT.1 hc5
            refine lv_aload_n hx hb dX11_book_36 rfl (lv_at hl 0 rfl) ?_
            refine fx_getR X h (k := 0) (j := 0) (r := 1) sh_0 rfl fl_RX11_12 dX11_book_37 ?_
            refine fx_getR X h (k := 1) (j := 2) (r := 15) sh_1 rfl fl_RX11_264 dX11_book_40 ?_
            refine lv_iload_n hx hb dX11_book_43 rfl (lv_at hl 1 rfl) ?_
            refine lv_iconst (v := 4) hx hb dX11_book_44 (by decide) ?_
            refine lv_imul hx hb dX11_book_45 ?_
            refine lv_iload_n hx hb dX11_book_46 rfl (lv_at hl 2 rfl) ?_
            refine lv_iadd hx hb dX11_book_47 ?_
            obtain ⟨hi6, hT⟩ := hT
            refine fx_iald X h (k := 15) sh_15 hi6 dX11_book_48 ?_
            exact fx_iret X hr hk h hT dX11_book_49
          · have hT := hT.2 hc5
            refine lv_iconst (v := -1) hx hb dX11_book_34 (by decide) ?_
            exact fx_iret X hr hk h hT dX11_book_35
/-! MockParcels.would(II)I -/
theorem dX11_would_0 : decode cX11_would 0 = .ok (.aload_n 0, 1) := by decide +kernel
theorem dX11_would_1 : decode cX11_would 1 = .ok (.getfield 12, 3) := by decide +kernel
theorem dX11_would_4 : decode cX11_would 4 = .ok (.getfield 92, 3) := by decide +kernel
theorem dX11_would_7 : decode cX11_would 7 = .ok (.iload_n 1, 1) := by decide +kernel
theorem dX11_would_8 : decode cX11_would 8 = .ok (.invokevirtual 138, 3) := by decide +kernel
theorem dX11_would_11 : decode cX11_would 11 = .ok (.ifCond .eq 12, 3) := by decide +kernel
theorem dX11_would_14 : decode cX11_would 14 = .ok (.iload_n 2, 1) := by decide +kernel
theorem dX11_would_15 : decode cX11_would 15 = .ok (.iconst 0, 1) := by decide +kernel
theorem dX11_would_16 : decode cX11_would 16 = .ok (.iconst 2, 1) := by decide +kernel
theorem dX11_would_17 : decode cX11_would 17 = .ok (.invokestatic 88, 3) := by decide +kernel
theorem dX11_would_20 : decode cX11_would 20 = .ok (.ifCond .ne 6, 3) := by decide +kernel
theorem dX11_would_23 : decode cX11_would 23 = .ok (.bipush (-2), 2) := by decide +kernel
theorem dX11_would_25 : decode cX11_would 25 = .ok (.ireturn, 1) := by decide +kernel
theorem dX11_would_26 : decode cX11_would 26 = .ok (.aload_n 0, 1) := by decide +kernel
theorem dX11_would_27 : decode cX11_would 27 = .ok (.getfield 29, 3) := by decide +kernel
theorem dX11_would_30 : decode cX11_would 30 = .ok (.aload_n 0, 1) := by decide +kernel
theorem dX11_would_31 : decode cX11_would 31 = .ok (.getfield 12, 3) := by decide +kernel
theorem dX11_would_34 : decode cX11_would 34 = .ok (.getfield 35, 3) := by decide +kernel
theorem dX11_would_37 : decode cX11_would 37 = .ok (.invokevirtual 267, 3) := by decide +kernel
theorem dX11_would_40 : decode cX11_would 40 = .ok (.aload_n 0, 1) := by decide +kernel
theorem dX11_would_41 : decode cX11_would 41 = .ok (.getfield 45, 3) := by decide +kernel
theorem dX11_would_44 : decode cX11_would 44 = .ok (.iload_n 1, 1) := by decide +kernel
theorem dX11_would_45 : decode cX11_would 45 = .ok (.invokevirtual 269, 3) := by decide +kernel
theorem dX11_would_48 : decode cX11_would 48 = .ok (.iload_n 2, 1) := by decide +kernel
theorem dX11_would_49 : decode cX11_would 49 = .ok (.ifCond .ne 11, 3) := by decide +kernel
theorem dX11_would_52 : decode cX11_would 52 = .ok (.aload_n 0, 1) := by decide +kernel
theorem dX11_would_53 : decode cX11_would 53 = .ok (.getfield 45, 3) := by decide +kernel
theorem dX11_would_56 : decode cX11_would 56 = .ok (.getfield 272, 3) := by decide +kernel
theorem dX11_would_59 : decode cX11_would 59 = .ok (.ireturn, 1) := by decide +kernel
theorem dX11_would_60 : decode cX11_would 60 = .ok (.iload_n 2, 1) := by decide +kernel
theorem dX11_would_61 : decode cX11_would 61 = .ok (.iconst 1, 1) := by decide +kernel
theorem dX11_would_62 : decode cX11_would 62 = .ok (.if_icmp .ne 13, 3) := by decide +kernel
theorem dX11_would_65 : decode cX11_would 65 = .ok (.aload_n 0, 1) := by decide +kernel
theorem dX11_would_66 : decode cX11_would 66 = .ok (.getfield 45, 3) := by decide +kernel
theorem dX11_would_69 : decode cX11_would 69 = .ok (.getfield 151, 3) := by decide +kernel
theorem dX11_would_72 : decode cX11_would 72 = .ok (.goto 10, 3) := by decide +kernel
theorem dX11_would_75 : decode cX11_would 75 = .ok (.aload_n 0, 1) := by decide +kernel
theorem dX11_would_76 : decode cX11_would 76 = .ok (.getfield 45, 3) := by decide +kernel
theorem dX11_would_79 : decode cX11_would 79 = .ok (.getfield 275, 3) := by decide +kernel
theorem dX11_would_82 : decode cX11_would 82 = .ok (.ireturn, 1) := by decide +kernel
def T_X11_would (x1 : Int32) (x2 : Int32) (M : Mm) (K : Int32 → Mm → Prop) : Prop := (T_X1_hasParcel 2 x1 M (fun r3 M2 => ((r3 = 0 → (K (-2 : Int32) M2)) ∧ (¬ r3 = 0 → (T_X11_isWithin x2 (0 : Int32) (2 : Int32) M2 (fun r7 M6 => ((r7 = 0 → (K (-2 : Int32) M6)) ∧ (¬ r7 = 0 → (T_X6_copyFrom 123 8 M6 (fun M10 => (T_X0_callBids 131 x1 M10 (fun M12 => ((x2 = 0 → (K (M12 131 6) M12)) ∧ (¬ x2 = 0 → ((x2 = (1 : Int32) → (K (M12 131 7) M12)) ∧ (¬ x2 = (1 : Int32) → (K (M12 131 8) M12)))))))))))))))))
set_option maxHeartbeats 4000000 in
set_option maxRecDepth 100000 in
theorem c_X11_would (l : Launch) (G : fx_G) {x1 : Int32} {x2 : Int32} {M : Mm} {K : Int32 → Mm → Prop} (hT : T_X11_would x1 x2 M K) : Met l yX11_would (fx_ws yX11_would cX11_would 3 (some .int)) (fx_rm (5)) (va_Pc [.ref (G.2.2.2 + 0), .int x1, .int x2] (fx_P G SH M)) (va_Qi K (fx_R G SH) (fx_A G)) 0 0 (fx_A G) := by
  refine fx_met (own := RX11) (by decide +kernel) rfl (Nat.le_of_ble_eq_true rfl) (fun p e s m below meth c X hr hk h ls hl => ?_)
  obtain ⟨⟨hx, hb, hml, hown, hts⟩, hK, hQ⟩ := id X
  have hl : lv_has ls 3 [(0, .ref (G.2.2.2 + 0)), (1, .int x1), (2, .int x2)] := hl
  unfold T_X11_would at hT
  refine lv_aload_n hx hb dX11_would_0 rfl (lv_at hl 0 rfl) ?_
  refine fx_getR X h (k := 0) (j := 0) (r := 1) sh_0 rfl fl_RX11_12 dX11_would_1 ?_
  refine fx_getR X h (k := 1) (j := 0) (r := 2) sh_1 rfl fl_RX11_92 dX11_would_4 ?_
  refine lv_iload_n hx hb dX11_would_7 rfl (lv_at hl 1 rfl) ?_
  refine fx_vi X h ym_X1_hasParcel yi_X1_hasParcel ys_X1_hasParcel (fx_s3 (List.mem_of_getElem? (i := 91) rfl) rfl) sh_2 rfl (c_X1_hasParcel l G (by decide) hT) (As := [.int x1]) (rest := []) rfl rfl ⟨Nat.le_of_ble_eq_true rfl, Nat.le_of_ble_eq_true rfl⟩ ⟨Nat.le_refl _, Nat.le_refl _⟩ hl.1 (Nat.le_of_ble_eq_true rfl) dX11_would_8 (fun r3 M2 H locs hT h => ?_)
  refine lv_if_eq (tgt := 23) hx hb dX11_would_11 (by decide) (fun hc4 => ?_) (fun hc4 => ?_)
  · have hT := hT.1 hc4
    refine lv_bipush (v := -2) hx hb dX11_would_23 (by decide) ?_
    exact fx_iret X hr hk h hT dX11_would_25
  · have hT := hT.2 hc4
    refine lv_iload_n hx hb dX11_would_14 rfl (lv_at hl 2 rfl) ?_
    refine lv_iconst (v := 0) hx hb dX11_would_15 (by decide) ?_
    refine lv_iconst (v := 2) hx hb dX11_would_16 (by decide) ?_
    refine fx_si X h ym_X11_isWithin yt_X11_isWithin (fx_s3 (List.mem_of_getElem? (i := 64) rfl) rfl) (c_X11_isWithin l G hT) (As := [.int x2, .int (0 : Int32), .int (2 : Int32)]) (rest := []) rfl rfl ⟨Nat.le_of_ble_eq_true rfl, Nat.le_of_ble_eq_true rfl⟩ ⟨Nat.le_refl _, Nat.le_refl _⟩ hl.1 (Nat.le_of_ble_eq_true rfl) dX11_would_17 (fun r7 M6 H locs hT h => ?_)
    refine lv_if_ne (tgt := 26) hx hb dX11_would_20 (by decide) (fun hc8 => ?_) (fun hc8 => ?_)
    · have hT := hT.2 hc8
      refine lv_aload_n hx hb dX11_would_26 rfl (lv_at hl 0 rfl) ?_
      refine fx_getR X h (k := 0) (j := 3) (r := 123) sh_0 rfl fl_RX11_29 dX11_would_27 ?_
      refine lv_aload_n hx hb dX11_would_30 rfl (lv_at hl 0 rfl) ?_
      refine fx_getR X h (k := 0) (j := 0) (r := 1) sh_0 rfl fl_RX11_12 dX11_would_31 ?_
      refine fx_getR X h (k := 1) (j := 1) (r := 8) sh_1 rfl fl_RX11_35 dX11_would_34 ?_
      refine fx_vv X h ym_X6_copyFrom yi_X6_copyFrom ys_X6_copyFrom (fx_s5 (List.mem_of_getElem? (i := 57) rfl) rfl) sh_123 rfl (c_X6_copyFrom l G (by decide) (by decide) hT) (As := [.ref (G.2.2.2 + 8)]) (rest := []) rfl rfl ⟨Nat.le_of_ble_eq_true rfl, Nat.le_of_ble_eq_true rfl⟩ ⟨Nat.le_refl _, Nat.le_refl _⟩ hl.1 (Nat.le_of_ble_eq_true rfl) dX11_would_37 (fun M10 H locs hT h => ?_)
      refine lv_aload_n hx hb dX11_would_40 rfl (lv_at hl 0 rfl) ?_
      refine fx_getR X h (k := 0) (j := 5) (r := 131) sh_0 rfl fl_RX11_45 dX11_would_41 ?_
      refine lv_iload_n hx hb dX11_would_44 rfl (lv_at hl 1 rfl) ?_
      refine fx_vv X h ym_X0_callBids yi_X0_callBids ys_X0_callBids (fx_s5 (List.mem_of_getElem? (i := 58) rfl) rfl) sh_131 rfl (c_X0_callBids l G (by decide) hT) (As := [.int x1]) (rest := []) rfl rfl ⟨Nat.le_of_ble_eq_true rfl, Nat.le_of_ble_eq_true rfl⟩ ⟨Nat.le_refl _, Nat.le_refl _⟩ hl.1 (Nat.le_of_ble_eq_true rfl) dX11_would_45 (fun M12 H locs hT h => ?_)
      refine lv_iload_n hx hb dX11_would_48 rfl (lv_at hl 2 rfl) ?_
      refine lv_if_ne (tgt := 60) hx hb dX11_would_49 (by decide) (fun hc13 => ?_) (fun hc13 => ?_)
      · have hT := hT.2 hc13
        refine lv_iload_n hx hb dX11_would_60 rfl (lv_at hl 2 rfl) ?_
        refine lv_iconst (v := 1) hx hb dX11_would_61 (by decide) ?_
        refine lv_icmp_ne (tgt := 75) hx hb dX11_would_62 (by decide) (fun hc14 => ?_) (fun hc14 => ?_)
        · have hT := hT.2 hc14
          refine lv_aload_n hx hb dX11_would_75 rfl (lv_at hl 0 rfl) ?_
          refine fx_getR X h (k := 0) (j := 5) (r := 131) sh_0 rfl fl_RX11_45 dX11_would_76 ?_
          refine fx_getI X h (k := 131) (j := 8) sh_131 rfl fl_RX11_275 dX11_would_79 ?_
          exact fx_iret X hr hk h hT dX11_would_82
        · have hT := hT.1 hc14
          refine lv_aload_n hx hb dX11_would_65 rfl (lv_at hl 0 rfl) ?_
          refine fx_getR X h (k := 0) (j := 5) (r := 131) sh_0 rfl fl_RX11_45 dX11_would_66 ?_
          refine fx_getI X h (k := 131) (j := 7) sh_131 rfl fl_RX11_151 dX11_would_69 ?_
          refine lv_goto (tgt := 82) hx hb dX11_would_72 (by decide) ?_
          exact fx_iret X hr hk h hT dX11_would_82
      · have hT := hT.1 hc13
        refine lv_aload_n hx hb dX11_would_52 rfl (lv_at hl 0 rfl) ?_
        refine fx_getR X h (k := 0) (j := 5) (r := 131) sh_0 rfl fl_RX11_45 dX11_would_53 ?_
        refine fx_getI X h (k := 131) (j := 6) sh_131 rfl fl_RX11_272 dX11_would_56 ?_
        exact fx_iret X hr hk h hT dX11_would_59
    · have hT := hT.1 hc8
      refine lv_bipush (v := -2) hx hb dX11_would_23 (by decide) ?_
      exact fx_iret X hr hk h hT dX11_would_25
/-! MockParcels.goes(II)I -/
theorem dX11_goes_0 : decode cX11_goes 0 = .ok (.iload_n 1, 1) := by decide +kernel
theorem dX11_goes_1 : decode cX11_goes 1 = .ok (.iconst 1, 1) := by decide +kernel
theorem dX11_goes_2 : decode cX11_goes 2 = .ok (.bipush 60, 2) := by decide +kernel
theorem dX11_goes_4 : decode cX11_goes 4 = .ok (.invokestatic 88, 3) := by decide +kernel
theorem dX11_goes_7 : decode cX11_goes 7 = .ok (.ifCond .eq 12, 3) := by decide +kernel
theorem dX11_goes_10 : decode cX11_goes 10 = .ok (.iload_n 2, 1) := by decide +kernel
theorem dX11_goes_11 : decode cX11_goes 11 = .ok (.iconst 0, 1) := by decide +kernel
theorem dX11_goes_12 : decode cX11_goes 12 = .ok (.iconst 3, 1) := by decide +kernel
theorem dX11_goes_13 : decode cX11_goes 13 = .ok (.invokestatic 88, 3) := by decide +kernel
theorem dX11_goes_16 : decode cX11_goes 16 = .ok (.ifCond .ne 5, 3) := by decide +kernel
theorem dX11_goes_19 : decode cX11_goes 19 = .ok (.iconst (-1), 1) := by decide +kernel
theorem dX11_goes_20 : decode cX11_goes 20 = .ok (.ireturn, 1) := by decide +kernel
theorem dX11_goes_21 : decode cX11_goes 21 = .ok (.aload_n 0, 1) := by decide +kernel
theorem dX11_goes_22 : decode cX11_goes 22 = .ok (.getfield 29, 3) := by decide +kernel
theorem dX11_goes_25 : decode cX11_goes 25 = .ok (.aload_n 0, 1) := by decide +kernel
theorem dX11_goes_26 : decode cX11_goes 26 = .ok (.getfield 12, 3) := by decide +kernel
theorem dX11_goes_29 : decode cX11_goes 29 = .ok (.getfield 35, 3) := by decide +kernel
theorem dX11_goes_32 : decode cX11_goes 32 = .ok (.invokevirtual 267, 3) := by decide +kernel
theorem dX11_goes_35 : decode cX11_goes 35 = .ok (.iconst 0, 1) := by decide +kernel
theorem dX11_goes_36 : decode cX11_goes 36 = .ok (.istore_n 3, 1) := by decide +kernel
theorem dX11_goes_37 : decode cX11_goes 37 = .ok (.iload_n 3, 1) := by decide +kernel
theorem dX11_goes_38 : decode cX11_goes 38 = .ok (.iload_n 1, 1) := by decide +kernel
theorem dX11_goes_39 : decode cX11_goes 39 = .ok (.if_icmp .ge 17, 3) := by decide +kernel
theorem dX11_goes_42 : decode cX11_goes 42 = .ok (.aload_n 0, 1) := by decide +kernel
theorem dX11_goes_43 : decode cX11_goes 43 = .ok (.getfield 45, 3) := by decide +kernel
theorem dX11_goes_46 : decode cX11_goes 46 = .ok (.invokevirtual 175, 3) := by decide +kernel
theorem dX11_goes_49 : decode cX11_goes 49 = .ok (.pop, 1) := by decide +kernel
theorem dX11_goes_50 : decode cX11_goes 50 = .ok (.iinc 3 1, 3) := by decide +kernel
theorem dX11_goes_53 : decode cX11_goes 53 = .ok (.goto (-16), 3) := by decide +kernel
theorem dX11_goes_56 : decode cX11_goes 56 = .ok (.iload_n 2, 1) := by decide +kernel
theorem dX11_goes_57 : decode cX11_goes 57 = .ok (.tableswitch 51 0 2 #[27, 35, 43], 27) := by decide +kernel
theorem dX11_goes_84 : decode cX11_goes 84 = .ok (.aload_n 0, 1) := by decide +kernel
theorem dX11_goes_85 : decode cX11_goes 85 = .ok (.getfield 29, 3) := by decide +kernel
theorem dX11_goes_88 : decode cX11_goes 88 = .ok (.getfield 278, 3) := by decide +kernel
theorem dX11_goes_91 : decode cX11_goes 91 = .ok (.ireturn, 1) := by decide +kernel
theorem dX11_goes_92 : decode cX11_goes 92 = .ok (.aload_n 0, 1) := by decide +kernel
theorem dX11_goes_93 : decode cX11_goes 93 = .ok (.getfield 29, 3) := by decide +kernel
theorem dX11_goes_96 : decode cX11_goes 96 = .ok (.getfield 119, 3) := by decide +kernel
theorem dX11_goes_99 : decode cX11_goes 99 = .ok (.ireturn, 1) := by decide +kernel
theorem dX11_goes_100 : decode cX11_goes 100 = .ok (.aload_n 0, 1) := by decide +kernel
theorem dX11_goes_101 : decode cX11_goes 101 = .ok (.getfield 29, 3) := by decide +kernel
theorem dX11_goes_104 : decode cX11_goes 104 = .ok (.getfield 281, 3) := by decide +kernel
theorem dX11_goes_107 : decode cX11_goes 107 = .ok (.ireturn, 1) := by decide +kernel
theorem dX11_goes_108 : decode cX11_goes 108 = .ok (.aload_n 0, 1) := by decide +kernel
theorem dX11_goes_109 : decode cX11_goes 109 = .ok (.getfield 12, 3) := by decide +kernel
theorem dX11_goes_112 : decode cX11_goes 112 = .ok (.getfield 92, 3) := by decide +kernel
theorem dX11_goes_115 : decode cX11_goes 115 = .ok (.getfield 96, 3) := by decide +kernel
theorem dX11_goes_118 : decode cX11_goes 118 = .ok (.aload_n 0, 1) := by decide +kernel
theorem dX11_goes_119 : decode cX11_goes 119 = .ok (.getfield 29, 3) := by decide +kernel
theorem dX11_goes_122 : decode cX11_goes 122 = .ok (.aload_n 0, 1) := by decide +kernel
theorem dX11_goes_123 : decode cX11_goes 123 = .ok (.getfield 12, 3) := by decide +kernel
theorem dX11_goes_126 : decode cX11_goes 126 = .ok (.getfield 92, 3) := by decide +kernel
theorem dX11_goes_129 : decode cX11_goes 129 = .ok (.getfield 96, 3) := by decide +kernel
theorem dX11_goes_132 : decode cX11_goes 132 = .ok (.invokevirtual 284, 3) := by decide +kernel
theorem dX11_goes_135 : decode cX11_goes 135 = .ok (.invokestatic 287, 3) := by decide +kernel
theorem dX11_goes_138 : decode cX11_goes 138 = .ok (.isub, 1) := by decide +kernel
theorem dX11_goes_139 : decode cX11_goes 139 = .ok (.ireturn, 1) := by decide +kernel
def T_X11_goes_37 : Nat → Int32 → Int32 → Int32 → Mm → (Int32 → Mm → Prop) → Prop
  | 0, _, _, _, _, _ => False
  | n + 1, x1, x2, x3, M, K => ((x1 ≤ x3 → ((x2 = (0 : Int32) → (K (M 123 7) M)) ∧ (¬ x2 = (0 : Int32) → ((x2 = (1 : Int32) → (K (M 123 8) M)) ∧ (¬ x2 = (1 : Int32) → ((x2 = (2 : Int32) → (K (M 123 11) M)) ∧ (¬ x2 = (2 : Int32) → (T_X6_unsold 123 (M 2 0) M (fun r7 M6 => (T_J6_bitCount_0f7a4 r7 M6 (fun r10 M9 => (K ((M 2 0) - r10) M9)))))))))))) ∧ (¬ x1 ≤ x3 → (T_X0_passDay 131 M (fun r13 M12 => (∀ y14 : Int32, y14 = x3 + (1 : Int32) → (T_X11_goes_37 n x1 x2 y14 M12 K))))))
set_option maxHeartbeats 4000000 in
set_option maxRecDepth 100000 in
theorem w_X11_goes_37 {p : Program} {l : Launch} {e : Env} {s : State} {m : MethodId} {args : Array Value} {below : List Frame} {meth : Method} {c : Code} {G : fx_G} {K : Int32 → Mm → Prop} (X : fx_C G p s m c args cX11_goes 4 RX11) (hr : meth.sig.returnType = (some .int)) (hk : meth.locks = false) : ∀ (n : Nat) (x1 : Int32) (x2 : Int32) (x3 : Int32) (M : Mm) (H : Heap) (locs : List Loc) (ls : Array Slot), T_X11_goes_37 n x1 x2 x3 M K → fx_H G SH M s H locs → lv_has ls 4 [(0, .ref (G.2.2.2 + 0)), (1, .int x1), (2, .int x2), (3, .int x3)] → W p l e (fx_rm (7)) s m args below meth c H locs 0 0 (MQ below (va_Qi K (fx_R G SH) (fx_A G)) args s 0 0 (fx_A G)) (F0 m 37 ls []) := by
  obtain ⟨⟨hx, hb, hml, hown, hts⟩, hK, hQ⟩ := id X
  intro n
  induction n with
  | zero =>
    intro x1 x2 x3 M H locs ls hT
    exact hT.elim
  | succ n ih =>
    intro x1 x2 x3 M H locs ls hT h hl
    rw [T_X11_goes_37] at hT
    refine lv_iload_n hx hb dX11_goes_37 rfl (lv_at hl 3 rfl) ?_
    refine lv_iload_n hx hb dX11_goes_38 rfl (lv_at hl 1 rfl) ?_
    refine lv_icmp_ge (tgt := 56) hx hb dX11_goes_39 (by decide) (fun hc1 => ?_) (fun hc1 => ?_)
    · have hT := hT.1 hc1
      refine lv_iload_n hx hb dX11_goes_56 rfl (lv_at hl 2 rfl) ?_
      by_cases hc2 : x2 = (0 : Int32)
      · have hT := hT.1 hc2
        refine lv_tableIn (off := 27) (tgt := 84) hx hb dX11_goes_57 (by rw [hc2]; decide) (by rw [hc2]; decide) (by rw [hc2]; rfl) (by decide) ?_
        refine lv_aload_n hx hb dX11_goes_84 rfl (lv_at hl 0 rfl) ?_
        refine fx_getR X h (k := 0) (j := 3) (r := 123) sh_0 rfl fl_RX11_29 dX11_goes_85 ?_
        refine fx_getI X h (k := 123) (j := 7) sh_123 rfl fl_RX11_278 dX11_goes_88 ?_
        exact fx_iret X hr hk h hT dX11_goes_91
      have hT := hT.2 hc2
      by_cases hc3 : x2 = (1 : Int32)
      · have hT := hT.1 hc3
        refine lv_tableIn (off := 35) (tgt := 92) hx hb dX11_goes_57 (by rw [hc3]; decide) (by rw [hc3]; decide) (by rw [hc3]; rfl) (by decide) ?_
        refine lv_aload_n hx hb dX11_goes_92 rfl (lv_at hl 0 rfl) ?_
        refine fx_getR X h (k := 0) (j := 3) (r := 123) sh_0 rfl fl_RX11_29 dX11_goes_93 ?_
        refine fx_getI X h (k := 123) (j := 8) sh_123 rfl fl_RX11_119 dX11_goes_96 ?_
        exact fx_iret X hr hk h hT dX11_goes_99
      have hT := hT.2 hc3
      by_cases hc4 : x2 = (2 : Int32)
      · have hT := hT.1 hc4
        refine lv_tableIn (off := 43) (tgt := 100) hx hb dX11_goes_57 (by rw [hc4]; decide) (by rw [hc4]; decide) (by rw [hc4]; rfl) (by decide) ?_
        refine lv_aload_n hx hb dX11_goes_100 rfl (lv_at hl 0 rfl) ?_
        refine fx_getR X h (k := 0) (j := 3) (r := 123) sh_0 rfl fl_RX11_29 dX11_goes_101 ?_
        refine fx_getI X h (k := 123) (j := 11) sh_123 rfl fl_RX11_281 dX11_goes_104 ?_
        exact fx_iret X hr hk h hT dX11_goes_107
      have hT := hT.2 hc4
      have khc2 : ¬ (x2).toInt = 0 := fun q => hc2 (Int32.toInt_inj.mp (q.trans (by decide)))
      have khc3 : ¬ (x2).toInt = 1 := fun q => hc3 (Int32.toInt_inj.mp (q.trans (by decide)))
      have khc4 : ¬ (x2).toInt = 2 := fun q => hc4 (Int32.toInt_inj.mp (q.trans (by decide)))
      refine lv_tableOut (tgt := 108) hx hb dX11_goes_57 (by omega) (by decide) ?_
      refine lv_aload_n hx hb dX11_goes_108 rfl (lv_at hl 0 rfl) ?_
      refine fx_getR X h (k := 0) (j := 0) (r := 1) sh_0 rfl fl_RX11_12 dX11_goes_109 ?_
      refine fx_getR X h (k := 1) (j := 0) (r := 2) sh_1 rfl fl_RX11_92 dX11_goes_112 ?_
      refine fx_getI X h (k := 2) (j := 0) sh_2 rfl fl_RX11_96 dX11_goes_115 ?_
      refine lv_aload_n hx hb dX11_goes_118 rfl (lv_at hl 0 rfl) ?_
      refine fx_getR X h (k := 0) (j := 3) (r := 123) sh_0 rfl fl_RX11_29 dX11_goes_119 ?_
      refine lv_aload_n hx hb dX11_goes_122 rfl (lv_at hl 0 rfl) ?_
      refine fx_getR X h (k := 0) (j := 0) (r := 1) sh_0 rfl fl_RX11_12 dX11_goes_123 ?_
      refine fx_getR X h (k := 1) (j := 0) (r := 2) sh_1 rfl fl_RX11_92 dX11_goes_126 ?_
      refine fx_getI X h (k := 2) (j := 0) sh_2 rfl fl_RX11_96 dX11_goes_129 ?_
      refine fx_vi X h ym_X6_unsold yi_X6_unsold ys_X6_unsold (fx_s5 (List.mem_of_getElem? (i := 63) rfl) rfl) sh_123 rfl (c_X6_unsold l G (by decide) hT) (As := [.int (M 2 0)]) (rest := [.int (M 2 0)]) rfl rfl ⟨Nat.le_of_ble_eq_true rfl, Nat.le_of_ble_eq_true rfl⟩ ⟨Nat.le_refl _, Nat.le_refl _⟩ hl.1 (Nat.le_of_ble_eq_true rfl) dX11_goes_132 (fun r7 M6 H locs hT h => ?_)
      refine fx_si X h ym_J6_bitCount_0f7a4 yt_J6_bitCount_0f7a4 (fx_s5 (List.mem_of_getElem? (i := 67) rfl) rfl) (c_J6_bitCount_0f7a4 l G hT) (As := [.int r7]) (rest := [.int (M 2 0)]) rfl rfl ⟨Nat.le_of_ble_eq_true rfl, Nat.le_of_ble_eq_true rfl⟩ ⟨Nat.le_refl _, Nat.le_refl _⟩ hl.1 (Nat.le_of_ble_eq_true rfl) dX11_goes_135 (fun r10 M9 H locs hT h => ?_)
      refine lv_isub hx hb dX11_goes_138 ?_
      exact fx_iret X hr hk h hT dX11_goes_139
    · have hT := hT.2 hc1
      refine lv_aload_n hx hb dX11_goes_42 rfl (lv_at hl 0 rfl) ?_
      refine fx_getR X h (k := 0) (j := 5) (r := 131) sh_0 rfl fl_RX11_45 dX11_goes_43 ?_
      refine fx_vi X h ym_X0_passDay yi_X0_passDay ys_X0_passDay (fx_s3 (List.mem_of_getElem? (i := 220) rfl) rfl) sh_131 rfl (c_X0_passDay l G (by decide) hT) (As := []) (rest := []) rfl rfl ⟨Nat.le_of_ble_eq_true rfl, Nat.le_of_ble_eq_true rfl⟩ ⟨Nat.le_refl _, Nat.le_refl _⟩ hl.1 (Nat.le_of_ble_eq_true rfl) dX11_goes_46 (fun r13 M12 H locs hT h => ?_)
      refine lv_pop hx hb dX11_goes_49 rfl ?_
      obtain ⟨y14, ey14⟩ : ∃ z : Int32, z = x3 + (1 : Int32) := ⟨_, rfl⟩
      have hT := hT y14 ey14
      refine lv_iinc (v := y14) (lv' := [(3, .int y14), (0, .ref (G.2.2.2 + 0)), (1, .int x1), (2, .int x2)]) hx hb dX11_goes_50 hl (k := 3) rfl (by rw [ey14]; rfl) (by decide) rfl (fun ls hl => ?_)
      refine lv_goto (tgt := 37) hx hb dX11_goes_53 (by decide) ?_
      exact ih x1 x2 y14 M12 _ _ ls hT h (lv_sub hl [1, 2, 3, 0] rfl)
def T_X11_goes (x1 : Int32) (x2 : Int32) (M : Mm) (K : Int32 → Mm → Prop) : Prop := (T_X11_isWithin x1 (1 : Int32) (60 : Int32) M (fun r17 M16 => ((r17 = 0 → (K (-1 : Int32) M16)) ∧ (¬ r17 = 0 → (T_X11_isWithin x2 (0 : Int32) (3 : Int32) M16 (fun r21 M20 => ((r21 = 0 → (K (-1 : Int32) M20)) ∧ (¬ r21 = 0 → (T_X6_copyFrom 123 8 M20 (fun M24 => (T_X11_goes_37 5000 x1 x2 (0 : Int32) M24 K)))))))))))
set_option maxHeartbeats 4000000 in
set_option maxRecDepth 100000 in
theorem c_X11_goes (l : Launch) (G : fx_G) {x1 : Int32} {x2 : Int32} {M : Mm} {K : Int32 → Mm → Prop} (hT : T_X11_goes x1 x2 M K) : Met l yX11_goes (fx_ws yX11_goes cX11_goes 4 (some .int)) (fx_rm (7)) (va_Pc [.ref (G.2.2.2 + 0), .int x1, .int x2] (fx_P G SH M)) (va_Qi K (fx_R G SH) (fx_A G)) 0 0 (fx_A G) := by
  refine fx_met (own := RX11) (by decide +kernel) rfl (Nat.le_of_ble_eq_true rfl) (fun p e s m below meth c X hr hk h ls hl => ?_)
  obtain ⟨⟨hx, hb, hml, hown, hts⟩, hK, hQ⟩ := id X
  have hl : lv_has ls 4 [(0, .ref (G.2.2.2 + 0)), (1, .int x1), (2, .int x2)] := hl
  unfold T_X11_goes at hT
  refine lv_iload_n hx hb dX11_goes_0 rfl (lv_at hl 1 rfl) ?_
  refine lv_iconst (v := 1) hx hb dX11_goes_1 (by decide) ?_
  refine lv_bipush (v := 60) hx hb dX11_goes_2 (by decide) ?_
  refine fx_si X h ym_X11_isWithin yt_X11_isWithin (fx_s3 (List.mem_of_getElem? (i := 64) rfl) rfl) (c_X11_isWithin l G hT) (As := [.int x1, .int (1 : Int32), .int (60 : Int32)]) (rest := []) rfl rfl ⟨Nat.le_of_ble_eq_true rfl, Nat.le_of_ble_eq_true rfl⟩ ⟨Nat.le_refl _, Nat.le_refl _⟩ hl.1 (Nat.le_of_ble_eq_true rfl) dX11_goes_4 (fun r17 M16 H locs hT h => ?_)
  refine lv_if_eq (tgt := 19) hx hb dX11_goes_7 (by decide) (fun hc18 => ?_) (fun hc18 => ?_)
  · have hT := hT.1 hc18
    refine lv_iconst (v := -1) hx hb dX11_goes_19 (by decide) ?_
    exact fx_iret X hr hk h hT dX11_goes_20
  · have hT := hT.2 hc18
    refine lv_iload_n hx hb dX11_goes_10 rfl (lv_at hl 2 rfl) ?_
    refine lv_iconst (v := 0) hx hb dX11_goes_11 (by decide) ?_
    refine lv_iconst (v := 3) hx hb dX11_goes_12 (by decide) ?_
    refine fx_si X h ym_X11_isWithin yt_X11_isWithin (fx_s3 (List.mem_of_getElem? (i := 64) rfl) rfl) (c_X11_isWithin l G hT) (As := [.int x2, .int (0 : Int32), .int (3 : Int32)]) (rest := []) rfl rfl ⟨Nat.le_of_ble_eq_true rfl, Nat.le_of_ble_eq_true rfl⟩ ⟨Nat.le_refl _, Nat.le_refl _⟩ hl.1 (Nat.le_of_ble_eq_true rfl) dX11_goes_13 (fun r21 M20 H locs hT h => ?_)
    refine lv_if_ne (tgt := 21) hx hb dX11_goes_16 (by decide) (fun hc22 => ?_) (fun hc22 => ?_)
    · have hT := hT.2 hc22
      refine lv_aload_n hx hb dX11_goes_21 rfl (lv_at hl 0 rfl) ?_
      refine fx_getR X h (k := 0) (j := 3) (r := 123) sh_0 rfl fl_RX11_29 dX11_goes_22 ?_
      refine lv_aload_n hx hb dX11_goes_25 rfl (lv_at hl 0 rfl) ?_
      refine fx_getR X h (k := 0) (j := 0) (r := 1) sh_0 rfl fl_RX11_12 dX11_goes_26 ?_
      refine fx_getR X h (k := 1) (j := 1) (r := 8) sh_1 rfl fl_RX11_35 dX11_goes_29 ?_
      refine fx_vv X h ym_X6_copyFrom yi_X6_copyFrom ys_X6_copyFrom (fx_s5 (List.mem_of_getElem? (i := 57) rfl) rfl) sh_123 rfl (c_X6_copyFrom l G (by decide) (by decide) hT) (As := [.ref (G.2.2.2 + 8)]) (rest := []) rfl rfl ⟨Nat.le_of_ble_eq_true rfl, Nat.le_of_ble_eq_true rfl⟩ ⟨Nat.le_refl _, Nat.le_refl _⟩ hl.1 (Nat.le_of_ble_eq_true rfl) dX11_goes_32 (fun M24 H locs hT h => ?_)
      refine lv_iconst (v := 0) hx hb dX11_goes_35 (by decide) ?_
      refine lv_istore_n (lv' := [(3, .int (0 : Int32)), (0, .ref (G.2.2.2 + 0)), (1, .int x1), (2, .int x2)]) hx hb dX11_goes_36 rfl hl (by decide) rfl (fun ls hl => ?_)
      exact w_X11_goes_37 X hr hk 5000 x1 x2 (0 : Int32) M24 _ _ ls hT h (lv_sub hl [1, 2, 3, 0] rfl)
    · have hT := hT.1 hc22
      refine lv_iconst (v := -1) hx hb dX11_goes_19 (by decide) ?_
      exact fx_iret X hr hk h hT dX11_goes_20
/-! MockParcels.weighs(II)Z -/
theorem dX11_weighs_0 : decode cX11_weighs 0 = .ok (.iload_n 1, 1) := by decide +kernel
theorem dX11_weighs_1 : decode cX11_weighs 1 = .ok (.iconst 1, 1) := by decide +kernel
theorem dX11_weighs_2 : decode cX11_weighs 2 = .ok (.bipush 7, 2) := by decide +kernel
theorem dX11_weighs_4 : decode cX11_weighs 4 = .ok (.invokestatic 88, 3) := by decide +kernel
theorem dX11_weighs_7 : decode cX11_weighs 7 = .ok (.ifCond .eq 13, 3) := by decide +kernel
theorem dX11_weighs_10 : decode cX11_weighs 10 = .ok (.iload_n 2, 1) := by decide +kernel
theorem dX11_weighs_11 : decode cX11_weighs 11 = .ok (.iconst 0, 1) := by decide +kernel
theorem dX11_weighs_12 : decode cX11_weighs 12 = .ok (.bipush 99, 2) := by decide +kernel
theorem dX11_weighs_14 : decode cX11_weighs 14 = .ok (.invokestatic 88, 3) := by decide +kernel
theorem dX11_weighs_17 : decode cX11_weighs 17 = .ok (.ifCond .ne 5, 3) := by decide +kernel
theorem dX11_weighs_20 : decode cX11_weighs 20 = .ok (.iconst 0, 1) := by decide +kernel
theorem dX11_weighs_21 : decode cX11_weighs 21 = .ok (.ireturn, 1) := by decide +kernel
theorem dX11_weighs_22 : decode cX11_weighs 22 = .ok (.aload_n 0, 1) := by decide +kernel
theorem dX11_weighs_23 : decode cX11_weighs 23 = .ok (.getfield 12, 3) := by decide +kernel
theorem dX11_weighs_26 : decode cX11_weighs 26 = .ok (.getfield 292, 3) := by decide +kernel
theorem dX11_weighs_29 : decode cX11_weighs 29 = .ok (.getfield 296, 3) := by decide +kernel
theorem dX11_weighs_32 : decode cX11_weighs 32 = .ok (.iload_n 1, 1) := by decide +kernel
theorem dX11_weighs_33 : decode cX11_weighs 33 = .ok (.iload_n 2, 1) := by decide +kernel
theorem dX11_weighs_34 : decode cX11_weighs 34 = .ok (.iastore, 1) := by decide +kernel
theorem dX11_weighs_35 : decode cX11_weighs 35 = .ok (.iconst 1, 1) := by decide +kernel
theorem dX11_weighs_36 : decode cX11_weighs 36 = .ok (.ireturn, 1) := by decide +kernel
def T_X11_weighs (x1 : Int32) (x2 : Int32) (M : Mm) (K : Int32 → Mm → Prop) : Prop := (T_X11_isWithin x1 (1 : Int32) (7 : Int32) M (fun r3 M2 => ((r3 = 0 → (K (0 : Int32) M2)) ∧ (¬ r3 = 0 → (T_X11_isWithin x2 (0 : Int32) (99 : Int32) M2 (fun r7 M6 => ((r7 = 0 → (K (0 : Int32) M6)) ∧ (¬ r7 = 0 → (vp_in x1 8 ∧ (∀ M9 : Mm, M9 = m_up M6 31 (x1).toNatClampNeg x2 → (K (1 : Int32) M9)))))))))))
set_option maxHeartbeats 4000000 in
set_option maxRecDepth 100000 in
theorem c_X11_weighs (l : Launch) (G : fx_G) {x1 : Int32} {x2 : Int32} {M : Mm} {K : Int32 → Mm → Prop} (hT : T_X11_weighs x1 x2 M K) : Met l yX11_weighs (fx_ws yX11_weighs cX11_weighs 3 (some .boolean)) (fx_rm (1)) (va_Pc [.ref (G.2.2.2 + 0), .int x1, .int x2] (fx_P G SH M)) (va_Qi K (fx_R G SH) (fx_A G)) 0 0 (fx_A G) := by
  refine fx_met (own := RX11) (by decide +kernel) rfl (Nat.le_of_ble_eq_true rfl) (fun p e s m below meth c X hr hk h ls hl => ?_)
  obtain ⟨⟨hx, hb, hml, hown, hts⟩, hK, hQ⟩ := id X
  have hl : lv_has ls 3 [(0, .ref (G.2.2.2 + 0)), (1, .int x1), (2, .int x2)] := hl
  unfold T_X11_weighs at hT
  refine lv_iload_n hx hb dX11_weighs_0 rfl (lv_at hl 1 rfl) ?_
  refine lv_iconst (v := 1) hx hb dX11_weighs_1 (by decide) ?_
  refine lv_bipush (v := 7) hx hb dX11_weighs_2 (by decide) ?_
  refine fx_si X h ym_X11_isWithin yt_X11_isWithin (fx_s3 (List.mem_of_getElem? (i := 64) rfl) rfl) (c_X11_isWithin l G hT) (As := [.int x1, .int (1 : Int32), .int (7 : Int32)]) (rest := []) rfl rfl ⟨Nat.le_of_ble_eq_true rfl, Nat.le_of_ble_eq_true rfl⟩ ⟨Nat.le_refl _, Nat.le_refl _⟩ hl.1 (Nat.le_of_ble_eq_true rfl) dX11_weighs_4 (fun r3 M2 H locs hT h => ?_)
  refine lv_if_eq (tgt := 20) hx hb dX11_weighs_7 (by decide) (fun hc4 => ?_) (fun hc4 => ?_)
  · have hT := hT.1 hc4
    refine lv_iconst (v := 0) hx hb dX11_weighs_20 (by decide) ?_
    exact fx_zret X hr hk h (Or.inl rfl) hT dX11_weighs_21
  · have hT := hT.2 hc4
    refine lv_iload_n hx hb dX11_weighs_10 rfl (lv_at hl 2 rfl) ?_
    refine lv_iconst (v := 0) hx hb dX11_weighs_11 (by decide) ?_
    refine lv_bipush (v := 99) hx hb dX11_weighs_12 (by decide) ?_
    refine fx_si X h ym_X11_isWithin yt_X11_isWithin (fx_s3 (List.mem_of_getElem? (i := 64) rfl) rfl) (c_X11_isWithin l G hT) (As := [.int x2, .int (0 : Int32), .int (99 : Int32)]) (rest := []) rfl rfl ⟨Nat.le_of_ble_eq_true rfl, Nat.le_of_ble_eq_true rfl⟩ ⟨Nat.le_refl _, Nat.le_refl _⟩ hl.1 (Nat.le_of_ble_eq_true rfl) dX11_weighs_14 (fun r7 M6 H locs hT h => ?_)
    refine lv_if_ne (tgt := 22) hx hb dX11_weighs_17 (by decide) (fun hc8 => ?_) (fun hc8 => ?_)
    · have hT := hT.2 hc8
      refine lv_aload_n hx hb dX11_weighs_22 rfl (lv_at hl 0 rfl) ?_
      refine fx_getR X h (k := 0) (j := 0) (r := 1) sh_0 rfl fl_RX11_12 dX11_weighs_23 ?_
      refine fx_getR X h (k := 1) (j := 5) (r := 30) sh_1 rfl fl_RX11_292 dX11_weighs_26 ?_
      refine fx_getR X h (k := 30) (j := 0) (r := 31) sh_30 rfl fl_RX11_296 dX11_weighs_29 ?_
      refine lv_iload_n hx hb dX11_weighs_32 rfl (lv_at hl 1 rfl) ?_
      refine lv_iload_n hx hb dX11_weighs_33 rfl (lv_at hl 2 rfl) ?_
      obtain ⟨hi10, hT⟩ := hT
      refine fx_iast X h (k := 31) sh_31 hi10 dX11_weighs_34 (fun H locs h => ?_)
      obtain ⟨M9, eM9⟩ : ∃ z : Mm, z = m_up M6 31 (x1).toNatClampNeg x2 := ⟨_, rfl⟩
      have hT := hT M9 eM9
      rw [← eM9] at h
      refine lv_iconst (v := 1) hx hb dX11_weighs_35 (by decide) ?_
      exact fx_zret X hr hk h (Or.inr rfl) hT dX11_weighs_36
    · have hT := hT.1 hc8
      refine lv_iconst (v := 0) hx hb dX11_weighs_20 (by decide) ?_
      exact fx_zret X hr hk h (Or.inl rfl) hT dX11_weighs_21
/-! MockParcels.inside(II)I -/
theorem dX11_inside_0 : decode cX11_inside 0 = .ok (.aload_n 0, 1) := by decide +kernel
theorem dX11_inside_1 : decode cX11_inside 1 = .ok (.getfield 12, 3) := by decide +kernel
theorem dX11_inside_4 : decode cX11_inside 4 = .ok (.getfield 92, 3) := by decide +kernel
theorem dX11_inside_7 : decode cX11_inside 7 = .ok (.iload_n 1, 1) := by decide +kernel
theorem dX11_inside_8 : decode cX11_inside 8 = .ok (.invokevirtual 138, 3) := by decide +kernel
theorem dX11_inside_11 : decode cX11_inside 11 = .ok (.ifCond .eq 12, 3) := by decide +kernel
theorem dX11_inside_14 : decode cX11_inside 14 = .ok (.iload_n 2, 1) := by decide +kernel
theorem dX11_inside_15 : decode cX11_inside 15 = .ok (.iconst 0, 1) := by decide +kernel
theorem dX11_inside_16 : decode cX11_inside 16 = .ok (.iconst 1, 1) := by decide +kernel
theorem dX11_inside_17 : decode cX11_inside 17 = .ok (.invokestatic 88, 3) := by decide +kernel
theorem dX11_inside_20 : decode cX11_inside 20 = .ok (.ifCond .ne 5, 3) := by decide +kernel
theorem dX11_inside_23 : decode cX11_inside 23 = .ok (.iconst (-1), 1) := by decide +kernel
theorem dX11_inside_24 : decode cX11_inside 24 = .ok (.ireturn, 1) := by decide +kernel
theorem dX11_inside_25 : decode cX11_inside 25 = .ok (.aload_n 0, 1) := by decide +kernel
theorem dX11_inside_26 : decode cX11_inside 26 = .ok (.getfield 12, 3) := by decide +kernel
theorem dX11_inside_29 : decode cX11_inside 29 = .ok (.getfield 92, 3) := by decide +kernel
theorem dX11_inside_32 : decode cX11_inside 32 = .ok (.getfield 230, 3) := by decide +kernel
theorem dX11_inside_35 : decode cX11_inside 35 = .ok (.iload_n 1, 1) := by decide +kernel
theorem dX11_inside_36 : decode cX11_inside 36 = .ok (.iaload, 1) := by decide +kernel
theorem dX11_inside_37 : decode cX11_inside 37 = .ok (.istore_n 3, 1) := by decide +kernel
theorem dX11_inside_38 : decode cX11_inside 38 = .ok (.aload_n 0, 1) := by decide +kernel
theorem dX11_inside_39 : decode cX11_inside 39 = .ok (.getfield 67, 3) := by decide +kernel
theorem dX11_inside_42 : decode cX11_inside 42 = .ok (.aload_n 0, 1) := by decide +kernel
theorem dX11_inside_43 : decode cX11_inside 43 = .ok (.getfield 12, 3) := by decide +kernel
theorem dX11_inside_46 : decode cX11_inside 46 = .ok (.getfield 292, 3) := by decide +kernel
theorem dX11_inside_49 : decode cX11_inside 49 = .ok (.getfield 296, 3) := by decide +kernel
theorem dX11_inside_52 : decode cX11_inside 52 = .ok (.bipush 8, 2) := by decide +kernel
theorem dX11_inside_54 : decode cX11_inside 54 = .ok (.iload_n 3, 1) := by decide +kernel
theorem dX11_inside_55 : decode cX11_inside 55 = .ok (.invokevirtual 301, 3) := by decide +kernel
theorem dX11_inside_58 : decode cX11_inside 58 = .ok (.iload_n 2, 1) := by decide +kernel
theorem dX11_inside_59 : decode cX11_inside 59 = .ok (.ifCond .ne 15, 3) := by decide +kernel
theorem dX11_inside_62 : decode cX11_inside 62 = .ok (.aload_n 0, 1) := by decide +kernel
theorem dX11_inside_63 : decode cX11_inside 63 = .ok (.getfield 67, 3) := by decide +kernel
theorem dX11_inside_66 : decode cX11_inside 66 = .ok (.getfield 305, 3) := by decide +kernel
theorem dX11_inside_69 : decode cX11_inside 69 = .ok (.iload_n 3, 1) := by decide +kernel
theorem dX11_inside_70 : decode cX11_inside 70 = .ok (.iaload, 1) := by decide +kernel
theorem dX11_inside_71 : decode cX11_inside 71 = .ok (.goto 12, 3) := by decide +kernel
theorem dX11_inside_74 : decode cX11_inside 74 = .ok (.aload_n 0, 1) := by decide +kernel
theorem dX11_inside_75 : decode cX11_inside 75 = .ok (.getfield 67, 3) := by decide +kernel
theorem dX11_inside_78 : decode cX11_inside 78 = .ok (.getfield 308, 3) := by decide +kernel
theorem dX11_inside_81 : decode cX11_inside 81 = .ok (.iload_n 3, 1) := by decide +kernel
theorem dX11_inside_82 : decode cX11_inside 82 = .ok (.iaload, 1) := by decide +kernel
theorem dX11_inside_83 : decode cX11_inside 83 = .ok (.ireturn, 1) := by decide +kernel
def T_X11_inside (x1 : Int32) (x2 : Int32) (M : Mm) (K : Int32 → Mm → Prop) : Prop := (T_X1_hasParcel 2 x1 M (fun r3 M2 => ((r3 = 0 → (K (-1 : Int32) M2)) ∧ (¬ r3 = 0 → (T_X11_isWithin x2 (0 : Int32) (1 : Int32) M2 (fun r7 M6 => ((r7 = 0 → (K (-1 : Int32) M6)) ∧ (¬ r7 = 0 → (vp_in x1 16 ∧ (∀ y10 : Int32, y10 = (M6 3 (x1).toNatClampNeg) → (T_X8_change 31 (8 : Int32) y10 M6 (fun M12 => ((x2 = 0 → (vp_in y10 1000 ∧ (K (M12 153 (y10).toNatClampNeg) M12))) ∧ (¬ x2 = 0 → (vp_in y10 1000 ∧ (K (M12 152 (y10).toNatClampNeg) M12))))))))))))))))
set_option maxHeartbeats 4000000 in
set_option maxRecDepth 100000 in
theorem c_X11_inside (l : Launch) (G : fx_G) {x1 : Int32} {x2 : Int32} {M : Mm} {K : Int32 → Mm → Prop} (hT : T_X11_inside x1 x2 M K) : Met l yX11_inside (fx_ws yX11_inside cX11_inside 4 (some .int)) (fx_rm (3)) (va_Pc [.ref (G.2.2.2 + 0), .int x1, .int x2] (fx_P G SH M)) (va_Qi K (fx_R G SH) (fx_A G)) 0 0 (fx_A G) := by
  refine fx_met (own := RX11) (by decide +kernel) rfl (Nat.le_of_ble_eq_true rfl) (fun p e s m below meth c X hr hk h ls hl => ?_)
  obtain ⟨⟨hx, hb, hml, hown, hts⟩, hK, hQ⟩ := id X
  have hl : lv_has ls 4 [(0, .ref (G.2.2.2 + 0)), (1, .int x1), (2, .int x2)] := hl
  unfold T_X11_inside at hT
  refine lv_aload_n hx hb dX11_inside_0 rfl (lv_at hl 0 rfl) ?_
  refine fx_getR X h (k := 0) (j := 0) (r := 1) sh_0 rfl fl_RX11_12 dX11_inside_1 ?_
  refine fx_getR X h (k := 1) (j := 0) (r := 2) sh_1 rfl fl_RX11_92 dX11_inside_4 ?_
  refine lv_iload_n hx hb dX11_inside_7 rfl (lv_at hl 1 rfl) ?_
  refine fx_vi X h ym_X1_hasParcel yi_X1_hasParcel ys_X1_hasParcel (fx_s3 (List.mem_of_getElem? (i := 91) rfl) rfl) sh_2 rfl (c_X1_hasParcel l G (by decide) hT) (As := [.int x1]) (rest := []) rfl rfl ⟨Nat.le_of_ble_eq_true rfl, Nat.le_of_ble_eq_true rfl⟩ ⟨Nat.le_refl _, Nat.le_refl _⟩ hl.1 (Nat.le_of_ble_eq_true rfl) dX11_inside_8 (fun r3 M2 H locs hT h => ?_)
  refine lv_if_eq (tgt := 23) hx hb dX11_inside_11 (by decide) (fun hc4 => ?_) (fun hc4 => ?_)
  · have hT := hT.1 hc4
    refine lv_iconst (v := -1) hx hb dX11_inside_23 (by decide) ?_
    exact fx_iret X hr hk h hT dX11_inside_24
  · have hT := hT.2 hc4
    refine lv_iload_n hx hb dX11_inside_14 rfl (lv_at hl 2 rfl) ?_
    refine lv_iconst (v := 0) hx hb dX11_inside_15 (by decide) ?_
    refine lv_iconst (v := 1) hx hb dX11_inside_16 (by decide) ?_
    refine fx_si X h ym_X11_isWithin yt_X11_isWithin (fx_s3 (List.mem_of_getElem? (i := 64) rfl) rfl) (c_X11_isWithin l G hT) (As := [.int x2, .int (0 : Int32), .int (1 : Int32)]) (rest := []) rfl rfl ⟨Nat.le_of_ble_eq_true rfl, Nat.le_of_ble_eq_true rfl⟩ ⟨Nat.le_refl _, Nat.le_refl _⟩ hl.1 (Nat.le_of_ble_eq_true rfl) dX11_inside_17 (fun r7 M6 H locs hT h => ?_)
    refine lv_if_ne (tgt := 25) hx hb dX11_inside_20 (by decide) (fun hc8 => ?_) (fun hc8 => ?_)
    · have hT := hT.2 hc8
      refine lv_aload_n hx hb dX11_inside_25 rfl (lv_at hl 0 rfl) ?_
      refine fx_getR X h (k := 0) (j := 0) (r := 1) sh_0 rfl fl_RX11_12 dX11_inside_26 ?_
      refine fx_getR X h (k := 1) (j := 0) (r := 2) sh_1 rfl fl_RX11_92 dX11_inside_29 ?_
      refine fx_getR X h (k := 2) (j := 2) (r := 3) sh_2 rfl fl_RX11_230 dX11_inside_32 ?_
      refine lv_iload_n hx hb dX11_inside_35 rfl (lv_at hl 1 rfl) ?_
      obtain ⟨hi9, hT⟩ := hT
      refine fx_iald X h (k := 3) sh_3 hi9 dX11_inside_36 ?_
      refine lv_topi (fun y10 ey10 => ?_)
      have hT := hT y10 ey10
      refine lv_istore_n (lv' := [(3, .int y10), (0, .ref (G.2.2.2 + 0)), (1, .int x1), (2, .int x2)]) hx hb dX11_inside_37 rfl hl (by decide) rfl (fun ls hl => ?_)
      refine lv_aload_n hx hb dX11_inside_38 rfl (lv_at hl 1 rfl) ?_
      refine fx_getR X h (k := 0) (j := 8) (r := 151) sh_0 rfl fl_RX11_67 dX11_inside_39 ?_
      refine lv_aload_n hx hb dX11_inside_42 rfl (lv_at hl 1 rfl) ?_
      refine fx_getR X h (k := 0) (j := 0) (r := 1) sh_0 rfl fl_RX11_12 dX11_inside_43 ?_
      refine fx_getR X h (k := 1) (j := 5) (r := 30) sh_1 rfl fl_RX11_292 dX11_inside_46 ?_
      refine fx_getR X h (k := 30) (j := 0) (r := 31) sh_30 rfl fl_RX11_296 dX11_inside_49 ?_
      refine lv_bipush (v := 8) hx hb dX11_inside_52 (by decide) ?_
      refine lv_iload_n hx hb dX11_inside_54 rfl (lv_at hl 0 rfl) ?_
      refine fx_vv X h ym_X8_change yi_X8_change ys_X8_change (fx_s5 (List.mem_of_getElem? (i := 81) rfl) rfl) sh_151 rfl (c_X8_change l G (ln_of sh_31) hT) (As := [.ref (G.2.2.2 + 31), .int (8 : Int32), .int y10]) (rest := []) rfl rfl ⟨Nat.le_of_ble_eq_true rfl, Nat.le_of_ble_eq_true rfl⟩ ⟨Nat.le_refl _, Nat.le_refl _⟩ hl.1 (Nat.le_of_ble_eq_true rfl) dX11_inside_55 (fun M12 H locs hT h => ?_)
      refine lv_iload_n hx hb dX11_inside_58 rfl (lv_at hl 3 rfl) ?_
      refine lv_if_ne (tgt := 74) hx hb dX11_inside_59 (by decide) (fun hc13 => ?_) (fun hc13 => ?_)
      · have hT := hT.2 hc13
        refine lv_aload_n hx hb dX11_inside_74 rfl (lv_at hl 1 rfl) ?_
        refine fx_getR X h (k := 0) (j := 8) (r := 151) sh_0 rfl fl_RX11_67 dX11_inside_75 ?_
        refine fx_getR X h (k := 151) (j := 0) (r := 152) sh_151 rfl fl_RX11_308 dX11_inside_78 ?_
        refine lv_iload_n hx hb dX11_inside_81 rfl (lv_at hl 0 rfl) ?_
        obtain ⟨hi14, hT⟩ := hT
        refine fx_iald X h (k := 152) sh_152 hi14 dX11_inside_82 ?_
        exact fx_iret X hr hk h hT dX11_inside_83
      · have hT := hT.1 hc13
        refine lv_aload_n hx hb dX11_inside_62 rfl (lv_at hl 1 rfl) ?_
        refine fx_getR X h (k := 0) (j := 8) (r := 151) sh_0 rfl fl_RX11_67 dX11_inside_63 ?_
        refine fx_getR X h (k := 151) (j := 1) (r := 153) sh_151 rfl fl_RX11_305 dX11_inside_66 ?_
        refine lv_iload_n hx hb dX11_inside_69 rfl (lv_at hl 0 rfl) ?_
        obtain ⟨hi15, hT⟩ := hT
        refine fx_iald X h (k := 153) sh_153 hi15 dX11_inside_70 ?_
        refine lv_goto (tgt := 83) hx hb dX11_inside_71 (by decide) ?_
        exact fx_iret X hr hk h hT dX11_inside_83
    · have hT := hT.1 hc8
      refine lv_iconst (v := -1) hx hb dX11_inside_23 (by decide) ?_
      exact fx_iret X hr hk h hT dX11_inside_24
/-! MockParcels.length(I)I -/
theorem dX11_length_0 : decode cX11_length 0 = .ok (.iload_n 1, 1) := by decide +kernel
theorem dX11_length_1 : decode cX11_length 1 = .ok (.iconst (-1), 1) := by decide +kernel
theorem dX11_length_2 : decode cX11_length 2 = .ok (.if_icmp .ne 16, 3) := by decide +kernel
theorem dX11_length_5 : decode cX11_length 5 = .ok (.aload_n 0, 1) := by decide +kernel
theorem dX11_length_6 : decode cX11_length 6 = .ok (.getfield 12, 3) := by decide +kernel
theorem dX11_length_9 : decode cX11_length 9 = .ok (.getfield 292, 3) := by decide +kernel
theorem dX11_length_12 : decode cX11_length 12 = .ok (.iconst 0, 1) := by decide +kernel
theorem dX11_length_13 : decode cX11_length 13 = .ok (.putfield 311, 3) := by decide +kernel
theorem dX11_length_16 : decode cX11_length 16 = .ok (.iconst 0, 1) := by decide +kernel
theorem dX11_length_17 : decode cX11_length 17 = .ok (.ireturn, 1) := by decide +kernel
theorem dX11_length_18 : decode cX11_length 18 = .ok (.iload_n 1, 1) := by decide +kernel
theorem dX11_length_19 : decode cX11_length 19 = .ok (.iconst 1, 1) := by decide +kernel
theorem dX11_length_20 : decode cX11_length 20 = .ok (.bipush 60, 2) := by decide +kernel
theorem dX11_length_22 : decode cX11_length 22 = .ok (.invokestatic 88, 3) := by decide +kernel
theorem dX11_length_25 : decode cX11_length 25 = .ok (.ifCond .eq 18, 3) := by decide +kernel
theorem dX11_length_28 : decode cX11_length 28 = .ok (.aload_n 0, 1) := by decide +kernel
theorem dX11_length_29 : decode cX11_length 29 = .ok (.getfield 12, 3) := by decide +kernel
theorem dX11_length_32 : decode cX11_length 32 = .ok (.getfield 292, 3) := by decide +kernel
theorem dX11_length_35 : decode cX11_length 35 = .ok (.getfield 311, 3) := by decide +kernel
theorem dX11_length_38 : decode cX11_length 38 = .ok (.bipush 9, 2) := by decide +kernel
theorem dX11_length_40 : decode cX11_length 40 = .ok (.if_icmp .lt 5, 3) := by decide +kernel
theorem dX11_length_43 : decode cX11_length 43 = .ok (.iconst (-1), 1) := by decide +kernel
theorem dX11_length_44 : decode cX11_length 44 = .ok (.ireturn, 1) := by decide +kernel
theorem dX11_length_45 : decode cX11_length 45 = .ok (.aload_n 0, 1) := by decide +kernel
theorem dX11_length_46 : decode cX11_length 46 = .ok (.getfield 12, 3) := by decide +kernel
theorem dX11_length_49 : decode cX11_length 49 = .ok (.getfield 292, 3) := by decide +kernel
theorem dX11_length_52 : decode cX11_length 52 = .ok (.getfield 314, 3) := by decide +kernel
theorem dX11_length_55 : decode cX11_length 55 = .ok (.aload_n 0, 1) := by decide +kernel
theorem dX11_length_56 : decode cX11_length 56 = .ok (.getfield 12, 3) := by decide +kernel
theorem dX11_length_59 : decode cX11_length 59 = .ok (.getfield 292, 3) := by decide +kernel
theorem dX11_length_62 : decode cX11_length 62 = .ok (.getfield 311, 3) := by decide +kernel
theorem dX11_length_65 : decode cX11_length 65 = .ok (.iload_n 1, 1) := by decide +kernel
theorem dX11_length_66 : decode cX11_length 66 = .ok (.iastore, 1) := by decide +kernel
theorem dX11_length_67 : decode cX11_length 67 = .ok (.aload_n 0, 1) := by decide +kernel
theorem dX11_length_68 : decode cX11_length 68 = .ok (.getfield 12, 3) := by decide +kernel
theorem dX11_length_71 : decode cX11_length 71 = .ok (.getfield 292, 3) := by decide +kernel
theorem dX11_length_74 : decode cX11_length 74 = .ok (.dup, 1) := by decide +kernel
theorem dX11_length_75 : decode cX11_length 75 = .ok (.getfield 311, 3) := by decide +kernel
theorem dX11_length_78 : decode cX11_length 78 = .ok (.iconst 1, 1) := by decide +kernel
theorem dX11_length_79 : decode cX11_length 79 = .ok (.iadd, 1) := by decide +kernel
theorem dX11_length_80 : decode cX11_length 80 = .ok (.putfield 311, 3) := by decide +kernel
theorem dX11_length_83 : decode cX11_length 83 = .ok (.aload_n 0, 1) := by decide +kernel
theorem dX11_length_84 : decode cX11_length 84 = .ok (.getfield 12, 3) := by decide +kernel
theorem dX11_length_87 : decode cX11_length 87 = .ok (.getfield 292, 3) := by decide +kernel
theorem dX11_length_90 : decode cX11_length 90 = .ok (.getfield 311, 3) := by decide +kernel
theorem dX11_length_93 : decode cX11_length 93 = .ok (.ireturn, 1) := by decide +kernel
def T_X11_length (x1 : Int32) (M : Mm) (K : Int32 → Mm → Prop) : Prop := ((x1 = (-1 : Int32) → (∀ M10 : Mm, M10 = m_up M 30 9 (0 : Int32) → (K (0 : Int32) M10))) ∧ (¬ x1 = (-1 : Int32) → (T_X11_isWithin x1 (1 : Int32) (60 : Int32) M (fun r4 M3 => ((r4 = 0 → (K (-1 : Int32) M3)) ∧ (¬ r4 = 0 → (((M3 30 9) < (9 : Int32) → (vp_in (M3 30 9) 9 ∧ (∀ M7 : Mm, M7 = m_up M3 32 ((M3 30 9)).toNatClampNeg x1 → (∀ M9 : Mm, M9 = m_up M7 30 9 ((M7 30 9) + (1 : Int32)) → (K (M9 30 9) M9))))) ∧ (¬ (M3 30 9) < (9 : Int32) → (K (-1 : Int32) M3)))))))))
set_option maxHeartbeats 4000000 in
set_option maxRecDepth 100000 in
theorem c_X11_length (l : Launch) (G : fx_G) {x1 : Int32} {M : Mm} {K : Int32 → Mm → Prop} (hT : T_X11_length x1 M K) : Met l yX11_length (fx_ws yX11_length cX11_length 2 (some .int)) (fx_rm (1)) (va_Pc [.ref (G.2.2.2 + 0), .int x1] (fx_P G SH M)) (va_Qi K (fx_R G SH) (fx_A G)) 0 0 (fx_A G) := by
  refine fx_met (own := RX11) (by decide +kernel) rfl (Nat.le_of_ble_eq_true rfl) (fun p e s m below meth c X hr hk h ls hl => ?_)
  obtain ⟨⟨hx, hb, hml, hown, hts⟩, hK, hQ⟩ := id X
  have hl : lv_has ls 2 [(0, .ref (G.2.2.2 + 0)), (1, .int x1)] := hl
  unfold T_X11_length at hT
  refine lv_iload_n hx hb dX11_length_0 rfl (lv_at hl 1 rfl) ?_
  refine lv_iconst (v := -1) hx hb dX11_length_1 (by decide) ?_
  refine lv_icmp_ne (tgt := 18) hx hb dX11_length_2 (by decide) (fun hc1 => ?_) (fun hc1 => ?_)
  · have hT := hT.2 hc1
    refine lv_iload_n hx hb dX11_length_18 rfl (lv_at hl 1 rfl) ?_
    refine lv_iconst (v := 1) hx hb dX11_length_19 (by decide) ?_
    refine lv_bipush (v := 60) hx hb dX11_length_20 (by decide) ?_
    refine fx_si X h ym_X11_isWithin yt_X11_isWithin (fx_s3 (List.mem_of_getElem? (i := 64) rfl) rfl) (c_X11_isWithin l G hT) (As := [.int x1, .int (1 : Int32), .int (60 : Int32)]) (rest := []) rfl rfl ⟨Nat.le_of_ble_eq_true rfl, Nat.le_of_ble_eq_true rfl⟩ ⟨Nat.le_refl _, Nat.le_refl _⟩ hl.1 (Nat.le_of_ble_eq_true rfl) dX11_length_22 (fun r4 M3 H locs hT h => ?_)
    refine lv_if_eq (tgt := 43) hx hb dX11_length_25 (by decide) (fun hc5 => ?_) (fun hc5 => ?_)
    · have hT := hT.1 hc5
      refine lv_iconst (v := -1) hx hb dX11_length_43 (by decide) ?_
      exact fx_iret X hr hk h hT dX11_length_44
    · have hT := hT.2 hc5
      refine lv_aload_n hx hb dX11_length_28 rfl (lv_at hl 0 rfl) ?_
      refine fx_getR X h (k := 0) (j := 0) (r := 1) sh_0 rfl fl_RX11_12 dX11_length_29 ?_
      refine fx_getR X h (k := 1) (j := 5) (r := 30) sh_1 rfl fl_RX11_292 dX11_length_32 ?_
      refine fx_getI X h (k := 30) (j := 9) sh_30 rfl fl_RX11_311 dX11_length_35 ?_
      refine lv_bipush (v := 9) hx hb dX11_length_38 (by decide) ?_
      refine lv_icmp_lt (tgt := 45) hx hb dX11_length_40 (by decide) (fun hc6 => ?_) (fun hc6 => ?_)
      · have hT := hT.1 hc6
        refine lv_aload_n hx hb dX11_length_45 rfl (lv_at hl 0 rfl) ?_
        refine fx_getR X h (k := 0) (j := 0) (r := 1) sh_0 rfl fl_RX11_12 dX11_length_46 ?_
        refine fx_getR X h (k := 1) (j := 5) (r := 30) sh_1 rfl fl_RX11_292 dX11_length_49 ?_
        refine fx_getR X h (k := 30) (j := 1) (r := 32) sh_30 rfl fl_RX11_314 dX11_length_52 ?_
        refine lv_aload_n hx hb dX11_length_55 rfl (lv_at hl 0 rfl) ?_
        refine fx_getR X h (k := 0) (j := 0) (r := 1) sh_0 rfl fl_RX11_12 dX11_length_56 ?_
        refine fx_getR X h (k := 1) (j := 5) (r := 30) sh_1 rfl fl_RX11_292 dX11_length_59 ?_
        refine fx_getI X h (k := 30) (j := 9) sh_30 rfl fl_RX11_311 dX11_length_62 ?_
        refine lv_iload_n hx hb dX11_length_65 rfl (lv_at hl 1 rfl) ?_
        obtain ⟨hi8, hT⟩ := hT
        refine fx_iast X h (k := 32) sh_32 hi8 dX11_length_66 (fun H locs h => ?_)
        obtain ⟨M7, eM7⟩ : ∃ z : Mm, z = m_up M3 32 ((M3 30 9)).toNatClampNeg x1 := ⟨_, rfl⟩
        have hT := hT M7 eM7
        rw [← eM7] at h
        refine lv_aload_n hx hb dX11_length_67 rfl (lv_at hl 0 rfl) ?_
        refine fx_getR X h (k := 0) (j := 0) (r := 1) sh_0 rfl fl_RX11_12 dX11_length_68 ?_
        refine fx_getR X h (k := 1) (j := 5) (r := 30) sh_1 rfl fl_RX11_292 dX11_length_71 ?_
        refine lv_dup hx hb dX11_length_74 rfl ?_
        refine fx_getI X h (k := 30) (j := 9) sh_30 rfl fl_RX11_311 dX11_length_75 ?_
        refine lv_iconst (v := 1) hx hb dX11_length_78 (by decide) ?_
        refine lv_iadd hx hb dX11_length_79 ?_
        refine fx_putI X h (k := 30) (j := 9) sh_30 rfl fl_RX11_311 dX11_length_80 (fun H locs h => ?_)
        obtain ⟨M9, eM9⟩ : ∃ z : Mm, z = m_up M7 30 9 ((M7 30 9) + (1 : Int32)) := ⟨_, rfl⟩
        have hT := hT M9 eM9
        rw [← eM9] at h
        refine lv_aload_n hx hb dX11_length_83 rfl (lv_at hl 0 rfl) ?_
        refine fx_getR X h (k := 0) (j := 0) (r := 1) sh_0 rfl fl_RX11_12 dX11_length_84 ?_
        refine fx_getR X h (k := 1) (j := 5) (r := 30) sh_1 rfl fl_RX11_292 dX11_length_87 ?_
        refine fx_getI X h (k := 30) (j := 9) sh_30 rfl fl_RX11_311 dX11_length_90 ?_
        exact fx_iret X hr hk h hT dX11_length_93
      · have hT := hT.2 hc6
        refine lv_iconst (v := -1) hx hb dX11_length_43 (by decide) ?_
        exact fx_iret X hr hk h hT dX11_length_44
  · have hT := hT.1 hc1
    refine lv_aload_n hx hb dX11_length_5 rfl (lv_at hl 0 rfl) ?_
    refine fx_getR X h (k := 0) (j := 0) (r := 1) sh_0 rfl fl_RX11_12 dX11_length_6 ?_
    refine fx_getR X h (k := 1) (j := 5) (r := 30) sh_1 rfl fl_RX11_292 dX11_length_9 ?_
    refine lv_iconst (v := 0) hx hb dX11_length_12 (by decide) ?_
    refine fx_putI X h (k := 30) (j := 9) sh_30 rfl fl_RX11_311 dX11_length_13 (fun H locs h => ?_)
    obtain ⟨M10, eM10⟩ : ∃ z : Mm, z = m_up M 30 9 (0 : Int32) := ⟨_, rfl⟩
    have hT := hT M10 eM10
    rw [← eM10] at h
    refine lv_iconst (v := 0) hx hb dX11_length_16 (by decide) ?_
    exact fx_iret X hr hk h hT dX11_length_17
/-! MockParcels.strings(II)I -/
theorem dX11_strings_0 : decode cX11_strings 0 = .ok (.iload_n 1, 1) := by decide +kernel
theorem dX11_strings_1 : decode cX11_strings 1 = .ok (.iconst 1, 1) := by decide +kernel
theorem dX11_strings_2 : decode cX11_strings 2 = .ok (.bipush 99, 2) := by decide +kernel
theorem dX11_strings_4 : decode cX11_strings 4 = .ok (.invokestatic 88, 3) := by decide +kernel
theorem dX11_strings_7 : decode cX11_strings 7 = .ok (.ifCond .eq 12, 3) := by decide +kernel
theorem dX11_strings_10 : decode cX11_strings 10 = .ok (.iload_n 2, 1) := by decide +kernel
theorem dX11_strings_11 : decode cX11_strings 11 = .ok (.iconst 0, 1) := by decide +kernel
theorem dX11_strings_12 : decode cX11_strings 12 = .ok (.iconst 1, 1) := by decide +kernel
theorem dX11_strings_13 : decode cX11_strings 13 = .ok (.invokestatic 88, 3) := by decide +kernel
theorem dX11_strings_16 : decode cX11_strings 16 = .ok (.ifCond .ne 5, 3) := by decide +kernel
theorem dX11_strings_19 : decode cX11_strings 19 = .ok (.iconst (-1), 1) := by decide +kernel
theorem dX11_strings_20 : decode cX11_strings 20 = .ok (.ireturn, 1) := by decide +kernel
theorem dX11_strings_21 : decode cX11_strings 21 = .ok (.iconst 0, 1) := by decide +kernel
theorem dX11_strings_22 : decode cX11_strings 22 = .ok (.istore_n 3, 1) := by decide +kernel
theorem dX11_strings_23 : decode cX11_strings 23 = .ok (.iconst 0, 1) := by decide +kernel
theorem dX11_strings_24 : decode cX11_strings 24 = .ok (.istore 4, 2) := by decide +kernel
theorem dX11_strings_26 : decode cX11_strings 26 = .ok (.iload 4, 2) := by decide +kernel
theorem dX11_strings_28 : decode cX11_strings 28 = .ok (.aload_n 0, 1) := by decide +kernel
theorem dX11_strings_29 : decode cX11_strings 29 = .ok (.getfield 12, 3) := by decide +kernel
theorem dX11_strings_32 : decode cX11_strings 32 = .ok (.getfield 292, 3) := by decide +kernel
theorem dX11_strings_35 : decode cX11_strings 35 = .ok (.getfield 311, 3) := by decide +kernel
theorem dX11_strings_38 : decode cX11_strings 38 = .ok (.if_icmp .ge 44, 3) := by decide +kernel
theorem dX11_strings_41 : decode cX11_strings 41 = .ok (.aload_n 0, 1) := by decide +kernel
theorem dX11_strings_42 : decode cX11_strings 42 = .ok (.getfield 12, 3) := by decide +kernel
theorem dX11_strings_45 : decode cX11_strings 45 = .ok (.getfield 292, 3) := by decide +kernel
theorem dX11_strings_48 : decode cX11_strings 48 = .ok (.getfield 314, 3) := by decide +kernel
theorem dX11_strings_51 : decode cX11_strings 51 = .ok (.iload 4, 2) := by decide +kernel
theorem dX11_strings_53 : decode cX11_strings 53 = .ok (.iaload, 1) := by decide +kernel
theorem dX11_strings_54 : decode cX11_strings 54 = .ok (.iload_n 1, 1) := by decide +kernel
theorem dX11_strings_55 : decode cX11_strings 55 = .ok (.if_icmp .le 5, 3) := by decide +kernel
theorem dX11_strings_58 : decode cX11_strings 58 = .ok (.iconst (-1), 1) := by decide +kernel
theorem dX11_strings_59 : decode cX11_strings 59 = .ok (.ireturn, 1) := by decide +kernel
theorem dX11_strings_60 : decode cX11_strings 60 = .ok (.iload_n 3, 1) := by decide +kernel
theorem dX11_strings_61 : decode cX11_strings 61 = .ok (.aload_n 0, 1) := by decide +kernel
theorem dX11_strings_62 : decode cX11_strings 62 = .ok (.getfield 12, 3) := by decide +kernel
theorem dX11_strings_65 : decode cX11_strings 65 = .ok (.getfield 292, 3) := by decide +kernel
theorem dX11_strings_68 : decode cX11_strings 68 = .ok (.getfield 314, 3) := by decide +kernel
theorem dX11_strings_71 : decode cX11_strings 71 = .ok (.iload 4, 2) := by decide +kernel
theorem dX11_strings_73 : decode cX11_strings 73 = .ok (.iaload, 1) := by decide +kernel
theorem dX11_strings_74 : decode cX11_strings 74 = .ok (.iadd, 1) := by decide +kernel
theorem dX11_strings_75 : decode cX11_strings 75 = .ok (.istore_n 3, 1) := by decide +kernel
theorem dX11_strings_76 : decode cX11_strings 76 = .ok (.iinc 4 1, 3) := by decide +kernel
theorem dX11_strings_79 : decode cX11_strings 79 = .ok (.goto (-53), 3) := by decide +kernel
theorem dX11_strings_82 : decode cX11_strings 82 = .ok (.aload_n 0, 1) := by decide +kernel
theorem dX11_strings_83 : decode cX11_strings 83 = .ok (.getfield 67, 3) := by decide +kernel
theorem dX11_strings_86 : decode cX11_strings 86 = .ok (.aload_n 0, 1) := by decide +kernel
theorem dX11_strings_87 : decode cX11_strings 87 = .ok (.getfield 12, 3) := by decide +kernel
theorem dX11_strings_90 : decode cX11_strings 90 = .ok (.getfield 292, 3) := by decide +kernel
theorem dX11_strings_93 : decode cX11_strings 93 = .ok (.iload_n 1, 1) := by decide +kernel
theorem dX11_strings_94 : decode cX11_strings 94 = .ok (.invokevirtual 317, 3) := by decide +kernel
theorem dX11_strings_97 : decode cX11_strings 97 = .ok (.istore 4, 2) := by decide +kernel
theorem dX11_strings_99 : decode cX11_strings 99 = .ok (.iload_n 2, 1) := by decide +kernel
theorem dX11_strings_100 : decode cX11_strings 100 = .ok (.ifCond .ne 8, 3) := by decide +kernel
theorem dX11_strings_103 : decode cX11_strings 103 = .ok (.iload 4, 2) := by decide +kernel
theorem dX11_strings_105 : decode cX11_strings 105 = .ok (.goto 9, 3) := by decide +kernel
theorem dX11_strings_108 : decode cX11_strings 108 = .ok (.iload 4, 2) := by decide +kernel
theorem dX11_strings_110 : decode cX11_strings 110 = .ok (.iload_n 1, 1) := by decide +kernel
theorem dX11_strings_111 : decode cX11_strings 111 = .ok (.imul, 1) := by decide +kernel
theorem dX11_strings_112 : decode cX11_strings 112 = .ok (.iload_n 3, 1) := by decide +kernel
theorem dX11_strings_113 : decode cX11_strings 113 = .ok (.isub, 1) := by decide +kernel
theorem dX11_strings_114 : decode cX11_strings 114 = .ok (.ireturn, 1) := by decide +kernel
def T_X11_strings_26 : Nat → Int32 → Int32 → Int32 → Int32 → Mm → (Int32 → Mm → Prop) → Prop
  | 0, _, _, _, _, _, _ => False
  | n + 1, x1, x2, x3, x4, M, K => (((M 30 9) ≤ x4 → (T_X8_fewestStrings 30 x1 M (fun r4 M3 => ((x2 = 0 → (K r4 M3)) ∧ (¬ x2 = 0 → (K ((r4 * x1) - x3) M3)))))) ∧ (¬ (M 30 9) ≤ x4 → (vp_in x4 9 ∧ (((M 32 (x4).toNatClampNeg) ≤ x1 → (vp_in x4 9 ∧ (∀ y9 : Int32, y9 = (x3 + (M 32 (x4).toNatClampNeg)) → (∀ y10 : Int32, y10 = x4 + (1 : Int32) → (T_X11_strings_26 n x1 x2 y9 y10 M K))))) ∧ (¬ (M 32 (x4).toNatClampNeg) ≤ x1 → (K (-1 : Int32) M))))))
set_option maxHeartbeats 4000000 in
set_option maxRecDepth 100000 in
theorem w_X11_strings_26 {p : Program} {l : Launch} {e : Env} {s : State} {m : MethodId} {args : Array Value} {below : List Frame} {meth : Method} {c : Code} {G : fx_G} {K : Int32 → Mm → Prop} (X : fx_C G p s m c args cX11_strings 5 RX11) (hr : meth.sig.returnType = (some .int)) (hk : meth.locks = false) : ∀ (n : Nat) (x1 : Int32) (x2 : Int32) (x3 : Int32) (x4 : Int32) (M : Mm) (H : Heap) (locs : List Loc) (ls : Array Slot), T_X11_strings_26 n x1 x2 x3 x4 M K → fx_H G SH M s H locs → lv_has ls 5 [(0, .ref (G.2.2.2 + 0)), (1, .int x1), (2, .int x2), (3, .int x3), (4, .int x4)] → W p l e (fx_rm (2)) s m args below meth c H locs 0 0 (MQ below (va_Qi K (fx_R G SH) (fx_A G)) args s 0 0 (fx_A G)) (F0 m 26 ls []) := by
  obtain ⟨⟨hx, hb, hml, hown, hts⟩, hK, hQ⟩ := id X
  intro n
  induction n with
  | zero =>
    intro x1 x2 x3 x4 M H locs ls hT
    exact hT.elim
  | succ n ih =>
    intro x1 x2 x3 x4 M H locs ls hT h hl
    rw [T_X11_strings_26] at hT
    refine lv_iload hx hb dX11_strings_26 (lv_at hl 4 rfl) ?_
    refine lv_aload_n hx hb dX11_strings_28 rfl (lv_at hl 0 rfl) ?_
    refine fx_getR X h (k := 0) (j := 0) (r := 1) sh_0 rfl fl_RX11_12 dX11_strings_29 ?_
    refine fx_getR X h (k := 1) (j := 5) (r := 30) sh_1 rfl fl_RX11_292 dX11_strings_32 ?_
    refine fx_getI X h (k := 30) (j := 9) sh_30 rfl fl_RX11_311 dX11_strings_35 ?_
    refine lv_icmp_ge (tgt := 82) hx hb dX11_strings_38 (by decide) (fun hc1 => ?_) (fun hc1 => ?_)
    · have hT := hT.1 hc1
      refine lv_aload_n hx hb dX11_strings_82 rfl (lv_at hl 0 rfl) ?_
      refine fx_getR X h (k := 0) (j := 8) (r := 151) sh_0 rfl fl_RX11_67 dX11_strings_83 ?_
      refine lv_aload_n hx hb dX11_strings_86 rfl (lv_at hl 0 rfl) ?_
      refine fx_getR X h (k := 0) (j := 0) (r := 1) sh_0 rfl fl_RX11_12 dX11_strings_87 ?_
      refine fx_getR X h (k := 1) (j := 5) (r := 30) sh_1 rfl fl_RX11_292 dX11_strings_90 ?_
      refine lv_iload_n hx hb dX11_strings_93 rfl (lv_at hl 1 rfl) ?_
      refine fx_vi X h ym_X8_fewestStrings yi_X8_fewestStrings ys_X8_fewestStrings (fx_s5 (List.mem_of_getElem? (i := 99) rfl) rfl) sh_151 rfl (c_X8_fewestStrings l G (by decide) hT) (As := [.ref (G.2.2.2 + 30), .int x1]) (rest := []) rfl rfl ⟨Nat.le_of_ble_eq_true rfl, Nat.le_of_ble_eq_true rfl⟩ ⟨Nat.le_refl _, Nat.le_refl _⟩ hl.1 (Nat.le_of_ble_eq_true rfl) dX11_strings_94 (fun r4 M3 H locs hT h => ?_)
      refine lv_istore (lv' := [(4, .int r4), (0, .ref (G.2.2.2 + 0)), (1, .int x1), (2, .int x2), (3, .int x3)]) hx hb dX11_strings_97 hl (by decide) rfl (fun ls hl => ?_)
      refine lv_iload_n hx hb dX11_strings_99 rfl (lv_at hl 3 rfl) ?_
      refine lv_if_ne (tgt := 108) hx hb dX11_strings_100 (by decide) (fun hc5 => ?_) (fun hc5 => ?_)
      · have hT := hT.2 hc5
        refine lv_iload hx hb dX11_strings_108 (lv_at hl 0 rfl) ?_
        refine lv_iload_n hx hb dX11_strings_110 rfl (lv_at hl 2 rfl) ?_
        refine lv_imul hx hb dX11_strings_111 ?_
        refine lv_iload_n hx hb dX11_strings_112 rfl (lv_at hl 4 rfl) ?_
        refine lv_isub hx hb dX11_strings_113 ?_
        exact fx_iret X hr hk h hT dX11_strings_114
      · have hT := hT.1 hc5
        refine lv_iload hx hb dX11_strings_103 (lv_at hl 0 rfl) ?_
        refine lv_goto (tgt := 114) hx hb dX11_strings_105 (by decide) ?_
        exact fx_iret X hr hk h hT dX11_strings_114
    · have hT := hT.2 hc1
      refine lv_aload_n hx hb dX11_strings_41 rfl (lv_at hl 0 rfl) ?_
      refine fx_getR X h (k := 0) (j := 0) (r := 1) sh_0 rfl fl_RX11_12 dX11_strings_42 ?_
      refine fx_getR X h (k := 1) (j := 5) (r := 30) sh_1 rfl fl_RX11_292 dX11_strings_45 ?_
      refine fx_getR X h (k := 30) (j := 1) (r := 32) sh_30 rfl fl_RX11_314 dX11_strings_48 ?_
      refine lv_iload hx hb dX11_strings_51 (lv_at hl 4 rfl) ?_
      obtain ⟨hi6, hT⟩ := hT
      refine fx_iald X h (k := 32) sh_32 hi6 dX11_strings_53 ?_
      refine lv_iload_n hx hb dX11_strings_54 rfl (lv_at hl 1 rfl) ?_
      refine lv_icmp_le (tgt := 60) hx hb dX11_strings_55 (by decide) (fun hc7 => ?_) (fun hc7 => ?_)
      · have hT := hT.1 hc7
        refine lv_iload_n hx hb dX11_strings_60 rfl (lv_at hl 3 rfl) ?_
        refine lv_aload_n hx hb dX11_strings_61 rfl (lv_at hl 0 rfl) ?_
        refine fx_getR X h (k := 0) (j := 0) (r := 1) sh_0 rfl fl_RX11_12 dX11_strings_62 ?_
        refine fx_getR X h (k := 1) (j := 5) (r := 30) sh_1 rfl fl_RX11_292 dX11_strings_65 ?_
        refine fx_getR X h (k := 30) (j := 1) (r := 32) sh_30 rfl fl_RX11_314 dX11_strings_68 ?_
        refine lv_iload hx hb dX11_strings_71 (lv_at hl 4 rfl) ?_
        obtain ⟨hi8, hT⟩ := hT
        refine fx_iald X h (k := 32) sh_32 hi8 dX11_strings_73 ?_
        refine lv_iadd hx hb dX11_strings_74 ?_
        refine lv_topi (fun y9 ey9 => ?_)
        have hT := hT y9 ey9
        refine lv_istore_n (lv' := [(3, .int y9), (0, .ref (G.2.2.2 + 0)), (1, .int x1), (2, .int x2), (4, .int x4)]) hx hb dX11_strings_75 rfl hl (by decide) rfl (fun ls hl => ?_)
        obtain ⟨y10, ey10⟩ : ∃ z : Int32, z = x4 + (1 : Int32) := ⟨_, rfl⟩
        have hT := hT y10 ey10
        refine lv_iinc (v := y10) (lv' := [(4, .int y10), (3, .int y9), (0, .ref (G.2.2.2 + 0)), (1, .int x1), (2, .int x2)]) hx hb dX11_strings_76 hl (k := 4) rfl (by rw [ey10]; rfl) (by decide) rfl (fun ls hl => ?_)
        refine lv_goto (tgt := 26) hx hb dX11_strings_79 (by decide) ?_
        exact ih x1 x2 y9 y10 M _ _ ls hT h (lv_sub hl [2, 3, 4, 1, 0] rfl)
      · have hT := hT.2 hc7
        refine lv_iconst (v := -1) hx hb dX11_strings_58 (by decide) ?_
        exact fx_iret X hr hk h hT dX11_strings_59
def T_X11_strings (x1 : Int32) (x2 : Int32) (M : Mm) (K : Int32 → Mm → Prop) : Prop := (T_X11_isWithin x1 (1 : Int32) (99 : Int32) M (fun r13 M12 => ((r13 = 0 → (K (-1 : Int32) M12)) ∧ (¬ r13 = 0 → (T_X11_isWithin x2 (0 : Int32) (1 : Int32) M12 (fun r17 M16 => ((r17 = 0 → (K (-1 : Int32) M16)) ∧ (¬ r17 = 0 → (T_X11_strings_26 5000 x1 x2 (0 : Int32) (0 : Int32) M16 K)))))))))
set_option maxHeartbeats 4000000 in
set_option maxRecDepth 100000 in
theorem c_X11_strings (l : Launch) (G : fx_G) {x1 : Int32} {x2 : Int32} {M : Mm} {K : Int32 → Mm → Prop} (hT : T_X11_strings x1 x2 M K) : Met l yX11_strings (fx_ws yX11_strings cX11_strings 5 (some .int)) (fx_rm (2)) (va_Pc [.ref (G.2.2.2 + 0), .int x1, .int x2] (fx_P G SH M)) (va_Qi K (fx_R G SH) (fx_A G)) 0 0 (fx_A G) := by
  refine fx_met (own := RX11) (by decide +kernel) rfl (Nat.le_of_ble_eq_true rfl) (fun p e s m below meth c X hr hk h ls hl => ?_)
  obtain ⟨⟨hx, hb, hml, hown, hts⟩, hK, hQ⟩ := id X
  have hl : lv_has ls 5 [(0, .ref (G.2.2.2 + 0)), (1, .int x1), (2, .int x2)] := hl
  unfold T_X11_strings at hT
  refine lv_iload_n hx hb dX11_strings_0 rfl (lv_at hl 1 rfl) ?_
  refine lv_iconst (v := 1) hx hb dX11_strings_1 (by decide) ?_
  refine lv_bipush (v := 99) hx hb dX11_strings_2 (by decide) ?_
  refine fx_si X h ym_X11_isWithin yt_X11_isWithin (fx_s3 (List.mem_of_getElem? (i := 64) rfl) rfl) (c_X11_isWithin l G hT) (As := [.int x1, .int (1 : Int32), .int (99 : Int32)]) (rest := []) rfl rfl ⟨Nat.le_of_ble_eq_true rfl, Nat.le_of_ble_eq_true rfl⟩ ⟨Nat.le_refl _, Nat.le_refl _⟩ hl.1 (Nat.le_of_ble_eq_true rfl) dX11_strings_4 (fun r13 M12 H locs hT h => ?_)
  refine lv_if_eq (tgt := 19) hx hb dX11_strings_7 (by decide) (fun hc14 => ?_) (fun hc14 => ?_)
  · have hT := hT.1 hc14
    refine lv_iconst (v := -1) hx hb dX11_strings_19 (by decide) ?_
    exact fx_iret X hr hk h hT dX11_strings_20
  · have hT := hT.2 hc14
    refine lv_iload_n hx hb dX11_strings_10 rfl (lv_at hl 2 rfl) ?_
    refine lv_iconst (v := 0) hx hb dX11_strings_11 (by decide) ?_
    refine lv_iconst (v := 1) hx hb dX11_strings_12 (by decide) ?_
    refine fx_si X h ym_X11_isWithin yt_X11_isWithin (fx_s3 (List.mem_of_getElem? (i := 64) rfl) rfl) (c_X11_isWithin l G hT) (As := [.int x2, .int (0 : Int32), .int (1 : Int32)]) (rest := []) rfl rfl ⟨Nat.le_of_ble_eq_true rfl, Nat.le_of_ble_eq_true rfl⟩ ⟨Nat.le_refl _, Nat.le_refl _⟩ hl.1 (Nat.le_of_ble_eq_true rfl) dX11_strings_13 (fun r17 M16 H locs hT h => ?_)
    refine lv_if_ne (tgt := 21) hx hb dX11_strings_16 (by decide) (fun hc18 => ?_) (fun hc18 => ?_)
    · have hT := hT.2 hc18
      refine lv_iconst (v := 0) hx hb dX11_strings_21 (by decide) ?_
      refine lv_istore_n (lv' := [(3, .int (0 : Int32)), (0, .ref (G.2.2.2 + 0)), (1, .int x1), (2, .int x2)]) hx hb dX11_strings_22 rfl hl (by decide) rfl (fun ls hl => ?_)
      refine lv_iconst (v := 0) hx hb dX11_strings_23 (by decide) ?_
      refine lv_istore (lv' := [(4, .int (0 : Int32)), (3, .int (0 : Int32)), (0, .ref (G.2.2.2 + 0)), (1, .int x1), (2, .int x2)]) hx hb dX11_strings_24 hl (by decide) rfl (fun ls hl => ?_)
      exact w_X11_strings_26 X hr hk 5000 x1 x2 (0 : Int32) (0 : Int32) M16 _ _ ls hT h (lv_sub hl [2, 3, 4, 1, 0] rfl)
    · have hT := hT.1 hc18
      refine lv_iconst (v := -1) hx hb dX11_strings_19 (by decide) ?_
      exact fx_iret X hr hk h hT dX11_strings_20
/-! MockParcels.coin(I)I -/
theorem dX11_coin_0 : decode cX11_coin 0 = .ok (.iload_n 1, 1) := by decide +kernel
theorem dX11_coin_1 : decode cX11_coin 1 = .ok (.iconst (-1), 1) := by decide +kernel
theorem dX11_coin_2 : decode cX11_coin 2 = .ok (.if_icmp .ne 16, 3) := by decide +kernel
theorem dX11_coin_5 : decode cX11_coin 5 = .ok (.aload_n 0, 1) := by decide +kernel
theorem dX11_coin_6 : decode cX11_coin 6 = .ok (.getfield 12, 3) := by decide +kernel
theorem dX11_coin_9 : decode cX11_coin 9 = .ok (.getfield 292, 3) := by decide +kernel
theorem dX11_coin_12 : decode cX11_coin 12 = .ok (.iconst 0, 1) := by decide +kernel
theorem dX11_coin_13 : decode cX11_coin 13 = .ok (.putfield 321, 3) := by decide +kernel
theorem dX11_coin_16 : decode cX11_coin 16 = .ok (.iconst 0, 1) := by decide +kernel
theorem dX11_coin_17 : decode cX11_coin 17 = .ok (.ireturn, 1) := by decide +kernel
theorem dX11_coin_18 : decode cX11_coin 18 = .ok (.iload_n 1, 1) := by decide +kernel
theorem dX11_coin_19 : decode cX11_coin 19 = .ok (.iconst 1, 1) := by decide +kernel
theorem dX11_coin_20 : decode cX11_coin 20 = .ok (.bipush 50, 2) := by decide +kernel
theorem dX11_coin_22 : decode cX11_coin 22 = .ok (.invokestatic 88, 3) := by decide +kernel
theorem dX11_coin_25 : decode cX11_coin 25 = .ok (.ifCond .eq 32, 3) := by decide +kernel
theorem dX11_coin_28 : decode cX11_coin 28 = .ok (.aload_n 0, 1) := by decide +kernel
theorem dX11_coin_29 : decode cX11_coin 29 = .ok (.getfield 12, 3) := by decide +kernel
theorem dX11_coin_32 : decode cX11_coin 32 = .ok (.getfield 292, 3) := by decide +kernel
theorem dX11_coin_35 : decode cX11_coin 35 = .ok (.getfield 321, 3) := by decide +kernel
theorem dX11_coin_38 : decode cX11_coin 38 = .ok (.bipush 6, 2) := by decide +kernel
theorem dX11_coin_40 : decode cX11_coin 40 = .ok (.if_icmp .ge 17, 3) := by decide +kernel
theorem dX11_coin_43 : decode cX11_coin 43 = .ok (.aload_n 0, 1) := by decide +kernel
theorem dX11_coin_44 : decode cX11_coin 44 = .ok (.getfield 12, 3) := by decide +kernel
theorem dX11_coin_47 : decode cX11_coin 47 = .ok (.getfield 292, 3) := by decide +kernel
theorem dX11_coin_50 : decode cX11_coin 50 = .ok (.iload_n 1, 1) := by decide +kernel
theorem dX11_coin_51 : decode cX11_coin 51 = .ok (.invokevirtual 324, 3) := by decide +kernel
theorem dX11_coin_54 : decode cX11_coin 54 = .ok (.ifCond .eq 5, 3) := by decide +kernel
theorem dX11_coin_57 : decode cX11_coin 57 = .ok (.iconst (-1), 1) := by decide +kernel
theorem dX11_coin_58 : decode cX11_coin 58 = .ok (.ireturn, 1) := by decide +kernel
theorem dX11_coin_59 : decode cX11_coin 59 = .ok (.aload_n 0, 1) := by decide +kernel
theorem dX11_coin_60 : decode cX11_coin 60 = .ok (.getfield 12, 3) := by decide +kernel
theorem dX11_coin_63 : decode cX11_coin 63 = .ok (.getfield 292, 3) := by decide +kernel
theorem dX11_coin_66 : decode cX11_coin 66 = .ok (.getfield 327, 3) := by decide +kernel
theorem dX11_coin_69 : decode cX11_coin 69 = .ok (.aload_n 0, 1) := by decide +kernel
theorem dX11_coin_70 : decode cX11_coin 70 = .ok (.getfield 12, 3) := by decide +kernel
theorem dX11_coin_73 : decode cX11_coin 73 = .ok (.getfield 292, 3) := by decide +kernel
theorem dX11_coin_76 : decode cX11_coin 76 = .ok (.getfield 321, 3) := by decide +kernel
theorem dX11_coin_79 : decode cX11_coin 79 = .ok (.iload_n 1, 1) := by decide +kernel
theorem dX11_coin_80 : decode cX11_coin 80 = .ok (.iastore, 1) := by decide +kernel
theorem dX11_coin_81 : decode cX11_coin 81 = .ok (.aload_n 0, 1) := by decide +kernel
theorem dX11_coin_82 : decode cX11_coin 82 = .ok (.getfield 12, 3) := by decide +kernel
theorem dX11_coin_85 : decode cX11_coin 85 = .ok (.getfield 292, 3) := by decide +kernel
theorem dX11_coin_88 : decode cX11_coin 88 = .ok (.dup, 1) := by decide +kernel
theorem dX11_coin_89 : decode cX11_coin 89 = .ok (.getfield 321, 3) := by decide +kernel
theorem dX11_coin_92 : decode cX11_coin 92 = .ok (.iconst 1, 1) := by decide +kernel
theorem dX11_coin_93 : decode cX11_coin 93 = .ok (.iadd, 1) := by decide +kernel
theorem dX11_coin_94 : decode cX11_coin 94 = .ok (.putfield 321, 3) := by decide +kernel
theorem dX11_coin_97 : decode cX11_coin 97 = .ok (.aload_n 0, 1) := by decide +kernel
theorem dX11_coin_98 : decode cX11_coin 98 = .ok (.getfield 12, 3) := by decide +kernel
theorem dX11_coin_101 : decode cX11_coin 101 = .ok (.getfield 292, 3) := by decide +kernel
theorem dX11_coin_104 : decode cX11_coin 104 = .ok (.getfield 321, 3) := by decide +kernel
theorem dX11_coin_107 : decode cX11_coin 107 = .ok (.ireturn, 1) := by decide +kernel
def T_X11_coin (x1 : Int32) (M : Mm) (K : Int32 → Mm → Prop) : Prop := ((x1 = (-1 : Int32) → (∀ M14 : Mm, M14 = m_up M 30 10 (0 : Int32) → (K (0 : Int32) M14))) ∧ (¬ x1 = (-1 : Int32) → (T_X11_isWithin x1 (1 : Int32) (50 : Int32) M (fun r4 M3 => ((r4 = 0 → (K (-1 : Int32) M3)) ∧ (¬ r4 = 0 → (((6 : Int32) ≤ (M3 30 10) → (K (-1 : Int32) M3)) ∧ (¬ (6 : Int32) ≤ (M3 30 10) → (T_X9_hasCoin 30 x1 M3 (fun r9 M8 => ((r9 = 0 → (vp_in (M8 30 10) 6 ∧ (∀ M11 : Mm, M11 = m_up M8 33 ((M8 30 10)).toNatClampNeg x1 → (∀ M13 : Mm, M13 = m_up M11 30 10 ((M11 30 10) + (1 : Int32)) → (K (M13 30 10) M13))))) ∧ (¬ r9 = 0 → (K (-1 : Int32) M8)))))))))))))
set_option maxHeartbeats 4000000 in
set_option maxRecDepth 100000 in
theorem c_X11_coin (l : Launch) (G : fx_G) {x1 : Int32} {M : Mm} {K : Int32 → Mm → Prop} (hT : T_X11_coin x1 M K) : Met l yX11_coin (fx_ws yX11_coin cX11_coin 2 (some .int)) (fx_rm (1)) (va_Pc [.ref (G.2.2.2 + 0), .int x1] (fx_P G SH M)) (va_Qi K (fx_R G SH) (fx_A G)) 0 0 (fx_A G) := by
  refine fx_met (own := RX11) (by decide +kernel) rfl (Nat.le_of_ble_eq_true rfl) (fun p e s m below meth c X hr hk h ls hl => ?_)
  obtain ⟨⟨hx, hb, hml, hown, hts⟩, hK, hQ⟩ := id X
  have hl : lv_has ls 2 [(0, .ref (G.2.2.2 + 0)), (1, .int x1)] := hl
  unfold T_X11_coin at hT
  refine lv_iload_n hx hb dX11_coin_0 rfl (lv_at hl 1 rfl) ?_
  refine lv_iconst (v := -1) hx hb dX11_coin_1 (by decide) ?_
  refine lv_icmp_ne (tgt := 18) hx hb dX11_coin_2 (by decide) (fun hc1 => ?_) (fun hc1 => ?_)
  · have hT := hT.2 hc1
    refine lv_iload_n hx hb dX11_coin_18 rfl (lv_at hl 1 rfl) ?_
    refine lv_iconst (v := 1) hx hb dX11_coin_19 (by decide) ?_
    refine lv_bipush (v := 50) hx hb dX11_coin_20 (by decide) ?_
    refine fx_si X h ym_X11_isWithin yt_X11_isWithin (fx_s3 (List.mem_of_getElem? (i := 64) rfl) rfl) (c_X11_isWithin l G hT) (As := [.int x1, .int (1 : Int32), .int (50 : Int32)]) (rest := []) rfl rfl ⟨Nat.le_of_ble_eq_true rfl, Nat.le_of_ble_eq_true rfl⟩ ⟨Nat.le_refl _, Nat.le_refl _⟩ hl.1 (Nat.le_of_ble_eq_true rfl) dX11_coin_22 (fun r4 M3 H locs hT h => ?_)
    refine lv_if_eq (tgt := 57) hx hb dX11_coin_25 (by decide) (fun hc5 => ?_) (fun hc5 => ?_)
    · have hT := hT.1 hc5
      refine lv_iconst (v := -1) hx hb dX11_coin_57 (by decide) ?_
      exact fx_iret X hr hk h hT dX11_coin_58
    · have hT := hT.2 hc5
      refine lv_aload_n hx hb dX11_coin_28 rfl (lv_at hl 0 rfl) ?_
      refine fx_getR X h (k := 0) (j := 0) (r := 1) sh_0 rfl fl_RX11_12 dX11_coin_29 ?_
      refine fx_getR X h (k := 1) (j := 5) (r := 30) sh_1 rfl fl_RX11_292 dX11_coin_32 ?_
      refine fx_getI X h (k := 30) (j := 10) sh_30 rfl fl_RX11_321 dX11_coin_35 ?_
      refine lv_bipush (v := 6) hx hb dX11_coin_38 (by decide) ?_
      refine lv_icmp_ge (tgt := 57) hx hb dX11_coin_40 (by decide) (fun hc6 => ?_) (fun hc6 => ?_)
      · have hT := hT.1 hc6
        refine lv_iconst (v := -1) hx hb dX11_coin_57 (by decide) ?_
        exact fx_iret X hr hk h hT dX11_coin_58
      · have hT := hT.2 hc6
        refine lv_aload_n hx hb dX11_coin_43 rfl (lv_at hl 0 rfl) ?_
        refine fx_getR X h (k := 0) (j := 0) (r := 1) sh_0 rfl fl_RX11_12 dX11_coin_44 ?_
        refine fx_getR X h (k := 1) (j := 5) (r := 30) sh_1 rfl fl_RX11_292 dX11_coin_47 ?_
        refine lv_iload_n hx hb dX11_coin_50 rfl (lv_at hl 1 rfl) ?_
        refine fx_vi X h ym_X9_hasCoin yi_X9_hasCoin ys_X9_hasCoin (fx_s5 (List.mem_of_getElem? (i := 112) rfl) rfl) sh_30 rfl (c_X9_hasCoin l G (by decide) hT) (As := [.int x1]) (rest := []) rfl rfl ⟨Nat.le_of_ble_eq_true rfl, Nat.le_of_ble_eq_true rfl⟩ ⟨Nat.le_refl _, Nat.le_refl _⟩ hl.1 (Nat.le_of_ble_eq_true rfl) dX11_coin_51 (fun r9 M8 H locs hT h => ?_)
        refine lv_if_eq (tgt := 59) hx hb dX11_coin_54 (by decide) (fun hc10 => ?_) (fun hc10 => ?_)
        · have hT := hT.1 hc10
          refine lv_aload_n hx hb dX11_coin_59 rfl (lv_at hl 0 rfl) ?_
          refine fx_getR X h (k := 0) (j := 0) (r := 1) sh_0 rfl fl_RX11_12 dX11_coin_60 ?_
          refine fx_getR X h (k := 1) (j := 5) (r := 30) sh_1 rfl fl_RX11_292 dX11_coin_63 ?_
          refine fx_getR X h (k := 30) (j := 2) (r := 33) sh_30 rfl fl_RX11_327 dX11_coin_66 ?_
          refine lv_aload_n hx hb dX11_coin_69 rfl (lv_at hl 0 rfl) ?_
          refine fx_getR X h (k := 0) (j := 0) (r := 1) sh_0 rfl fl_RX11_12 dX11_coin_70 ?_
          refine fx_getR X h (k := 1) (j := 5) (r := 30) sh_1 rfl fl_RX11_292 dX11_coin_73 ?_
          refine fx_getI X h (k := 30) (j := 10) sh_30 rfl fl_RX11_321 dX11_coin_76 ?_
          refine lv_iload_n hx hb dX11_coin_79 rfl (lv_at hl 1 rfl) ?_
          obtain ⟨hi12, hT⟩ := hT
          refine fx_iast X h (k := 33) sh_33 hi12 dX11_coin_80 (fun H locs h => ?_)
          obtain ⟨M11, eM11⟩ : ∃ z : Mm, z = m_up M8 33 ((M8 30 10)).toNatClampNeg x1 := ⟨_, rfl⟩
          have hT := hT M11 eM11
          rw [← eM11] at h
          refine lv_aload_n hx hb dX11_coin_81 rfl (lv_at hl 0 rfl) ?_
          refine fx_getR X h (k := 0) (j := 0) (r := 1) sh_0 rfl fl_RX11_12 dX11_coin_82 ?_
          refine fx_getR X h (k := 1) (j := 5) (r := 30) sh_1 rfl fl_RX11_292 dX11_coin_85 ?_
          refine lv_dup hx hb dX11_coin_88 rfl ?_
          refine fx_getI X h (k := 30) (j := 10) sh_30 rfl fl_RX11_321 dX11_coin_89 ?_
          refine lv_iconst (v := 1) hx hb dX11_coin_92 (by decide) ?_
          refine lv_iadd hx hb dX11_coin_93 ?_
          refine fx_putI X h (k := 30) (j := 10) sh_30 rfl fl_RX11_321 dX11_coin_94 (fun H locs h => ?_)
          obtain ⟨M13, eM13⟩ : ∃ z : Mm, z = m_up M11 30 10 ((M11 30 10) + (1 : Int32)) := ⟨_, rfl⟩
          have hT := hT M13 eM13
          rw [← eM13] at h
          refine lv_aload_n hx hb dX11_coin_97 rfl (lv_at hl 0 rfl) ?_
          refine fx_getR X h (k := 0) (j := 0) (r := 1) sh_0 rfl fl_RX11_12 dX11_coin_98 ?_
          refine fx_getR X h (k := 1) (j := 5) (r := 30) sh_1 rfl fl_RX11_292 dX11_coin_101 ?_
          refine fx_getI X h (k := 30) (j := 10) sh_30 rfl fl_RX11_321 dX11_coin_104 ?_
          exact fx_iret X hr hk h hT dX11_coin_107
        · have hT := hT.2 hc10
          refine lv_iconst (v := -1) hx hb dX11_coin_57 (by decide) ?_
          exact fx_iret X hr hk h hT dX11_coin_58
  · have hT := hT.1 hc1
    refine lv_aload_n hx hb dX11_coin_5 rfl (lv_at hl 0 rfl) ?_
    refine fx_getR X h (k := 0) (j := 0) (r := 1) sh_0 rfl fl_RX11_12 dX11_coin_6 ?_
    refine fx_getR X h (k := 1) (j := 5) (r := 30) sh_1 rfl fl_RX11_292 dX11_coin_9 ?_
    refine lv_iconst (v := 0) hx hb dX11_coin_12 (by decide) ?_
    refine fx_putI X h (k := 30) (j := 10) sh_30 rfl fl_RX11_321 dX11_coin_13 (fun H locs h => ?_)
    obtain ⟨M14, eM14⟩ : ∃ z : Mm, z = m_up M 30 10 (0 : Int32) := ⟨_, rfl⟩
    have hT := hT M14 eM14
    rw [← eM14] at h
    refine lv_iconst (v := 0) hx hb dX11_coin_16 (by decide) ?_
    exact fx_iret X hr hk h hT dX11_coin_17
/-! MockParcels.pays(II)I -/
theorem dX11_pays_0 : decode cX11_pays 0 = .ok (.iload_n 1, 1) := by decide +kernel
theorem dX11_pays_1 : decode cX11_pays 1 = .ok (.iconst 0, 1) := by decide +kernel
theorem dX11_pays_2 : decode cX11_pays 2 = .ok (.sipush 999, 3) := by decide +kernel
theorem dX11_pays_5 : decode cX11_pays 5 = .ok (.invokestatic 88, 3) := by decide +kernel
theorem dX11_pays_8 : decode cX11_pays 8 = .ok (.ifCond .eq 12, 3) := by decide +kernel
theorem dX11_pays_11 : decode cX11_pays 11 = .ok (.iload_n 2, 1) := by decide +kernel
theorem dX11_pays_12 : decode cX11_pays 12 = .ok (.iconst 0, 1) := by decide +kernel
theorem dX11_pays_13 : decode cX11_pays 13 = .ok (.iconst 1, 1) := by decide +kernel
theorem dX11_pays_14 : decode cX11_pays 14 = .ok (.invokestatic 88, 3) := by decide +kernel
theorem dX11_pays_17 : decode cX11_pays 17 = .ok (.ifCond .ne 5, 3) := by decide +kernel
theorem dX11_pays_20 : decode cX11_pays 20 = .ok (.iconst (-1), 1) := by decide +kernel
theorem dX11_pays_21 : decode cX11_pays 21 = .ok (.ireturn, 1) := by decide +kernel
theorem dX11_pays_22 : decode cX11_pays 22 = .ok (.aload_n 0, 1) := by decide +kernel
theorem dX11_pays_23 : decode cX11_pays 23 = .ok (.getfield 67, 3) := by decide +kernel
theorem dX11_pays_26 : decode cX11_pays 26 = .ok (.aload_n 0, 1) := by decide +kernel
theorem dX11_pays_27 : decode cX11_pays 27 = .ok (.getfield 12, 3) := by decide +kernel
theorem dX11_pays_30 : decode cX11_pays 30 = .ok (.getfield 292, 3) := by decide +kernel
theorem dX11_pays_33 : decode cX11_pays 33 = .ok (.getfield 327, 3) := by decide +kernel
theorem dX11_pays_36 : decode cX11_pays 36 = .ok (.aload_n 0, 1) := by decide +kernel
theorem dX11_pays_37 : decode cX11_pays 37 = .ok (.getfield 12, 3) := by decide +kernel
theorem dX11_pays_40 : decode cX11_pays 40 = .ok (.getfield 292, 3) := by decide +kernel
theorem dX11_pays_43 : decode cX11_pays 43 = .ok (.getfield 321, 3) := by decide +kernel
theorem dX11_pays_46 : decode cX11_pays 46 = .ok (.iload_n 1, 1) := by decide +kernel
theorem dX11_pays_47 : decode cX11_pays 47 = .ok (.invokevirtual 301, 3) := by decide +kernel
theorem dX11_pays_50 : decode cX11_pays 50 = .ok (.iload_n 2, 1) := by decide +kernel
theorem dX11_pays_51 : decode cX11_pays 51 = .ok (.ifCond .ne 15, 3) := by decide +kernel
theorem dX11_pays_54 : decode cX11_pays 54 = .ok (.aload_n 0, 1) := by decide +kernel
theorem dX11_pays_55 : decode cX11_pays 55 = .ok (.getfield 67, 3) := by decide +kernel
theorem dX11_pays_58 : decode cX11_pays 58 = .ok (.getfield 308, 3) := by decide +kernel
theorem dX11_pays_61 : decode cX11_pays 61 = .ok (.iload_n 1, 1) := by decide +kernel
theorem dX11_pays_62 : decode cX11_pays 62 = .ok (.iaload, 1) := by decide +kernel
theorem dX11_pays_63 : decode cX11_pays 63 = .ok (.goto 12, 3) := by decide +kernel
theorem dX11_pays_66 : decode cX11_pays 66 = .ok (.aload_n 0, 1) := by decide +kernel
theorem dX11_pays_67 : decode cX11_pays 67 = .ok (.getfield 67, 3) := by decide +kernel
theorem dX11_pays_70 : decode cX11_pays 70 = .ok (.getfield 305, 3) := by decide +kernel
theorem dX11_pays_73 : decode cX11_pays 73 = .ok (.iload_n 1, 1) := by decide +kernel
theorem dX11_pays_74 : decode cX11_pays 74 = .ok (.iaload, 1) := by decide +kernel
theorem dX11_pays_75 : decode cX11_pays 75 = .ok (.ireturn, 1) := by decide +kernel
def T_X11_pays (x1 : Int32) (x2 : Int32) (M : Mm) (K : Int32 → Mm → Prop) : Prop := (T_X11_isWithin x1 (0 : Int32) (999 : Int32) M (fun r3 M2 => ((r3 = 0 → (K (-1 : Int32) M2)) ∧ (¬ r3 = 0 → (T_X11_isWithin x2 (0 : Int32) (1 : Int32) M2 (fun r7 M6 => ((r7 = 0 → (K (-1 : Int32) M6)) ∧ (¬ r7 = 0 → (T_X8_change 33 (M6 30 10) x1 M6 (fun M10 => ((x2 = 0 → (vp_in x1 1000 ∧ (K (M10 152 (x1).toNatClampNeg) M10))) ∧ (¬ x2 = 0 → (vp_in x1 1000 ∧ (K (M10 153 (x1).toNatClampNeg) M10))))))))))))))
set_option maxHeartbeats 4000000 in
set_option maxRecDepth 100000 in
theorem c_X11_pays (l : Launch) (G : fx_G) {x1 : Int32} {x2 : Int32} {M : Mm} {K : Int32 → Mm → Prop} (hT : T_X11_pays x1 x2 M K) : Met l yX11_pays (fx_ws yX11_pays cX11_pays 3 (some .int)) (fx_rm (3)) (va_Pc [.ref (G.2.2.2 + 0), .int x1, .int x2] (fx_P G SH M)) (va_Qi K (fx_R G SH) (fx_A G)) 0 0 (fx_A G) := by
  refine fx_met (own := RX11) (by decide +kernel) rfl (Nat.le_of_ble_eq_true rfl) (fun p e s m below meth c X hr hk h ls hl => ?_)
  obtain ⟨⟨hx, hb, hml, hown, hts⟩, hK, hQ⟩ := id X
  have hl : lv_has ls 3 [(0, .ref (G.2.2.2 + 0)), (1, .int x1), (2, .int x2)] := hl
  unfold T_X11_pays at hT
  refine lv_iload_n hx hb dX11_pays_0 rfl (lv_at hl 1 rfl) ?_
  refine lv_iconst (v := 0) hx hb dX11_pays_1 (by decide) ?_
  refine lv_sipush (v := 999) hx hb dX11_pays_2 (by decide) ?_
  refine fx_si X h ym_X11_isWithin yt_X11_isWithin (fx_s3 (List.mem_of_getElem? (i := 64) rfl) rfl) (c_X11_isWithin l G hT) (As := [.int x1, .int (0 : Int32), .int (999 : Int32)]) (rest := []) rfl rfl ⟨Nat.le_of_ble_eq_true rfl, Nat.le_of_ble_eq_true rfl⟩ ⟨Nat.le_refl _, Nat.le_refl _⟩ hl.1 (Nat.le_of_ble_eq_true rfl) dX11_pays_5 (fun r3 M2 H locs hT h => ?_)
  refine lv_if_eq (tgt := 20) hx hb dX11_pays_8 (by decide) (fun hc4 => ?_) (fun hc4 => ?_)
  · have hT := hT.1 hc4
    refine lv_iconst (v := -1) hx hb dX11_pays_20 (by decide) ?_
    exact fx_iret X hr hk h hT dX11_pays_21
  · have hT := hT.2 hc4
    refine lv_iload_n hx hb dX11_pays_11 rfl (lv_at hl 2 rfl) ?_
    refine lv_iconst (v := 0) hx hb dX11_pays_12 (by decide) ?_
    refine lv_iconst (v := 1) hx hb dX11_pays_13 (by decide) ?_
    refine fx_si X h ym_X11_isWithin yt_X11_isWithin (fx_s3 (List.mem_of_getElem? (i := 64) rfl) rfl) (c_X11_isWithin l G hT) (As := [.int x2, .int (0 : Int32), .int (1 : Int32)]) (rest := []) rfl rfl ⟨Nat.le_of_ble_eq_true rfl, Nat.le_of_ble_eq_true rfl⟩ ⟨Nat.le_refl _, Nat.le_refl _⟩ hl.1 (Nat.le_of_ble_eq_true rfl) dX11_pays_14 (fun r7 M6 H locs hT h => ?_)
    refine lv_if_ne (tgt := 22) hx hb dX11_pays_17 (by decide) (fun hc8 => ?_) (fun hc8 => ?_)
    · have hT := hT.2 hc8
      refine lv_aload_n hx hb dX11_pays_22 rfl (lv_at hl 0 rfl) ?_
      refine fx_getR X h (k := 0) (j := 8) (r := 151) sh_0 rfl fl_RX11_67 dX11_pays_23 ?_
      refine lv_aload_n hx hb dX11_pays_26 rfl (lv_at hl 0 rfl) ?_
      refine fx_getR X h (k := 0) (j := 0) (r := 1) sh_0 rfl fl_RX11_12 dX11_pays_27 ?_
      refine fx_getR X h (k := 1) (j := 5) (r := 30) sh_1 rfl fl_RX11_292 dX11_pays_30 ?_
      refine fx_getR X h (k := 30) (j := 2) (r := 33) sh_30 rfl fl_RX11_327 dX11_pays_33 ?_
      refine lv_aload_n hx hb dX11_pays_36 rfl (lv_at hl 0 rfl) ?_
      refine fx_getR X h (k := 0) (j := 0) (r := 1) sh_0 rfl fl_RX11_12 dX11_pays_37 ?_
      refine fx_getR X h (k := 1) (j := 5) (r := 30) sh_1 rfl fl_RX11_292 dX11_pays_40 ?_
      refine fx_getI X h (k := 30) (j := 10) sh_30 rfl fl_RX11_321 dX11_pays_43 ?_
      refine lv_iload_n hx hb dX11_pays_46 rfl (lv_at hl 1 rfl) ?_
      refine fx_vv X h ym_X8_change yi_X8_change ys_X8_change (fx_s5 (List.mem_of_getElem? (i := 81) rfl) rfl) sh_151 rfl (c_X8_change l G (ln_of sh_33) hT) (As := [.ref (G.2.2.2 + 33), .int (M6 30 10), .int x1]) (rest := []) rfl rfl ⟨Nat.le_of_ble_eq_true rfl, Nat.le_of_ble_eq_true rfl⟩ ⟨Nat.le_refl _, Nat.le_refl _⟩ hl.1 (Nat.le_of_ble_eq_true rfl) dX11_pays_47 (fun M10 H locs hT h => ?_)
      refine lv_iload_n hx hb dX11_pays_50 rfl (lv_at hl 2 rfl) ?_
      refine lv_if_ne (tgt := 66) hx hb dX11_pays_51 (by decide) (fun hc11 => ?_) (fun hc11 => ?_)
      · have hT := hT.2 hc11
        refine lv_aload_n hx hb dX11_pays_66 rfl (lv_at hl 0 rfl) ?_
        refine fx_getR X h (k := 0) (j := 8) (r := 151) sh_0 rfl fl_RX11_67 dX11_pays_67 ?_
        refine fx_getR X h (k := 151) (j := 1) (r := 153) sh_151 rfl fl_RX11_305 dX11_pays_70 ?_
        refine lv_iload_n hx hb dX11_pays_73 rfl (lv_at hl 1 rfl) ?_
        obtain ⟨hi12, hT⟩ := hT
        refine fx_iald X h (k := 153) sh_153 hi12 dX11_pays_74 ?_
        exact fx_iret X hr hk h hT dX11_pays_75
      · have hT := hT.1 hc11
        refine lv_aload_n hx hb dX11_pays_54 rfl (lv_at hl 0 rfl) ?_
        refine fx_getR X h (k := 0) (j := 8) (r := 151) sh_0 rfl fl_RX11_67 dX11_pays_55 ?_
        refine fx_getR X h (k := 151) (j := 0) (r := 152) sh_151 rfl fl_RX11_308 dX11_pays_58 ?_
        refine lv_iload_n hx hb dX11_pays_61 rfl (lv_at hl 1 rfl) ?_
        obtain ⟨hi13, hT⟩ := hT
        refine fx_iald X h (k := 152) sh_152 hi13 dX11_pays_62 ?_
        refine lv_goto (tgt := 75) hx hb dX11_pays_63 (by decide) ?_
        exact fx_iret X hr hk h hT dX11_pays_75
    · have hT := hT.1 hc8
      refine lv_iconst (v := -1) hx hb dX11_pays_20 (by decide) ?_
      exact fx_iret X hr hk h hT dX11_pays_21
/-! MockParcels.rank(II)Z -/
theorem dX11_rank_0 : decode cX11_rank 0 = .ok (.iload_n 1, 1) := by decide +kernel
theorem dX11_rank_1 : decode cX11_rank 1 = .ok (.iconst 0, 1) := by decide +kernel
theorem dX11_rank_2 : decode cX11_rank 2 = .ok (.bipush 7, 2) := by decide +kernel
theorem dX11_rank_4 : decode cX11_rank 4 = .ok (.invokestatic 88, 3) := by decide +kernel
theorem dX11_rank_7 : decode cX11_rank 7 = .ok (.ifCond .eq 22, 3) := by decide +kernel
theorem dX11_rank_10 : decode cX11_rank 10 = .ok (.aload_n 0, 1) := by decide +kernel
theorem dX11_rank_11 : decode cX11_rank 11 = .ok (.getfield 12, 3) := by decide +kernel
theorem dX11_rank_14 : decode cX11_rank 14 = .ok (.getfield 292, 3) := by decide +kernel
theorem dX11_rank_17 : decode cX11_rank 17 = .ok (.iload_n 1, 1) := by decide +kernel
theorem dX11_rank_18 : decode cX11_rank 18 = .ok (.iload_n 2, 1) := by decide +kernel
theorem dX11_rank_19 : decode cX11_rank 19 = .ok (.invokevirtual 330, 3) := by decide +kernel
theorem dX11_rank_22 : decode cX11_rank 22 = .ok (.ifCond .eq 7, 3) := by decide +kernel
theorem dX11_rank_25 : decode cX11_rank 25 = .ok (.iconst 1, 1) := by decide +kernel
theorem dX11_rank_26 : decode cX11_rank 26 = .ok (.goto 4, 3) := by decide +kernel
theorem dX11_rank_29 : decode cX11_rank 29 = .ok (.iconst 0, 1) := by decide +kernel
theorem dX11_rank_30 : decode cX11_rank 30 = .ok (.ireturn, 1) := by decide +kernel
def T_X11_rank (x1 : Int32) (x2 : Int32) (M : Mm) (K : Int32 → Mm → Prop) : Prop := (T_X11_isWithin x1 (0 : Int32) (7 : Int32) M (fun r3 M2 => ((r3 = 0 → (K (0 : Int32) M2)) ∧ (¬ r3 = 0 → (T_X9_takeRank 30 x1 x2 M2 (fun r7 M6 => ((r7 = 0 → (K (0 : Int32) M6)) ∧ (¬ r7 = 0 → (K (1 : Int32) M6)))))))))
set_option maxHeartbeats 4000000 in
set_option maxRecDepth 100000 in
theorem c_X11_rank (l : Launch) (G : fx_G) {x1 : Int32} {x2 : Int32} {M : Mm} {K : Int32 → Mm → Prop} (hT : T_X11_rank x1 x2 M K) : Met l yX11_rank (fx_ws yX11_rank cX11_rank 3 (some .boolean)) (fx_rm (2)) (va_Pc [.ref (G.2.2.2 + 0), .int x1, .int x2] (fx_P G SH M)) (va_Qi K (fx_R G SH) (fx_A G)) 0 0 (fx_A G) := by
  refine fx_met (own := RX11) (by decide +kernel) rfl (Nat.le_of_ble_eq_true rfl) (fun p e s m below meth c X hr hk h ls hl => ?_)
  obtain ⟨⟨hx, hb, hml, hown, hts⟩, hK, hQ⟩ := id X
  have hl : lv_has ls 3 [(0, .ref (G.2.2.2 + 0)), (1, .int x1), (2, .int x2)] := hl
  unfold T_X11_rank at hT
  refine lv_iload_n hx hb dX11_rank_0 rfl (lv_at hl 1 rfl) ?_
  refine lv_iconst (v := 0) hx hb dX11_rank_1 (by decide) ?_
  refine lv_bipush (v := 7) hx hb dX11_rank_2 (by decide) ?_
  refine fx_si X h ym_X11_isWithin yt_X11_isWithin (fx_s3 (List.mem_of_getElem? (i := 64) rfl) rfl) (c_X11_isWithin l G hT) (As := [.int x1, .int (0 : Int32), .int (7 : Int32)]) (rest := []) rfl rfl ⟨Nat.le_of_ble_eq_true rfl, Nat.le_of_ble_eq_true rfl⟩ ⟨Nat.le_refl _, Nat.le_refl _⟩ hl.1 (Nat.le_of_ble_eq_true rfl) dX11_rank_4 (fun r3 M2 H locs hT h => ?_)
  refine lv_if_eq (tgt := 29) hx hb dX11_rank_7 (by decide) (fun hc4 => ?_) (fun hc4 => ?_)
  · have hT := hT.1 hc4
    refine lv_iconst (v := 0) hx hb dX11_rank_29 (by decide) ?_
    exact fx_zret X hr hk h (Or.inl rfl) hT dX11_rank_30
  · have hT := hT.2 hc4
    refine lv_aload_n hx hb dX11_rank_10 rfl (lv_at hl 0 rfl) ?_
    refine fx_getR X h (k := 0) (j := 0) (r := 1) sh_0 rfl fl_RX11_12 dX11_rank_11 ?_
    refine fx_getR X h (k := 1) (j := 5) (r := 30) sh_1 rfl fl_RX11_292 dX11_rank_14 ?_
    refine lv_iload_n hx hb dX11_rank_17 rfl (lv_at hl 1 rfl) ?_
    refine lv_iload_n hx hb dX11_rank_18 rfl (lv_at hl 2 rfl) ?_
    refine fx_vi X h ym_X9_takeRank yi_X9_takeRank ys_X9_takeRank (fx_s5 (List.mem_of_getElem? (i := 124) rfl) rfl) sh_30 rfl (c_X9_takeRank l G (by decide) hT) (As := [.int x1, .int x2]) (rest := []) rfl rfl ⟨Nat.le_of_ble_eq_true rfl, Nat.le_of_ble_eq_true rfl⟩ ⟨Nat.le_refl _, Nat.le_refl _⟩ hl.1 (Nat.le_of_ble_eq_true rfl) dX11_rank_19 (fun r7 M6 H locs hT h => ?_)
    refine lv_if_eq (tgt := 29) hx hb dX11_rank_22 (by decide) (fun hc8 => ?_) (fun hc8 => ?_)
    · have hT := hT.1 hc8
      refine lv_iconst (v := 0) hx hb dX11_rank_29 (by decide) ?_
      exact fx_zret X hr hk h (Or.inl rfl) hT dX11_rank_30
    · have hT := hT.2 hc8
      refine lv_iconst (v := 1) hx hb dX11_rank_25 (by decide) ?_
      refine lv_goto (tgt := 30) hx hb dX11_rank_26 (by decide) ?_
      exact fx_zret X hr hk h (Or.inr rfl) hT dX11_rank_30
/-! MockParcels.swaps(I)I -/
theorem dX11_swaps_0 : decode cX11_swaps 0 = .ok (.iload_n 1, 1) := by decide +kernel
theorem dX11_swaps_1 : decode cX11_swaps 1 = .ok (.iconst (-1), 1) := by decide +kernel
theorem dX11_swaps_2 : decode cX11_swaps 2 = .ok (.bipush 7, 2) := by decide +kernel
theorem dX11_swaps_4 : decode cX11_swaps 4 = .ok (.invokestatic 88, 3) := by decide +kernel
theorem dX11_swaps_7 : decode cX11_swaps 7 = .ok (.ifCond .ne 5, 3) := by decide +kernel
theorem dX11_swaps_10 : decode cX11_swaps 10 = .ok (.iconst (-1), 1) := by decide +kernel
theorem dX11_swaps_11 : decode cX11_swaps 11 = .ok (.ireturn, 1) := by decide +kernel
theorem dX11_swaps_12 : decode cX11_swaps 12 = .ok (.aload_n 0, 1) := by decide +kernel
theorem dX11_swaps_13 : decode cX11_swaps 13 = .ok (.getfield 67, 3) := by decide +kernel
theorem dX11_swaps_16 : decode cX11_swaps 16 = .ok (.aload_n 0, 1) := by decide +kernel
theorem dX11_swaps_17 : decode cX11_swaps 17 = .ok (.getfield 12, 3) := by decide +kernel
theorem dX11_swaps_20 : decode cX11_swaps 20 = .ok (.getfield 292, 3) := by decide +kernel
theorem dX11_swaps_23 : decode cX11_swaps 23 = .ok (.invokevirtual 334, 3) := by decide +kernel
theorem dX11_swaps_26 : decode cX11_swaps 26 = .ok (.istore_n 2, 1) := by decide +kernel
theorem dX11_swaps_27 : decode cX11_swaps 27 = .ok (.iload_n 1, 1) := by decide +kernel
theorem dX11_swaps_28 : decode cX11_swaps 28 = .ok (.iconst (-1), 1) := by decide +kernel
theorem dX11_swaps_29 : decode cX11_swaps 29 = .ok (.if_icmp .ne 7, 3) := by decide +kernel
theorem dX11_swaps_32 : decode cX11_swaps 32 = .ok (.iload_n 2, 1) := by decide +kernel
theorem dX11_swaps_33 : decode cX11_swaps 33 = .ok (.goto 12, 3) := by decide +kernel
theorem dX11_swaps_36 : decode cX11_swaps 36 = .ok (.aload_n 0, 1) := by decide +kernel
theorem dX11_swaps_37 : decode cX11_swaps 37 = .ok (.getfield 67, 3) := by decide +kernel
theorem dX11_swaps_40 : decode cX11_swaps 40 = .ok (.getfield 338, 3) := by decide +kernel
theorem dX11_swaps_43 : decode cX11_swaps 43 = .ok (.iload_n 1, 1) := by decide +kernel
theorem dX11_swaps_44 : decode cX11_swaps 44 = .ok (.iaload, 1) := by decide +kernel
theorem dX11_swaps_45 : decode cX11_swaps 45 = .ok (.ireturn, 1) := by decide +kernel
def T_X11_swaps (x1 : Int32) (M : Mm) (K : Int32 → Mm → Prop) : Prop := (T_X11_isWithin x1 (-1 : Int32) (7 : Int32) M (fun r3 M2 => ((r3 = 0 → (K (-1 : Int32) M2)) ∧ (¬ r3 = 0 → (T_X8_trade 30 M2 (fun r7 M6 => ((x1 = (-1 : Int32) → (K r7 M6)) ∧ (¬ x1 = (-1 : Int32) → (vp_in x1 8 ∧ (K (M6 154 (x1).toNatClampNeg) M6))))))))))
set_option maxHeartbeats 4000000 in
set_option maxRecDepth 100000 in
theorem c_X11_swaps (l : Launch) (G : fx_G) {x1 : Int32} {M : Mm} {K : Int32 → Mm → Prop} (hT : T_X11_swaps x1 M K) : Met l yX11_swaps (fx_ws yX11_swaps cX11_swaps 3 (some .int)) (fx_rm (3)) (va_Pc [.ref (G.2.2.2 + 0), .int x1] (fx_P G SH M)) (va_Qi K (fx_R G SH) (fx_A G)) 0 0 (fx_A G) := by
  refine fx_met (own := RX11) (by decide +kernel) rfl (Nat.le_of_ble_eq_true rfl) (fun p e s m below meth c X hr hk h ls hl => ?_)
  obtain ⟨⟨hx, hb, hml, hown, hts⟩, hK, hQ⟩ := id X
  have hl : lv_has ls 3 [(0, .ref (G.2.2.2 + 0)), (1, .int x1)] := hl
  unfold T_X11_swaps at hT
  refine lv_iload_n hx hb dX11_swaps_0 rfl (lv_at hl 1 rfl) ?_
  refine lv_iconst (v := -1) hx hb dX11_swaps_1 (by decide) ?_
  refine lv_bipush (v := 7) hx hb dX11_swaps_2 (by decide) ?_
  refine fx_si X h ym_X11_isWithin yt_X11_isWithin (fx_s3 (List.mem_of_getElem? (i := 64) rfl) rfl) (c_X11_isWithin l G hT) (As := [.int x1, .int (-1 : Int32), .int (7 : Int32)]) (rest := []) rfl rfl ⟨Nat.le_of_ble_eq_true rfl, Nat.le_of_ble_eq_true rfl⟩ ⟨Nat.le_refl _, Nat.le_refl _⟩ hl.1 (Nat.le_of_ble_eq_true rfl) dX11_swaps_4 (fun r3 M2 H locs hT h => ?_)
  refine lv_if_ne (tgt := 12) hx hb dX11_swaps_7 (by decide) (fun hc4 => ?_) (fun hc4 => ?_)
  · have hT := hT.2 hc4
    refine lv_aload_n hx hb dX11_swaps_12 rfl (lv_at hl 0 rfl) ?_
    refine fx_getR X h (k := 0) (j := 8) (r := 151) sh_0 rfl fl_RX11_67 dX11_swaps_13 ?_
    refine lv_aload_n hx hb dX11_swaps_16 rfl (lv_at hl 0 rfl) ?_
    refine fx_getR X h (k := 0) (j := 0) (r := 1) sh_0 rfl fl_RX11_12 dX11_swaps_17 ?_
    refine fx_getR X h (k := 1) (j := 5) (r := 30) sh_1 rfl fl_RX11_292 dX11_swaps_20 ?_
    refine fx_vi X h ym_X8_trade yi_X8_trade ys_X8_trade (fx_s5 (List.mem_of_getElem? (i := 136) rfl) rfl) sh_151 rfl (c_X8_trade l G (by decide) hT) (As := [.ref (G.2.2.2 + 30)]) (rest := []) rfl rfl ⟨Nat.le_of_ble_eq_true rfl, Nat.le_of_ble_eq_true rfl⟩ ⟨Nat.le_refl _, Nat.le_refl _⟩ hl.1 (Nat.le_of_ble_eq_true rfl) dX11_swaps_23 (fun r7 M6 H locs hT h => ?_)
    refine lv_istore_n (lv' := [(2, .int r7), (0, .ref (G.2.2.2 + 0)), (1, .int x1)]) hx hb dX11_swaps_26 rfl hl (by decide) rfl (fun ls hl => ?_)
    refine lv_iload_n hx hb dX11_swaps_27 rfl (lv_at hl 2 rfl) ?_
    refine lv_iconst (v := -1) hx hb dX11_swaps_28 (by decide) ?_
    refine lv_icmp_ne (tgt := 36) hx hb dX11_swaps_29 (by decide) (fun hc8 => ?_) (fun hc8 => ?_)
    · have hT := hT.2 hc8
      refine lv_aload_n hx hb dX11_swaps_36 rfl (lv_at hl 1 rfl) ?_
      refine fx_getR X h (k := 0) (j := 8) (r := 151) sh_0 rfl fl_RX11_67 dX11_swaps_37 ?_
      refine fx_getR X h (k := 151) (j := 2) (r := 154) sh_151 rfl fl_RX11_338 dX11_swaps_40 ?_
      refine lv_iload_n hx hb dX11_swaps_43 rfl (lv_at hl 2 rfl) ?_
      obtain ⟨hi9, hT⟩ := hT
      refine fx_iald X h (k := 154) sh_154 hi9 dX11_swaps_44 ?_
      exact fx_iret X hr hk h hT dX11_swaps_45
    · have hT := hT.1 hc8
      refine lv_iload_n hx hb dX11_swaps_32 rfl (lv_at hl 0 rfl) ?_
      refine lv_goto (tgt := 45) hx hb dX11_swaps_33 (by decide) ?_
      exact fx_iret X hr hk h hT dX11_swaps_45
  · have hT := hT.1 hc4
    refine lv_iconst (v := -1) hx hb dX11_swaps_10 (by decide) ?_
    exact fx_iret X hr hk h hT dX11_swaps_11
/-! MockParcels.wishes(I)I -/
theorem dX11_wishes_0 : decode cX11_wishes 0 = .ok (.iload_n 1, 1) := by decide +kernel
theorem dX11_wishes_1 : decode cX11_wishes 1 = .ok (.ifCond .eq 22, 3) := by decide +kernel
theorem dX11_wishes_4 : decode cX11_wishes 4 = .ok (.aload_n 0, 1) := by decide +kernel
theorem dX11_wishes_5 : decode cX11_wishes 5 = .ok (.getfield 12, 3) := by decide +kernel
theorem dX11_wishes_8 : decode cX11_wishes 8 = .ok (.getfield 92, 3) := by decide +kernel
theorem dX11_wishes_11 : decode cX11_wishes 11 = .ok (.iload_n 1, 1) := by decide +kernel
theorem dX11_wishes_12 : decode cX11_wishes 12 = .ok (.bipush 10, 2) := by decide +kernel
theorem dX11_wishes_14 : decode cX11_wishes 14 = .ok (.isub, 1) := by decide +kernel
theorem dX11_wishes_15 : decode cX11_wishes 15 = .ok (.invokevirtual 134, 3) := by decide +kernel
theorem dX11_wishes_18 : decode cX11_wishes 18 = .ok (.ifCond .ne 5, 3) := by decide +kernel
theorem dX11_wishes_21 : decode cX11_wishes 21 = .ok (.iconst (-1), 1) := by decide +kernel
theorem dX11_wishes_22 : decode cX11_wishes 22 = .ok (.ireturn, 1) := by decide +kernel
theorem dX11_wishes_23 : decode cX11_wishes 23 = .ok (.aload_n 0, 1) := by decide +kernel
theorem dX11_wishes_24 : decode cX11_wishes 24 = .ok (.getfield 67, 3) := by decide +kernel
theorem dX11_wishes_27 : decode cX11_wishes 27 = .ok (.aload_n 0, 1) := by decide +kernel
theorem dX11_wishes_28 : decode cX11_wishes 28 = .ok (.getfield 12, 3) := by decide +kernel
theorem dX11_wishes_31 : decode cX11_wishes 31 = .ok (.getfield 213, 3) := by decide +kernel
theorem dX11_wishes_34 : decode cX11_wishes 34 = .ok (.aload_n 0, 1) := by decide +kernel
theorem dX11_wishes_35 : decode cX11_wishes 35 = .ok (.getfield 12, 3) := by decide +kernel
theorem dX11_wishes_38 : decode cX11_wishes 38 = .ok (.getfield 92, 3) := by decide +kernel
theorem dX11_wishes_41 : decode cX11_wishes 41 = .ok (.getfield 105, 3) := by decide +kernel
theorem dX11_wishes_44 : decode cX11_wishes 44 = .ok (.invokevirtual 341, 3) := by decide +kernel
theorem dX11_wishes_47 : decode cX11_wishes 47 = .ok (.istore_n 2, 1) := by decide +kernel
theorem dX11_wishes_48 : decode cX11_wishes 48 = .ok (.iload_n 1, 1) := by decide +kernel
theorem dX11_wishes_49 : decode cX11_wishes 49 = .ok (.ifCond .ne 7, 3) := by decide +kernel
theorem dX11_wishes_52 : decode cX11_wishes 52 = .ok (.iload_n 2, 1) := by decide +kernel
theorem dX11_wishes_53 : decode cX11_wishes 53 = .ok (.goto 15, 3) := by decide +kernel
theorem dX11_wishes_56 : decode cX11_wishes 56 = .ok (.aload_n 0, 1) := by decide +kernel
theorem dX11_wishes_57 : decode cX11_wishes 57 = .ok (.getfield 67, 3) := by decide +kernel
theorem dX11_wishes_60 : decode cX11_wishes 60 = .ok (.getfield 338, 3) := by decide +kernel
theorem dX11_wishes_63 : decode cX11_wishes 63 = .ok (.iload_n 1, 1) := by decide +kernel
theorem dX11_wishes_64 : decode cX11_wishes 64 = .ok (.bipush 10, 2) := by decide +kernel
theorem dX11_wishes_66 : decode cX11_wishes 66 = .ok (.isub, 1) := by decide +kernel
theorem dX11_wishes_67 : decode cX11_wishes 67 = .ok (.iaload, 1) := by decide +kernel
theorem dX11_wishes_68 : decode cX11_wishes 68 = .ok (.ireturn, 1) := by decide +kernel
def T_X11_wishes_23 (x1 : Int32) (M : Mm) (K : Int32 → Mm → Prop) : Prop := (T_X8_shareOut 23 (M 2 1) M (fun r3 M2 => ((x1 = 0 → (K r3 M2)) ∧ (¬ x1 = 0 → (vp_in (x1 - (10 : Int32)) 8 ∧ (K (M2 154 ((x1 - (10 : Int32))).toNatClampNeg) M2))))))
set_option maxHeartbeats 4000000 in
set_option maxRecDepth 100000 in
theorem w_X11_wishes_23 {p : Program} {l : Launch} {e : Env} {s : State} {m : MethodId} {args : Array Value} {below : List Frame} {meth : Method} {c : Code} {G : fx_G} {K : Int32 → Mm → Prop} (X : fx_C G p s m c args cX11_wishes 3 RX11) (hr : meth.sig.returnType = (some .int)) (hk : meth.locks = false) : ∀ (x1 : Int32) (M : Mm) (H : Heap) (locs : List Loc) (ls : Array Slot), T_X11_wishes_23 x1 M K → fx_H G SH M s H locs → lv_has ls 3 [(0, .ref (G.2.2.2 + 0)), (1, .int x1)] → W p l e (fx_rm (4)) s m args below meth c H locs 0 0 (MQ below (va_Qi K (fx_R G SH) (fx_A G)) args s 0 0 (fx_A G)) (F0 m 23 ls []) := by
  obtain ⟨⟨hx, hb, hml, hown, hts⟩, hK, hQ⟩ := id X
  intro x1 M H locs ls hT h hl
  unfold T_X11_wishes_23 at hT
  refine lv_aload_n hx hb dX11_wishes_23 rfl (lv_at hl 0 rfl) ?_
  refine fx_getR X h (k := 0) (j := 8) (r := 151) sh_0 rfl fl_RX11_67 dX11_wishes_24 ?_
  refine lv_aload_n hx hb dX11_wishes_27 rfl (lv_at hl 0 rfl) ?_
  refine fx_getR X h (k := 0) (j := 0) (r := 1) sh_0 rfl fl_RX11_12 dX11_wishes_28 ?_
  refine fx_getR X h (k := 1) (j := 4) (r := 23) sh_1 rfl fl_RX11_213 dX11_wishes_31 ?_
  refine lv_aload_n hx hb dX11_wishes_34 rfl (lv_at hl 0 rfl) ?_
  refine fx_getR X h (k := 0) (j := 0) (r := 1) sh_0 rfl fl_RX11_12 dX11_wishes_35 ?_
  refine fx_getR X h (k := 1) (j := 0) (r := 2) sh_1 rfl fl_RX11_92 dX11_wishes_38 ?_
  refine fx_getI X h (k := 2) (j := 1) sh_2 rfl fl_RX11_105 dX11_wishes_41 ?_
  refine fx_vi X h ym_X8_shareOut yi_X8_shareOut ys_X8_shareOut (fx_s5 (List.mem_of_getElem? (i := 153) rfl) rfl) sh_151 rfl (c_X8_shareOut l G (by decide) hT) (As := [.ref (G.2.2.2 + 23), .int (M 2 1)]) (rest := []) rfl rfl ⟨Nat.le_of_ble_eq_true rfl, Nat.le_of_ble_eq_true rfl⟩ ⟨Nat.le_refl _, Nat.le_refl _⟩ hl.1 (Nat.le_of_ble_eq_true rfl) dX11_wishes_44 (fun r3 M2 H locs hT h => ?_)
  refine lv_istore_n (lv' := [(2, .int r3), (0, .ref (G.2.2.2 + 0)), (1, .int x1)]) hx hb dX11_wishes_47 rfl hl (by decide) rfl (fun ls hl => ?_)
  refine lv_iload_n hx hb dX11_wishes_48 rfl (lv_at hl 2 rfl) ?_
  refine lv_if_ne (tgt := 56) hx hb dX11_wishes_49 (by decide) (fun hc4 => ?_) (fun hc4 => ?_)
  · have hT := hT.2 hc4
    refine lv_aload_n hx hb dX11_wishes_56 rfl (lv_at hl 1 rfl) ?_
    refine fx_getR X h (k := 0) (j := 8) (r := 151) sh_0 rfl fl_RX11_67 dX11_wishes_57 ?_
    refine fx_getR X h (k := 151) (j := 2) (r := 154) sh_151 rfl fl_RX11_338 dX11_wishes_60 ?_
    refine lv_iload_n hx hb dX11_wishes_63 rfl (lv_at hl 2 rfl) ?_
    refine lv_bipush (v := 10) hx hb dX11_wishes_64 (by decide) ?_
    refine lv_isub hx hb dX11_wishes_66 ?_
    obtain ⟨hi5, hT⟩ := hT
    refine fx_iald X h (k := 154) sh_154 hi5 dX11_wishes_67 ?_
    exact fx_iret X hr hk h hT dX11_wishes_68
  · have hT := hT.1 hc4
    refine lv_iload_n hx hb dX11_wishes_52 rfl (lv_at hl 0 rfl) ?_
    refine lv_goto (tgt := 68) hx hb dX11_wishes_53 (by decide) ?_
    exact fx_iret X hr hk h hT dX11_wishes_68
def T_X11_wishes (x1 : Int32) (M : Mm) (K : Int32 → Mm → Prop) : Prop := ((x1 = 0 → (T_X11_wishes_23 x1 M K)) ∧ (¬ x1 = 0 → (T_X1_hasBidder 2 (x1 - (10 : Int32)) M (fun r9 M8 => ((r9 = 0 → (K (-1 : Int32) M8)) ∧ (¬ r9 = 0 → (T_X11_wishes_23 x1 M8 K)))))))
set_option maxHeartbeats 4000000 in
set_option maxRecDepth 100000 in
theorem c_X11_wishes (l : Launch) (G : fx_G) {x1 : Int32} {M : Mm} {K : Int32 → Mm → Prop} (hT : T_X11_wishes x1 M K) : Met l yX11_wishes (fx_ws yX11_wishes cX11_wishes 3 (some .int)) (fx_rm (4)) (va_Pc [.ref (G.2.2.2 + 0), .int x1] (fx_P G SH M)) (va_Qi K (fx_R G SH) (fx_A G)) 0 0 (fx_A G) := by
  refine fx_met (own := RX11) (by decide +kernel) rfl (Nat.le_of_ble_eq_true rfl) (fun p e s m below meth c X hr hk h ls hl => ?_)
  obtain ⟨⟨hx, hb, hml, hown, hts⟩, hK, hQ⟩ := id X
  have hl : lv_has ls 3 [(0, .ref (G.2.2.2 + 0)), (1, .int x1)] := hl
  unfold T_X11_wishes at hT
  refine lv_iload_n hx hb dX11_wishes_0 rfl (lv_at hl 1 rfl) ?_
  refine lv_if_eq (tgt := 23) hx hb dX11_wishes_1 (by decide) (fun hc6 => ?_) (fun hc6 => ?_)
  · have hT := hT.1 hc6
    exact w_X11_wishes_23 X hr hk x1 M _ _ ls hT h (lv_sub hl [0, 1] rfl)
  · have hT := hT.2 hc6
    refine lv_aload_n hx hb dX11_wishes_4 rfl (lv_at hl 0 rfl) ?_
    refine fx_getR X h (k := 0) (j := 0) (r := 1) sh_0 rfl fl_RX11_12 dX11_wishes_5 ?_
    refine fx_getR X h (k := 1) (j := 0) (r := 2) sh_1 rfl fl_RX11_92 dX11_wishes_8 ?_
    refine lv_iload_n hx hb dX11_wishes_11 rfl (lv_at hl 1 rfl) ?_
    refine lv_bipush (v := 10) hx hb dX11_wishes_12 (by decide) ?_
    refine lv_isub hx hb dX11_wishes_14 ?_
    refine fx_vi X h ym_X1_hasBidder yi_X1_hasBidder ys_X1_hasBidder (fx_s3 (List.mem_of_getElem? (i := 87) rfl) rfl) sh_2 rfl (c_X1_hasBidder l G (by decide) hT) (As := [.int (x1 - (10 : Int32))]) (rest := []) rfl rfl ⟨Nat.le_of_ble_eq_true rfl, Nat.le_of_ble_eq_true rfl⟩ ⟨Nat.le_refl _, Nat.le_refl _⟩ hl.1 (Nat.le_of_ble_eq_true rfl) dX11_wishes_15 (fun r9 M8 H locs hT h => ?_)
    refine lv_if_ne (tgt := 23) hx hb dX11_wishes_18 (by decide) (fun hc10 => ?_) (fun hc10 => ?_)
    · have hT := hT.2 hc10
      exact w_X11_wishes_23 X hr hk x1 M8 _ _ ls hT h (lv_sub hl [0, 1] rfl)
    · have hT := hT.1 hc10
      refine lv_iconst (v := -1) hx hb dX11_wishes_21 (by decide) ?_
      exact fx_iret X hr hk h hT dX11_wishes_22
/-! MockParcels.put(II)I -/
theorem dX11_put_0 : decode cX11_put 0 = .ok (.iload_n 1, 1) := by decide +kernel
theorem dX11_put_1 : decode cX11_put 1 = .ok (.iconst (-1), 1) := by decide +kernel
theorem dX11_put_2 : decode cX11_put 2 = .ok (.if_icmp .ne 16, 3) := by decide +kernel
theorem dX11_put_5 : decode cX11_put 5 = .ok (.aload_n 0, 1) := by decide +kernel
theorem dX11_put_6 : decode cX11_put 6 = .ok (.getfield 12, 3) := by decide +kernel
theorem dX11_put_9 : decode cX11_put 9 = .ok (.getfield 292, 3) := by decide +kernel
theorem dX11_put_12 : decode cX11_put 12 = .ok (.iconst 0, 1) := by decide +kernel
theorem dX11_put_13 : decode cX11_put 13 = .ok (.putfield 345, 3) := by decide +kernel
theorem dX11_put_16 : decode cX11_put 16 = .ok (.iconst 0, 1) := by decide +kernel
theorem dX11_put_17 : decode cX11_put 17 = .ok (.ireturn, 1) := by decide +kernel
theorem dX11_put_18 : decode cX11_put 18 = .ok (.iload_n 1, 1) := by decide +kernel
theorem dX11_put_19 : decode cX11_put 19 = .ok (.iconst 0, 1) := by decide +kernel
theorem dX11_put_20 : decode cX11_put 20 = .ok (.bipush 99, 2) := by decide +kernel
theorem dX11_put_22 : decode cX11_put 22 = .ok (.invokestatic 88, 3) := by decide +kernel
theorem dX11_put_25 : decode cX11_put 25 = .ok (.ifCond .eq 28, 3) := by decide +kernel
theorem dX11_put_28 : decode cX11_put 28 = .ok (.iload_n 2, 1) := by decide +kernel
theorem dX11_put_29 : decode cX11_put 29 = .ok (.iconst 0, 1) := by decide +kernel
theorem dX11_put_30 : decode cX11_put 30 = .ok (.bipush 9, 2) := by decide +kernel
theorem dX11_put_32 : decode cX11_put 32 = .ok (.invokestatic 88, 3) := by decide +kernel
theorem dX11_put_35 : decode cX11_put 35 = .ok (.ifCond .eq 18, 3) := by decide +kernel
theorem dX11_put_38 : decode cX11_put 38 = .ok (.aload_n 0, 1) := by decide +kernel
theorem dX11_put_39 : decode cX11_put 39 = .ok (.getfield 12, 3) := by decide +kernel
theorem dX11_put_42 : decode cX11_put 42 = .ok (.getfield 292, 3) := by decide +kernel
theorem dX11_put_45 : decode cX11_put 45 = .ok (.getfield 345, 3) := by decide +kernel
theorem dX11_put_48 : decode cX11_put 48 = .ok (.bipush 7, 2) := by decide +kernel
theorem dX11_put_50 : decode cX11_put 50 = .ok (.if_icmp .lt 5, 3) := by decide +kernel
theorem dX11_put_53 : decode cX11_put 53 = .ok (.iconst (-1), 1) := by decide +kernel
theorem dX11_put_54 : decode cX11_put 54 = .ok (.ireturn, 1) := by decide +kernel
theorem dX11_put_55 : decode cX11_put 55 = .ok (.aload_n 0, 1) := by decide +kernel
theorem dX11_put_56 : decode cX11_put 56 = .ok (.getfield 12, 3) := by decide +kernel
theorem dX11_put_59 : decode cX11_put 59 = .ok (.getfield 292, 3) := by decide +kernel
theorem dX11_put_62 : decode cX11_put 62 = .ok (.getfield 348, 3) := by decide +kernel
theorem dX11_put_65 : decode cX11_put 65 = .ok (.aload_n 0, 1) := by decide +kernel
theorem dX11_put_66 : decode cX11_put 66 = .ok (.getfield 12, 3) := by decide +kernel
theorem dX11_put_69 : decode cX11_put 69 = .ok (.getfield 292, 3) := by decide +kernel
theorem dX11_put_72 : decode cX11_put 72 = .ok (.getfield 345, 3) := by decide +kernel
theorem dX11_put_75 : decode cX11_put 75 = .ok (.iload_n 1, 1) := by decide +kernel
theorem dX11_put_76 : decode cX11_put 76 = .ok (.iastore, 1) := by decide +kernel
theorem dX11_put_77 : decode cX11_put 77 = .ok (.aload_n 0, 1) := by decide +kernel
theorem dX11_put_78 : decode cX11_put 78 = .ok (.getfield 12, 3) := by decide +kernel
theorem dX11_put_81 : decode cX11_put 81 = .ok (.getfield 292, 3) := by decide +kernel
theorem dX11_put_84 : decode cX11_put 84 = .ok (.getfield 351, 3) := by decide +kernel
theorem dX11_put_87 : decode cX11_put 87 = .ok (.aload_n 0, 1) := by decide +kernel
theorem dX11_put_88 : decode cX11_put 88 = .ok (.getfield 12, 3) := by decide +kernel
theorem dX11_put_91 : decode cX11_put 91 = .ok (.getfield 292, 3) := by decide +kernel
theorem dX11_put_94 : decode cX11_put 94 = .ok (.getfield 345, 3) := by decide +kernel
theorem dX11_put_97 : decode cX11_put 97 = .ok (.iload_n 2, 1) := by decide +kernel
theorem dX11_put_98 : decode cX11_put 98 = .ok (.iastore, 1) := by decide +kernel
theorem dX11_put_99 : decode cX11_put 99 = .ok (.aload_n 0, 1) := by decide +kernel
theorem dX11_put_100 : decode cX11_put 100 = .ok (.getfield 12, 3) := by decide +kernel
theorem dX11_put_103 : decode cX11_put 103 = .ok (.getfield 292, 3) := by decide +kernel
theorem dX11_put_106 : decode cX11_put 106 = .ok (.dup, 1) := by decide +kernel
theorem dX11_put_107 : decode cX11_put 107 = .ok (.getfield 345, 3) := by decide +kernel
theorem dX11_put_110 : decode cX11_put 110 = .ok (.iconst 1, 1) := by decide +kernel
theorem dX11_put_111 : decode cX11_put 111 = .ok (.iadd, 1) := by decide +kernel
theorem dX11_put_112 : decode cX11_put 112 = .ok (.putfield 345, 3) := by decide +kernel
theorem dX11_put_115 : decode cX11_put 115 = .ok (.aload_n 0, 1) := by decide +kernel
theorem dX11_put_116 : decode cX11_put 116 = .ok (.getfield 12, 3) := by decide +kernel
theorem dX11_put_119 : decode cX11_put 119 = .ok (.getfield 292, 3) := by decide +kernel
theorem dX11_put_122 : decode cX11_put 122 = .ok (.getfield 345, 3) := by decide +kernel
theorem dX11_put_125 : decode cX11_put 125 = .ok (.ireturn, 1) := by decide +kernel
def T_X11_put (x1 : Int32) (x2 : Int32) (M : Mm) (K : Int32 → Mm → Prop) : Prop := ((x1 = (-1 : Int32) → (∀ M16 : Mm, M16 = m_up M 30 11 (0 : Int32) → (K (0 : Int32) M16))) ∧ (¬ x1 = (-1 : Int32) → (T_X11_isWithin x1 (0 : Int32) (99 : Int32) M (fun r4 M3 => ((r4 = 0 → (K (-1 : Int32) M3)) ∧ (¬ r4 = 0 → (T_X11_isWithin x2 (0 : Int32) (9 : Int32) M3 (fun r8 M7 => ((r8 = 0 → (K (-1 : Int32) M7)) ∧ (¬ r8 = 0 → (((M7 30 11) < (7 : Int32) → (vp_in (M7 30 11) 7 ∧ (∀ M11 : Mm, M11 = m_up M7 35 ((M7 30 11)).toNatClampNeg x1 → (vp_in (M11 30 11) 7 ∧ (∀ M13 : Mm, M13 = m_up M11 36 ((M11 30 11)).toNatClampNeg x2 → (∀ M15 : Mm, M15 = m_up M13 30 11 ((M13 30 11) + (1 : Int32)) → (K (M15 30 11) M15))))))) ∧ (¬ (M7 30 11) < (7 : Int32) → (K (-1 : Int32) M7)))))))))))))
set_option maxHeartbeats 4000000 in
set_option maxRecDepth 100000 in
theorem c_X11_put (l : Launch) (G : fx_G) {x1 : Int32} {x2 : Int32} {M : Mm} {K : Int32 → Mm → Prop} (hT : T_X11_put x1 x2 M K) : Met l yX11_put (fx_ws yX11_put cX11_put 3 (some .int)) (fx_rm (1)) (va_Pc [.ref (G.2.2.2 + 0), .int x1, .int x2] (fx_P G SH M)) (va_Qi K (fx_R G SH) (fx_A G)) 0 0 (fx_A G) := by
  refine fx_met (own := RX11) (by decide +kernel) rfl (Nat.le_of_ble_eq_true rfl) (fun p e s m below meth c X hr hk h ls hl => ?_)
  obtain ⟨⟨hx, hb, hml, hown, hts⟩, hK, hQ⟩ := id X
  have hl : lv_has ls 3 [(0, .ref (G.2.2.2 + 0)), (1, .int x1), (2, .int x2)] := hl
  unfold T_X11_put at hT
  refine lv_iload_n hx hb dX11_put_0 rfl (lv_at hl 1 rfl) ?_
  refine lv_iconst (v := -1) hx hb dX11_put_1 (by decide) ?_
  refine lv_icmp_ne (tgt := 18) hx hb dX11_put_2 (by decide) (fun hc1 => ?_) (fun hc1 => ?_)
  · have hT := hT.2 hc1
    refine lv_iload_n hx hb dX11_put_18 rfl (lv_at hl 1 rfl) ?_
    refine lv_iconst (v := 0) hx hb dX11_put_19 (by decide) ?_
    refine lv_bipush (v := 99) hx hb dX11_put_20 (by decide) ?_
    refine fx_si X h ym_X11_isWithin yt_X11_isWithin (fx_s3 (List.mem_of_getElem? (i := 64) rfl) rfl) (c_X11_isWithin l G hT) (As := [.int x1, .int (0 : Int32), .int (99 : Int32)]) (rest := []) rfl rfl ⟨Nat.le_of_ble_eq_true rfl, Nat.le_of_ble_eq_true rfl⟩ ⟨Nat.le_refl _, Nat.le_refl _⟩ hl.1 (Nat.le_of_ble_eq_true rfl) dX11_put_22 (fun r4 M3 H locs hT h => ?_)
    refine lv_if_eq (tgt := 53) hx hb dX11_put_25 (by decide) (fun hc5 => ?_) (fun hc5 => ?_)
    · have hT := hT.1 hc5
      refine lv_iconst (v := -1) hx hb dX11_put_53 (by decide) ?_
      exact fx_iret X hr hk h hT dX11_put_54
    · have hT := hT.2 hc5
      refine lv_iload_n hx hb dX11_put_28 rfl (lv_at hl 2 rfl) ?_
      refine lv_iconst (v := 0) hx hb dX11_put_29 (by decide) ?_
      refine lv_bipush (v := 9) hx hb dX11_put_30 (by decide) ?_
      refine fx_si X h ym_X11_isWithin yt_X11_isWithin (fx_s3 (List.mem_of_getElem? (i := 64) rfl) rfl) (c_X11_isWithin l G hT) (As := [.int x2, .int (0 : Int32), .int (9 : Int32)]) (rest := []) rfl rfl ⟨Nat.le_of_ble_eq_true rfl, Nat.le_of_ble_eq_true rfl⟩ ⟨Nat.le_refl _, Nat.le_refl _⟩ hl.1 (Nat.le_of_ble_eq_true rfl) dX11_put_32 (fun r8 M7 H locs hT h => ?_)
      refine lv_if_eq (tgt := 53) hx hb dX11_put_35 (by decide) (fun hc9 => ?_) (fun hc9 => ?_)
      · have hT := hT.1 hc9
        refine lv_iconst (v := -1) hx hb dX11_put_53 (by decide) ?_
        exact fx_iret X hr hk h hT dX11_put_54
      · have hT := hT.2 hc9
        refine lv_aload_n hx hb dX11_put_38 rfl (lv_at hl 0 rfl) ?_
        refine fx_getR X h (k := 0) (j := 0) (r := 1) sh_0 rfl fl_RX11_12 dX11_put_39 ?_
        refine fx_getR X h (k := 1) (j := 5) (r := 30) sh_1 rfl fl_RX11_292 dX11_put_42 ?_
        refine fx_getI X h (k := 30) (j := 11) sh_30 rfl fl_RX11_345 dX11_put_45 ?_
        refine lv_bipush (v := 7) hx hb dX11_put_48 (by decide) ?_
        refine lv_icmp_lt (tgt := 55) hx hb dX11_put_50 (by decide) (fun hc10 => ?_) (fun hc10 => ?_)
        · have hT := hT.1 hc10
          refine lv_aload_n hx hb dX11_put_55 rfl (lv_at hl 0 rfl) ?_
          refine fx_getR X h (k := 0) (j := 0) (r := 1) sh_0 rfl fl_RX11_12 dX11_put_56 ?_
          refine fx_getR X h (k := 1) (j := 5) (r := 30) sh_1 rfl fl_RX11_292 dX11_put_59 ?_
          refine fx_getR X h (k := 30) (j := 4) (r := 35) sh_30 rfl fl_RX11_348 dX11_put_62 ?_
          refine lv_aload_n hx hb dX11_put_65 rfl (lv_at hl 0 rfl) ?_
          refine fx_getR X h (k := 0) (j := 0) (r := 1) sh_0 rfl fl_RX11_12 dX11_put_66 ?_
          refine fx_getR X h (k := 1) (j := 5) (r := 30) sh_1 rfl fl_RX11_292 dX11_put_69 ?_
          refine fx_getI X h (k := 30) (j := 11) sh_30 rfl fl_RX11_345 dX11_put_72 ?_
          refine lv_iload_n hx hb dX11_put_75 rfl (lv_at hl 1 rfl) ?_
          obtain ⟨hi12, hT⟩ := hT
          refine fx_iast X h (k := 35) sh_35 hi12 dX11_put_76 (fun H locs h => ?_)
          obtain ⟨M11, eM11⟩ : ∃ z : Mm, z = m_up M7 35 ((M7 30 11)).toNatClampNeg x1 := ⟨_, rfl⟩
          have hT := hT M11 eM11
          rw [← eM11] at h
          refine lv_aload_n hx hb dX11_put_77 rfl (lv_at hl 0 rfl) ?_
          refine fx_getR X h (k := 0) (j := 0) (r := 1) sh_0 rfl fl_RX11_12 dX11_put_78 ?_
          refine fx_getR X h (k := 1) (j := 5) (r := 30) sh_1 rfl fl_RX11_292 dX11_put_81 ?_
          refine fx_getR X h (k := 30) (j := 5) (r := 36) sh_30 rfl fl_RX11_351 dX11_put_84 ?_
          refine lv_aload_n hx hb dX11_put_87 rfl (lv_at hl 0 rfl) ?_
          refine fx_getR X h (k := 0) (j := 0) (r := 1) sh_0 rfl fl_RX11_12 dX11_put_88 ?_
          refine fx_getR X h (k := 1) (j := 5) (r := 30) sh_1 rfl fl_RX11_292 dX11_put_91 ?_
          refine fx_getI X h (k := 30) (j := 11) sh_30 rfl fl_RX11_345 dX11_put_94 ?_
          refine lv_iload_n hx hb dX11_put_97 rfl (lv_at hl 2 rfl) ?_
          obtain ⟨hi14, hT⟩ := hT
          refine fx_iast X h (k := 36) sh_36 hi14 dX11_put_98 (fun H locs h => ?_)
          obtain ⟨M13, eM13⟩ : ∃ z : Mm, z = m_up M11 36 ((M11 30 11)).toNatClampNeg x2 := ⟨_, rfl⟩
          have hT := hT M13 eM13
          rw [← eM13] at h
          refine lv_aload_n hx hb dX11_put_99 rfl (lv_at hl 0 rfl) ?_
          refine fx_getR X h (k := 0) (j := 0) (r := 1) sh_0 rfl fl_RX11_12 dX11_put_100 ?_
          refine fx_getR X h (k := 1) (j := 5) (r := 30) sh_1 rfl fl_RX11_292 dX11_put_103 ?_
          refine lv_dup hx hb dX11_put_106 rfl ?_
          refine fx_getI X h (k := 30) (j := 11) sh_30 rfl fl_RX11_345 dX11_put_107 ?_
          refine lv_iconst (v := 1) hx hb dX11_put_110 (by decide) ?_
          refine lv_iadd hx hb dX11_put_111 ?_
          refine fx_putI X h (k := 30) (j := 11) sh_30 rfl fl_RX11_345 dX11_put_112 (fun H locs h => ?_)
          obtain ⟨M15, eM15⟩ : ∃ z : Mm, z = m_up M13 30 11 ((M13 30 11) + (1 : Int32)) := ⟨_, rfl⟩
          have hT := hT M15 eM15
          rw [← eM15] at h
          refine lv_aload_n hx hb dX11_put_115 rfl (lv_at hl 0 rfl) ?_
          refine fx_getR X h (k := 0) (j := 0) (r := 1) sh_0 rfl fl_RX11_12 dX11_put_116 ?_
          refine fx_getR X h (k := 1) (j := 5) (r := 30) sh_1 rfl fl_RX11_292 dX11_put_119 ?_
          refine fx_getI X h (k := 30) (j := 11) sh_30 rfl fl_RX11_345 dX11_put_122 ?_
          exact fx_iret X hr hk h hT dX11_put_125
        · have hT := hT.2 hc10
          refine lv_iconst (v := -1) hx hb dX11_put_53 (by decide) ?_
          exact fx_iret X hr hk h hT dX11_put_54
  · have hT := hT.1 hc1
    refine lv_aload_n hx hb dX11_put_5 rfl (lv_at hl 0 rfl) ?_
    refine fx_getR X h (k := 0) (j := 0) (r := 1) sh_0 rfl fl_RX11_12 dX11_put_6 ?_
    refine fx_getR X h (k := 1) (j := 5) (r := 30) sh_1 rfl fl_RX11_292 dX11_put_9 ?_
    refine lv_iconst (v := 0) hx hb dX11_put_12 (by decide) ?_
    refine fx_putI X h (k := 30) (j := 11) sh_30 rfl fl_RX11_345 dX11_put_13 (fun H locs h => ?_)
    obtain ⟨M16, eM16⟩ : ∃ z : Mm, z = m_up M 30 11 (0 : Int32) := ⟨_, rfl⟩
    have hT := hT M16 eM16
    rw [← eM16] at h
    refine lv_iconst (v := 0) hx hb dX11_put_16 (by decide) ?_
    exact fx_iret X hr hk h hT dX11_put_17
/-! MockParcels.puts(I)I -/
theorem dX11_puts_0 : decode cX11_puts 0 = .ok (.iload_n 1, 1) := by decide +kernel
theorem dX11_puts_1 : decode cX11_puts 1 = .ok (.iconst 0, 1) := by decide +kernel
theorem dX11_puts_2 : decode cX11_puts 2 = .ok (.iconst 1, 1) := by decide +kernel
theorem dX11_puts_3 : decode cX11_puts 3 = .ok (.invokestatic 88, 3) := by decide +kernel
theorem dX11_puts_6 : decode cX11_puts 6 = .ok (.ifCond .ne 5, 3) := by decide +kernel
theorem dX11_puts_9 : decode cX11_puts 9 = .ok (.iconst (-1), 1) := by decide +kernel
theorem dX11_puts_10 : decode cX11_puts 10 = .ok (.ireturn, 1) := by decide +kernel
theorem dX11_puts_11 : decode cX11_puts 11 = .ok (.aload_n 0, 1) := by decide +kernel
theorem dX11_puts_12 : decode cX11_puts 12 = .ok (.getfield 67, 3) := by decide +kernel
theorem dX11_puts_15 : decode cX11_puts 15 = .ok (.aload_n 0, 1) := by decide +kernel
theorem dX11_puts_16 : decode cX11_puts 16 = .ok (.getfield 12, 3) := by decide +kernel
theorem dX11_puts_19 : decode cX11_puts 19 = .ok (.getfield 292, 3) := by decide +kernel
theorem dX11_puts_22 : decode cX11_puts 22 = .ok (.invokevirtual 354, 3) := by decide +kernel
theorem dX11_puts_25 : decode cX11_puts 25 = .ok (.istore_n 2, 1) := by decide +kernel
theorem dX11_puts_26 : decode cX11_puts 26 = .ok (.iload_n 1, 1) := by decide +kernel
theorem dX11_puts_27 : decode cX11_puts 27 = .ok (.ifCond .ne 10, 3) := by decide +kernel
theorem dX11_puts_30 : decode cX11_puts 30 = .ok (.iload_n 2, 1) := by decide +kernel
theorem dX11_puts_31 : decode cX11_puts 31 = .ok (.bipush 8, 2) := by decide +kernel
theorem dX11_puts_33 : decode cX11_puts 33 = .ok (.idiv, 1) := by decide +kernel
theorem dX11_puts_34 : decode cX11_puts 34 = .ok (.goto 7, 3) := by decide +kernel
theorem dX11_puts_37 : decode cX11_puts 37 = .ok (.iload_n 2, 1) := by decide +kernel
theorem dX11_puts_38 : decode cX11_puts 38 = .ok (.bipush 8, 2) := by decide +kernel
theorem dX11_puts_40 : decode cX11_puts 40 = .ok (.irem, 1) := by decide +kernel
theorem dX11_puts_41 : decode cX11_puts 41 = .ok (.ireturn, 1) := by decide +kernel
def T_X11_puts (x1 : Int32) (M : Mm) (K : Int32 → Mm → Prop) : Prop := (T_X11_isWithin x1 (0 : Int32) (1 : Int32) M (fun r3 M2 => ((r3 = 0 → (K (-1 : Int32) M2)) ∧ (¬ r3 = 0 → (T_X8_bestPut 30 M2 (fun r7 M6 => ((x1 = 0 → (K (r7 / (8 : Int32)) M6)) ∧ (¬ x1 = 0 → (K (r7 - r7 / (8 : Int32) * (8 : Int32)) M6)))))))))
set_option maxHeartbeats 4000000 in
set_option maxRecDepth 100000 in
theorem c_X11_puts (l : Launch) (G : fx_G) {x1 : Int32} {M : Mm} {K : Int32 → Mm → Prop} (hT : T_X11_puts x1 M K) : Met l yX11_puts (fx_ws yX11_puts cX11_puts 3 (some .int)) (fx_rm (2)) (va_Pc [.ref (G.2.2.2 + 0), .int x1] (fx_P G SH M)) (va_Qi K (fx_R G SH) (fx_A G)) 0 0 (fx_A G) := by
  refine fx_met (own := RX11) (by decide +kernel) rfl (Nat.le_of_ble_eq_true rfl) (fun p e s m below meth c X hr hk h ls hl => ?_)
  obtain ⟨⟨hx, hb, hml, hown, hts⟩, hK, hQ⟩ := id X
  have hl : lv_has ls 3 [(0, .ref (G.2.2.2 + 0)), (1, .int x1)] := hl
  unfold T_X11_puts at hT
  refine lv_iload_n hx hb dX11_puts_0 rfl (lv_at hl 1 rfl) ?_
  refine lv_iconst (v := 0) hx hb dX11_puts_1 (by decide) ?_
  refine lv_iconst (v := 1) hx hb dX11_puts_2 (by decide) ?_
  refine fx_si X h ym_X11_isWithin yt_X11_isWithin (fx_s3 (List.mem_of_getElem? (i := 64) rfl) rfl) (c_X11_isWithin l G hT) (As := [.int x1, .int (0 : Int32), .int (1 : Int32)]) (rest := []) rfl rfl ⟨Nat.le_of_ble_eq_true rfl, Nat.le_of_ble_eq_true rfl⟩ ⟨Nat.le_refl _, Nat.le_refl _⟩ hl.1 (Nat.le_of_ble_eq_true rfl) dX11_puts_3 (fun r3 M2 H locs hT h => ?_)
  refine lv_if_ne (tgt := 11) hx hb dX11_puts_6 (by decide) (fun hc4 => ?_) (fun hc4 => ?_)
  · have hT := hT.2 hc4
    refine lv_aload_n hx hb dX11_puts_11 rfl (lv_at hl 0 rfl) ?_
    refine fx_getR X h (k := 0) (j := 8) (r := 151) sh_0 rfl fl_RX11_67 dX11_puts_12 ?_
    refine lv_aload_n hx hb dX11_puts_15 rfl (lv_at hl 0 rfl) ?_
    refine fx_getR X h (k := 0) (j := 0) (r := 1) sh_0 rfl fl_RX11_12 dX11_puts_16 ?_
    refine fx_getR X h (k := 1) (j := 5) (r := 30) sh_1 rfl fl_RX11_292 dX11_puts_19 ?_
    refine fx_vi X h ym_X8_bestPut yi_X8_bestPut ys_X8_bestPut (fx_s5 (List.mem_of_getElem? (i := 181) rfl) rfl) sh_151 rfl (c_X8_bestPut l G (by decide) hT) (As := [.ref (G.2.2.2 + 30)]) (rest := []) rfl rfl ⟨Nat.le_of_ble_eq_true rfl, Nat.le_of_ble_eq_true rfl⟩ ⟨Nat.le_refl _, Nat.le_refl _⟩ hl.1 (Nat.le_of_ble_eq_true rfl) dX11_puts_22 (fun r7 M6 H locs hT h => ?_)
    refine lv_istore_n (lv' := [(2, .int r7), (0, .ref (G.2.2.2 + 0)), (1, .int x1)]) hx hb dX11_puts_25 rfl hl (by decide) rfl (fun ls hl => ?_)
    refine lv_iload_n hx hb dX11_puts_26 rfl (lv_at hl 2 rfl) ?_
    refine lv_if_ne (tgt := 37) hx hb dX11_puts_27 (by decide) (fun hc8 => ?_) (fun hc8 => ?_)
    · have hT := hT.2 hc8
      refine lv_iload_n hx hb dX11_puts_37 rfl (lv_at hl 0 rfl) ?_
      refine lv_bipush (v := 8) hx hb dX11_puts_38 (by decide) ?_
      refine lv_irem hx hb dX11_puts_40 (by decide) ?_
      exact fx_iret X hr hk h hT dX11_puts_41
    · have hT := hT.1 hc8
      refine lv_iload_n hx hb dX11_puts_30 rfl (lv_at hl 0 rfl) ?_
      refine lv_bipush (v := 8) hx hb dX11_puts_31 (by decide) ?_
      refine lv_idiv hx hb dX11_puts_33 (by decide) ?_
      refine lv_goto (tgt := 41) hx hb dX11_puts_34 (by decide) ?_
      exact fx_iret X hr hk h hT dX11_puts_41
  · have hT := hT.1 hc4
    refine lv_iconst (v := -1) hx hb dX11_puts_9 (by decide) ?_
    exact fx_iret X hr hk h hT dX11_puts_10
/-! MockParcels.clue(IZ)I -/
theorem dX11_clue_0 : decode cX11_clue 0 = .ok (.iload_n 1, 1) := by decide +kernel
theorem dX11_clue_1 : decode cX11_clue 1 = .ok (.iconst (-1), 1) := by decide +kernel
theorem dX11_clue_2 : decode cX11_clue 2 = .ok (.if_icmp .ne 16, 3) := by decide +kernel
theorem dX11_clue_5 : decode cX11_clue 5 = .ok (.aload_n 0, 1) := by decide +kernel
theorem dX11_clue_6 : decode cX11_clue 6 = .ok (.getfield 12, 3) := by decide +kernel
theorem dX11_clue_9 : decode cX11_clue 9 = .ok (.getfield 292, 3) := by decide +kernel
theorem dX11_clue_12 : decode cX11_clue 12 = .ok (.iconst 0, 1) := by decide +kernel
theorem dX11_clue_13 : decode cX11_clue 13 = .ok (.putfield 357, 3) := by decide +kernel
theorem dX11_clue_16 : decode cX11_clue 16 = .ok (.iconst 0, 1) := by decide +kernel
theorem dX11_clue_17 : decode cX11_clue 17 = .ok (.ireturn, 1) := by decide +kernel
theorem dX11_clue_18 : decode cX11_clue 18 = .ok (.iload_n 1, 1) := by decide +kernel
theorem dX11_clue_19 : decode cX11_clue 19 = .ok (.iconst 0, 1) := by decide +kernel
theorem dX11_clue_20 : decode cX11_clue 20 = .ok (.ldc_w 360, 3) := by decide +kernel
theorem dX11_clue_23 : decode cX11_clue 23 = .ok (.invokestatic 88, 3) := by decide +kernel
theorem dX11_clue_26 : decode cX11_clue 26 = .ok (.ifCond .eq 18, 3) := by decide +kernel
theorem dX11_clue_29 : decode cX11_clue 29 = .ok (.aload_n 0, 1) := by decide +kernel
theorem dX11_clue_30 : decode cX11_clue 30 = .ok (.getfield 12, 3) := by decide +kernel
theorem dX11_clue_33 : decode cX11_clue 33 = .ok (.getfield 292, 3) := by decide +kernel
theorem dX11_clue_36 : decode cX11_clue 36 = .ok (.getfield 357, 3) := by decide +kernel
theorem dX11_clue_39 : decode cX11_clue 39 = .ok (.bipush 8, 2) := by decide +kernel
theorem dX11_clue_41 : decode cX11_clue 41 = .ok (.if_icmp .lt 5, 3) := by decide +kernel
theorem dX11_clue_44 : decode cX11_clue 44 = .ok (.iconst (-1), 1) := by decide +kernel
theorem dX11_clue_45 : decode cX11_clue 45 = .ok (.ireturn, 1) := by decide +kernel
theorem dX11_clue_46 : decode cX11_clue 46 = .ok (.aload_n 0, 1) := by decide +kernel
theorem dX11_clue_47 : decode cX11_clue 47 = .ok (.getfield 12, 3) := by decide +kernel
theorem dX11_clue_50 : decode cX11_clue 50 = .ok (.getfield 292, 3) := by decide +kernel
theorem dX11_clue_53 : decode cX11_clue 53 = .ok (.getfield 361, 3) := by decide +kernel
theorem dX11_clue_56 : decode cX11_clue 56 = .ok (.aload_n 0, 1) := by decide +kernel
theorem dX11_clue_57 : decode cX11_clue 57 = .ok (.getfield 12, 3) := by decide +kernel
theorem dX11_clue_60 : decode cX11_clue 60 = .ok (.getfield 292, 3) := by decide +kernel
theorem dX11_clue_63 : decode cX11_clue 63 = .ok (.getfield 357, 3) := by decide +kernel
theorem dX11_clue_66 : decode cX11_clue 66 = .ok (.iload_n 1, 1) := by decide +kernel
theorem dX11_clue_67 : decode cX11_clue 67 = .ok (.iastore, 1) := by decide +kernel
theorem dX11_clue_68 : decode cX11_clue 68 = .ok (.aload_n 0, 1) := by decide +kernel
theorem dX11_clue_69 : decode cX11_clue 69 = .ok (.getfield 12, 3) := by decide +kernel
theorem dX11_clue_72 : decode cX11_clue 72 = .ok (.getfield 292, 3) := by decide +kernel
theorem dX11_clue_75 : decode cX11_clue 75 = .ok (.getfield 364, 3) := by decide +kernel
theorem dX11_clue_78 : decode cX11_clue 78 = .ok (.aload_n 0, 1) := by decide +kernel
theorem dX11_clue_79 : decode cX11_clue 79 = .ok (.getfield 12, 3) := by decide +kernel
theorem dX11_clue_82 : decode cX11_clue 82 = .ok (.getfield 292, 3) := by decide +kernel
theorem dX11_clue_85 : decode cX11_clue 85 = .ok (.getfield 357, 3) := by decide +kernel
theorem dX11_clue_88 : decode cX11_clue 88 = .ok (.iload_n 2, 1) := by decide +kernel
theorem dX11_clue_89 : decode cX11_clue 89 = .ok (.ifCond .eq 7, 3) := by decide +kernel
theorem dX11_clue_92 : decode cX11_clue 92 = .ok (.iconst 1, 1) := by decide +kernel
theorem dX11_clue_93 : decode cX11_clue 93 = .ok (.goto 4, 3) := by decide +kernel
theorem dX11_clue_96 : decode cX11_clue 96 = .ok (.iconst 0, 1) := by decide +kernel
theorem dX11_clue_97 : decode cX11_clue 97 = .ok (.iastore, 1) := by decide +kernel
theorem dX11_clue_98 : decode cX11_clue 98 = .ok (.aload_n 0, 1) := by decide +kernel
theorem dX11_clue_99 : decode cX11_clue 99 = .ok (.getfield 12, 3) := by decide +kernel
theorem dX11_clue_102 : decode cX11_clue 102 = .ok (.getfield 292, 3) := by decide +kernel
theorem dX11_clue_105 : decode cX11_clue 105 = .ok (.dup, 1) := by decide +kernel
theorem dX11_clue_106 : decode cX11_clue 106 = .ok (.getfield 357, 3) := by decide +kernel
theorem dX11_clue_109 : decode cX11_clue 109 = .ok (.iconst 1, 1) := by decide +kernel
theorem dX11_clue_110 : decode cX11_clue 110 = .ok (.iadd, 1) := by decide +kernel
theorem dX11_clue_111 : decode cX11_clue 111 = .ok (.putfield 357, 3) := by decide +kernel
theorem dX11_clue_114 : decode cX11_clue 114 = .ok (.aload_n 0, 1) := by decide +kernel
theorem dX11_clue_115 : decode cX11_clue 115 = .ok (.getfield 12, 3) := by decide +kernel
theorem dX11_clue_118 : decode cX11_clue 118 = .ok (.getfield 292, 3) := by decide +kernel
theorem dX11_clue_121 : decode cX11_clue 121 = .ok (.getfield 357, 3) := by decide +kernel
theorem dX11_clue_124 : decode cX11_clue 124 = .ok (.ireturn, 1) := by decide +kernel
def T_X11_clue_97 (s1 : Int32) (s2 : Int32) (M : Mm) (K : Int32 → Mm → Prop) : Prop := (vp_in s1 8 ∧ (∀ M1 : Mm, M1 = m_up M 38 (s1).toNatClampNeg s2 → (∀ M3 : Mm, M3 = m_up M1 30 12 ((M1 30 12) + (1 : Int32)) → (K (M3 30 12) M3))))
set_option maxHeartbeats 4000000 in
set_option maxRecDepth 100000 in
theorem w_X11_clue_97 {p : Program} {l : Launch} {e : Env} {s : State} {m : MethodId} {args : Array Value} {below : List Frame} {meth : Method} {c : Code} {G : fx_G} {K : Int32 → Mm → Prop} (X : fx_C G p s m c args cX11_clue 3 RX11) (hr : meth.sig.returnType = (some .int)) (hk : meth.locks = false) : ∀ (s1 : Int32) (s2 : Int32) (M : Mm) (H : Heap) (locs : List Loc) (ls : Array Slot), T_X11_clue_97 s1 s2 M K → fx_H G SH M s H locs → lv_has ls 3 [(0, .ref (G.2.2.2 + 0))] → W p l e (fx_rm (1)) s m args below meth c H locs 0 0 (MQ below (va_Qi K (fx_R G SH) (fx_A G)) args s 0 0 (fx_A G)) (F0 m 97 ls [.int s2, .int s1, .ref (G.2.2.2 + 38)]) := by
  obtain ⟨⟨hx, hb, hml, hown, hts⟩, hK, hQ⟩ := id X
  intro s1 s2 M H locs ls hT h hl
  unfold T_X11_clue_97 at hT
  obtain ⟨hi2, hT⟩ := hT
  refine fx_iast X h (k := 38) sh_38 hi2 dX11_clue_97 (fun H locs h => ?_)
  obtain ⟨M1, eM1⟩ : ∃ z : Mm, z = m_up M 38 (s1).toNatClampNeg s2 := ⟨_, rfl⟩
  have hT := hT M1 eM1
  rw [← eM1] at h
  refine lv_aload_n hx hb dX11_clue_98 rfl (lv_at hl 0 rfl) ?_
  refine fx_getR X h (k := 0) (j := 0) (r := 1) sh_0 rfl fl_RX11_12 dX11_clue_99 ?_
  refine fx_getR X h (k := 1) (j := 5) (r := 30) sh_1 rfl fl_RX11_292 dX11_clue_102 ?_
  refine lv_dup hx hb dX11_clue_105 rfl ?_
  refine fx_getI X h (k := 30) (j := 12) sh_30 rfl fl_RX11_357 dX11_clue_106 ?_
  refine lv_iconst (v := 1) hx hb dX11_clue_109 (by decide) ?_
  refine lv_iadd hx hb dX11_clue_110 ?_
  refine fx_putI X h (k := 30) (j := 12) sh_30 rfl fl_RX11_357 dX11_clue_111 (fun H locs h => ?_)
  obtain ⟨M3, eM3⟩ : ∃ z : Mm, z = m_up M1 30 12 ((M1 30 12) + (1 : Int32)) := ⟨_, rfl⟩
  have hT := hT M3 eM3
  rw [← eM3] at h
  refine lv_aload_n hx hb dX11_clue_114 rfl (lv_at hl 0 rfl) ?_
  refine fx_getR X h (k := 0) (j := 0) (r := 1) sh_0 rfl fl_RX11_12 dX11_clue_115 ?_
  refine fx_getR X h (k := 1) (j := 5) (r := 30) sh_1 rfl fl_RX11_292 dX11_clue_118 ?_
  refine fx_getI X h (k := 30) (j := 12) sh_30 rfl fl_RX11_357 dX11_clue_121 ?_
  exact fx_iret X hr hk h hT dX11_clue_124
def T_X11_clue (x1 : Int32) (x2 : Int32) (M : Mm) (K : Int32 → Mm → Prop) : Prop := ((x1 = (-1 : Int32) → (∀ M13 : Mm, M13 = m_up M 30 12 (0 : Int32) → (K (0 : Int32) M13))) ∧ (¬ x1 = (-1 : Int32) → (T_X11_isWithin x1 (0 : Int32) (65535 : Int32) M (fun r7 M6 => ((r7 = 0 → (K (-1 : Int32) M6)) ∧ (¬ r7 = 0 → (((M6 30 12) < (8 : Int32) → (vp_in (M6 30 12) 8 ∧ (∀ M10 : Mm, M10 = m_up M6 37 ((M6 30 12)).toNatClampNeg x1 → ((x2 = 0 → (T_X11_clue_97 (M10 30 12) (0 : Int32) M10 K)) ∧ (¬ x2 = 0 → (T_X11_clue_97 (M10 30 12) (1 : Int32) M10 K)))))) ∧ (¬ (M6 30 12) < (8 : Int32) → (K (-1 : Int32) M6)))))))))
set_option maxHeartbeats 4000000 in
set_option maxRecDepth 100000 in
theorem c_X11_clue (l : Launch) (G : fx_G) {x1 : Int32} {x2 : Int32} {M : Mm} {K : Int32 → Mm → Prop} (hT : T_X11_clue x1 x2 M K) : Met l yX11_clue (fx_ws yX11_clue cX11_clue 3 (some .int)) (fx_rm (1)) (va_Pc [.ref (G.2.2.2 + 0), .int x1, .int x2] (fx_P G SH M)) (va_Qi K (fx_R G SH) (fx_A G)) 0 0 (fx_A G) := by
  refine fx_met (own := RX11) (by decide +kernel) rfl (Nat.le_of_ble_eq_true rfl) (fun p e s m below meth c X hr hk h ls hl => ?_)
  obtain ⟨⟨hx, hb, hml, hown, hts⟩, hK, hQ⟩ := id X
  have hl : lv_has ls 3 [(0, .ref (G.2.2.2 + 0)), (1, .int x1), (2, .int x2)] := hl
  unfold T_X11_clue at hT
  refine lv_iload_n hx hb dX11_clue_0 rfl (lv_at hl 1 rfl) ?_
  refine lv_iconst (v := -1) hx hb dX11_clue_1 (by decide) ?_
  refine lv_icmp_ne (tgt := 18) hx hb dX11_clue_2 (by decide) (fun hc4 => ?_) (fun hc4 => ?_)
  · have hT := hT.2 hc4
    refine lv_iload_n hx hb dX11_clue_18 rfl (lv_at hl 1 rfl) ?_
    refine lv_iconst (v := 0) hx hb dX11_clue_19 (by decide) ?_
    refine lv_ldcw (v := 65535) hx hb hown (hts _ (fx_s5 (List.mem_of_getElem? (i := 194) rfl) rfl)) dX11_clue_20 ?_
    refine fx_si X h ym_X11_isWithin yt_X11_isWithin (fx_s3 (List.mem_of_getElem? (i := 64) rfl) rfl) (c_X11_isWithin l G hT) (As := [.int x1, .int (0 : Int32), .int (65535 : Int32)]) (rest := []) rfl rfl ⟨Nat.le_of_ble_eq_true rfl, Nat.le_of_ble_eq_true rfl⟩ ⟨Nat.le_refl _, Nat.le_refl _⟩ hl.1 (Nat.le_of_ble_eq_true rfl) dX11_clue_23 (fun r7 M6 H locs hT h => ?_)
    refine lv_if_eq (tgt := 44) hx hb dX11_clue_26 (by decide) (fun hc8 => ?_) (fun hc8 => ?_)
    · have hT := hT.1 hc8
      refine lv_iconst (v := -1) hx hb dX11_clue_44 (by decide) ?_
      exact fx_iret X hr hk h hT dX11_clue_45
    · have hT := hT.2 hc8
      refine lv_aload_n hx hb dX11_clue_29 rfl (lv_at hl 0 rfl) ?_
      refine fx_getR X h (k := 0) (j := 0) (r := 1) sh_0 rfl fl_RX11_12 dX11_clue_30 ?_
      refine fx_getR X h (k := 1) (j := 5) (r := 30) sh_1 rfl fl_RX11_292 dX11_clue_33 ?_
      refine fx_getI X h (k := 30) (j := 12) sh_30 rfl fl_RX11_357 dX11_clue_36 ?_
      refine lv_bipush (v := 8) hx hb dX11_clue_39 (by decide) ?_
      refine lv_icmp_lt (tgt := 46) hx hb dX11_clue_41 (by decide) (fun hc9 => ?_) (fun hc9 => ?_)
      · have hT := hT.1 hc9
        refine lv_aload_n hx hb dX11_clue_46 rfl (lv_at hl 0 rfl) ?_
        refine fx_getR X h (k := 0) (j := 0) (r := 1) sh_0 rfl fl_RX11_12 dX11_clue_47 ?_
        refine fx_getR X h (k := 1) (j := 5) (r := 30) sh_1 rfl fl_RX11_292 dX11_clue_50 ?_
        refine fx_getR X h (k := 30) (j := 6) (r := 37) sh_30 rfl fl_RX11_361 dX11_clue_53 ?_
        refine lv_aload_n hx hb dX11_clue_56 rfl (lv_at hl 0 rfl) ?_
        refine fx_getR X h (k := 0) (j := 0) (r := 1) sh_0 rfl fl_RX11_12 dX11_clue_57 ?_
        refine fx_getR X h (k := 1) (j := 5) (r := 30) sh_1 rfl fl_RX11_292 dX11_clue_60 ?_
        refine fx_getI X h (k := 30) (j := 12) sh_30 rfl fl_RX11_357 dX11_clue_63 ?_
        refine lv_iload_n hx hb dX11_clue_66 rfl (lv_at hl 1 rfl) ?_
        obtain ⟨hi11, hT⟩ := hT
        refine fx_iast X h (k := 37) sh_37 hi11 dX11_clue_67 (fun H locs h => ?_)
        obtain ⟨M10, eM10⟩ : ∃ z : Mm, z = m_up M6 37 ((M6 30 12)).toNatClampNeg x1 := ⟨_, rfl⟩
        have hT := hT M10 eM10
        rw [← eM10] at h
        refine lv_aload_n hx hb dX11_clue_68 rfl (lv_at hl 0 rfl) ?_
        refine fx_getR X h (k := 0) (j := 0) (r := 1) sh_0 rfl fl_RX11_12 dX11_clue_69 ?_
        refine fx_getR X h (k := 1) (j := 5) (r := 30) sh_1 rfl fl_RX11_292 dX11_clue_72 ?_
        refine fx_getR X h (k := 30) (j := 7) (r := 38) sh_30 rfl fl_RX11_364 dX11_clue_75 ?_
        refine lv_aload_n hx hb dX11_clue_78 rfl (lv_at hl 0 rfl) ?_
        refine fx_getR X h (k := 0) (j := 0) (r := 1) sh_0 rfl fl_RX11_12 dX11_clue_79 ?_
        refine fx_getR X h (k := 1) (j := 5) (r := 30) sh_1 rfl fl_RX11_292 dX11_clue_82 ?_
        refine fx_getI X h (k := 30) (j := 12) sh_30 rfl fl_RX11_357 dX11_clue_85 ?_
        refine lv_iload_n hx hb dX11_clue_88 rfl (lv_at hl 2 rfl) ?_
        refine lv_if_eq (tgt := 96) hx hb dX11_clue_89 (by decide) (fun hc12 => ?_) (fun hc12 => ?_)
        · have hT := hT.1 hc12
          refine lv_iconst (v := 0) hx hb dX11_clue_96 (by decide) ?_
          exact w_X11_clue_97 X hr hk (M10 30 12) (0 : Int32) M10 _ _ ls hT h (lv_sub hl [0] rfl)
        · have hT := hT.2 hc12
          refine lv_iconst (v := 1) hx hb dX11_clue_92 (by decide) ?_
          refine lv_goto (tgt := 97) hx hb dX11_clue_93 (by decide) ?_
          exact w_X11_clue_97 X hr hk (M10 30 12) (1 : Int32) M10 _ _ ls hT h (lv_sub hl [0] rfl)
      · have hT := hT.2 hc9
        refine lv_iconst (v := -1) hx hb dX11_clue_44 (by decide) ?_
        exact fx_iret X hr hk h hT dX11_clue_45
  · have hT := hT.1 hc4
    refine lv_aload_n hx hb dX11_clue_5 rfl (lv_at hl 0 rfl) ?_
    refine fx_getR X h (k := 0) (j := 0) (r := 1) sh_0 rfl fl_RX11_12 dX11_clue_6 ?_
    refine fx_getR X h (k := 1) (j := 5) (r := 30) sh_1 rfl fl_RX11_292 dX11_clue_9 ?_
    refine lv_iconst (v := 0) hx hb dX11_clue_12 (by decide) ?_
    refine fx_putI X h (k := 30) (j := 12) sh_30 rfl fl_RX11_357 dX11_clue_13 (fun H locs h => ?_)
    obtain ⟨M13, eM13⟩ : ∃ z : Mm, z = m_up M 30 12 (0 : Int32) := ⟨_, rfl⟩
    have hT := hT M13 eM13
    rw [← eM13] at h
    refine lv_iconst (v := 0) hx hb dX11_clue_16 (by decide) ?_
    exact fx_iret X hr hk h hT dX11_clue_17
/-! MockParcels.which(I)I -/
theorem dX11_which_0 : decode cX11_which 0 = .ok (.iload_n 1, 1) := by decide +kernel
theorem dX11_which_1 : decode cX11_which 1 = .ok (.ifCond .ne 28, 3) := by decide +kernel
theorem dX11_which_4 : decode cX11_which 4 = .ok (.aload_n 0, 1) := by decide +kernel
theorem dX11_which_5 : decode cX11_which 5 = .ok (.getfield 67, 3) := by decide +kernel
theorem dX11_which_8 : decode cX11_which 8 = .ok (.aload_n 0, 1) := by decide +kernel
theorem dX11_which_9 : decode cX11_which 9 = .ok (.getfield 12, 3) := by decide +kernel
theorem dX11_which_12 : decode cX11_which 12 = .ok (.getfield 292, 3) := by decide +kernel
theorem dX11_which_15 : decode cX11_which 15 = .ok (.aload_n 0, 1) := by decide +kernel
theorem dX11_which_16 : decode cX11_which 16 = .ok (.getfield 12, 3) := by decide +kernel
theorem dX11_which_19 : decode cX11_which 19 = .ok (.getfield 92, 3) := by decide +kernel
theorem dX11_which_22 : decode cX11_which 22 = .ok (.getfield 96, 3) := by decide +kernel
theorem dX11_which_25 : decode cX11_which 25 = .ok (.invokevirtual 367, 3) := by decide +kernel
theorem dX11_which_28 : decode cX11_which 28 = .ok (.ireturn, 1) := by decide +kernel
theorem dX11_which_29 : decode cX11_which 29 = .ok (.iload_n 1, 1) := by decide +kernel
theorem dX11_which_30 : decode cX11_which 30 = .ok (.iconst 1, 1) := by decide +kernel
theorem dX11_which_31 : decode cX11_which 31 = .ok (.if_icmp .ne 30, 3) := by decide +kernel
theorem dX11_which_34 : decode cX11_which 34 = .ok (.aload_n 0, 1) := by decide +kernel
theorem dX11_which_35 : decode cX11_which 35 = .ok (.getfield 67, 3) := by decide +kernel
theorem dX11_which_38 : decode cX11_which 38 = .ok (.aload_n 0, 1) := by decide +kernel
theorem dX11_which_39 : decode cX11_which 39 = .ok (.getfield 12, 3) := by decide +kernel
theorem dX11_which_42 : decode cX11_which 42 = .ok (.getfield 292, 3) := by decide +kernel
theorem dX11_which_45 : decode cX11_which 45 = .ok (.aload_n 0, 1) := by decide +kernel
theorem dX11_which_46 : decode cX11_which 46 = .ok (.getfield 12, 3) := by decide +kernel
theorem dX11_which_49 : decode cX11_which 49 = .ok (.getfield 92, 3) := by decide +kernel
theorem dX11_which_52 : decode cX11_which 52 = .ok (.getfield 96, 3) := by decide +kernel
theorem dX11_which_55 : decode cX11_which 55 = .ok (.invokevirtual 370, 3) := by decide +kernel
theorem dX11_which_58 : decode cX11_which 58 = .ok (.goto 4, 3) := by decide +kernel
theorem dX11_which_61 : decode cX11_which 61 = .ok (.iconst (-1), 1) := by decide +kernel
theorem dX11_which_62 : decode cX11_which 62 = .ok (.ireturn, 1) := by decide +kernel
def T_X11_which (x1 : Int32) (M : Mm) (K : Int32 → Mm → Prop) : Prop := ((x1 = 0 → (T_X8_matching 30 (M 2 0) M (fun r8 M7 => (K r8 M7)))) ∧ (¬ x1 = 0 → ((x1 = (1 : Int32) → (T_X8_fewestClues 30 (M 2 0) M (fun r5 M4 => (K r5 M4)))) ∧ (¬ x1 = (1 : Int32) → (K (-1 : Int32) M)))))
set_option maxHeartbeats 4000000 in
set_option maxRecDepth 100000 in
theorem c_X11_which (l : Launch) (G : fx_G) {x1 : Int32} {M : Mm} {K : Int32 → Mm → Prop} (hT : T_X11_which x1 M K) : Met l yX11_which (fx_ws yX11_which cX11_which 2 (some .int)) (fx_rm (2)) (va_Pc [.ref (G.2.2.2 + 0), .int x1] (fx_P G SH M)) (va_Qi K (fx_R G SH) (fx_A G)) 0 0 (fx_A G) := by
  refine fx_met (own := RX11) (by decide +kernel) rfl (Nat.le_of_ble_eq_true rfl) (fun p e s m below meth c X hr hk h ls hl => ?_)
  obtain ⟨⟨hx, hb, hml, hown, hts⟩, hK, hQ⟩ := id X
  have hl : lv_has ls 2 [(0, .ref (G.2.2.2 + 0)), (1, .int x1)] := hl
  unfold T_X11_which at hT
  refine lv_iload_n hx hb dX11_which_0 rfl (lv_at hl 1 rfl) ?_
  refine lv_if_ne (tgt := 29) hx hb dX11_which_1 (by decide) (fun hc1 => ?_) (fun hc1 => ?_)
  · have hT := hT.2 hc1
    refine lv_iload_n hx hb dX11_which_29 rfl (lv_at hl 1 rfl) ?_
    refine lv_iconst (v := 1) hx hb dX11_which_30 (by decide) ?_
    refine lv_icmp_ne (tgt := 61) hx hb dX11_which_31 (by decide) (fun hc2 => ?_) (fun hc2 => ?_)
    · have hT := hT.2 hc2
      refine lv_iconst (v := -1) hx hb dX11_which_61 (by decide) ?_
      exact fx_iret X hr hk h hT dX11_which_62
    · have hT := hT.1 hc2
      refine lv_aload_n hx hb dX11_which_34 rfl (lv_at hl 0 rfl) ?_
      refine fx_getR X h (k := 0) (j := 8) (r := 151) sh_0 rfl fl_RX11_67 dX11_which_35 ?_
      refine lv_aload_n hx hb dX11_which_38 rfl (lv_at hl 0 rfl) ?_
      refine fx_getR X h (k := 0) (j := 0) (r := 1) sh_0 rfl fl_RX11_12 dX11_which_39 ?_
      refine fx_getR X h (k := 1) (j := 5) (r := 30) sh_1 rfl fl_RX11_292 dX11_which_42 ?_
      refine lv_aload_n hx hb dX11_which_45 rfl (lv_at hl 0 rfl) ?_
      refine fx_getR X h (k := 0) (j := 0) (r := 1) sh_0 rfl fl_RX11_12 dX11_which_46 ?_
      refine fx_getR X h (k := 1) (j := 0) (r := 2) sh_1 rfl fl_RX11_92 dX11_which_49 ?_
      refine fx_getI X h (k := 2) (j := 0) sh_2 rfl fl_RX11_96 dX11_which_52 ?_
      refine fx_vi X h ym_X8_fewestClues yi_X8_fewestClues ys_X8_fewestClues (fx_s5 (List.mem_of_getElem? (i := 203) rfl) rfl) sh_151 rfl (c_X8_fewestClues l G (by decide) hT) (As := [.ref (G.2.2.2 + 30), .int (M 2 0)]) (rest := []) rfl rfl ⟨Nat.le_of_ble_eq_true rfl, Nat.le_of_ble_eq_true rfl⟩ ⟨Nat.le_refl _, Nat.le_refl _⟩ hl.1 (Nat.le_of_ble_eq_true rfl) dX11_which_55 (fun r5 M4 H locs hT h => ?_)
      refine lv_goto (tgt := 62) hx hb dX11_which_58 (by decide) ?_
      exact fx_iret X hr hk h hT dX11_which_62
  · have hT := hT.1 hc1
    refine lv_aload_n hx hb dX11_which_4 rfl (lv_at hl 0 rfl) ?_
    refine fx_getR X h (k := 0) (j := 8) (r := 151) sh_0 rfl fl_RX11_67 dX11_which_5 ?_
    refine lv_aload_n hx hb dX11_which_8 rfl (lv_at hl 0 rfl) ?_
    refine fx_getR X h (k := 0) (j := 0) (r := 1) sh_0 rfl fl_RX11_12 dX11_which_9 ?_
    refine fx_getR X h (k := 1) (j := 5) (r := 30) sh_1 rfl fl_RX11_292 dX11_which_12 ?_
    refine lv_aload_n hx hb dX11_which_15 rfl (lv_at hl 0 rfl) ?_
    refine fx_getR X h (k := 0) (j := 0) (r := 1) sh_0 rfl fl_RX11_12 dX11_which_16 ?_
    refine fx_getR X h (k := 1) (j := 0) (r := 2) sh_1 rfl fl_RX11_92 dX11_which_19 ?_
    refine fx_getI X h (k := 2) (j := 0) sh_2 rfl fl_RX11_96 dX11_which_22 ?_
    refine fx_vi X h ym_X8_matching yi_X8_matching ys_X8_matching (fx_s5 (List.mem_of_getElem? (i := 199) rfl) rfl) sh_151 rfl (c_X8_matching l G (by decide) hT) (As := [.ref (G.2.2.2 + 30), .int (M 2 0)]) (rest := []) rfl rfl ⟨Nat.le_of_ble_eq_true rfl, Nat.le_of_ble_eq_true rfl⟩ ⟨Nat.le_refl _, Nat.le_refl _⟩ hl.1 (Nat.le_of_ble_eq_true rfl) dX11_which_25 (fun r8 M7 H locs hT h => ?_)
    exact fx_iret X hr hk h hT dX11_which_28
/-! MockParcels.police(I)I -/
theorem dX11_police_0 : decode cX11_police 0 = .ok (.iload_n 1, 1) := by decide +kernel
theorem dX11_police_1 : decode cX11_police 1 = .ok (.iconst (-1), 1) := by decide +kernel
theorem dX11_police_2 : decode cX11_police 2 = .ok (.if_icmp .ne 16, 3) := by decide +kernel
theorem dX11_police_5 : decode cX11_police 5 = .ok (.aload_n 0, 1) := by decide +kernel
theorem dX11_police_6 : decode cX11_police 6 = .ok (.getfield 12, 3) := by decide +kernel
theorem dX11_police_9 : decode cX11_police 9 = .ok (.getfield 292, 3) := by decide +kernel
theorem dX11_police_12 : decode cX11_police 12 = .ok (.iconst 0, 1) := by decide +kernel
theorem dX11_police_13 : decode cX11_police 13 = .ok (.putfield 373, 3) := by decide +kernel
theorem dX11_police_16 : decode cX11_police 16 = .ok (.iconst 0, 1) := by decide +kernel
theorem dX11_police_17 : decode cX11_police 17 = .ok (.ireturn, 1) := by decide +kernel
theorem dX11_police_18 : decode cX11_police 18 = .ok (.iload_n 1, 1) := by decide +kernel
theorem dX11_police_19 : decode cX11_police 19 = .ok (.iconst 0, 1) := by decide +kernel
theorem dX11_police_20 : decode cX11_police 20 = .ok (.sipush 999, 3) := by decide +kernel
theorem dX11_police_23 : decode cX11_police 23 = .ok (.invokestatic 88, 3) := by decide +kernel
theorem dX11_police_26 : decode cX11_police 26 = .ok (.ifCond .eq 18, 3) := by decide +kernel
theorem dX11_police_29 : decode cX11_police 29 = .ok (.aload_n 0, 1) := by decide +kernel
theorem dX11_police_30 : decode cX11_police 30 = .ok (.getfield 12, 3) := by decide +kernel
theorem dX11_police_33 : decode cX11_police 33 = .ok (.getfield 292, 3) := by decide +kernel
theorem dX11_police_36 : decode cX11_police 36 = .ok (.getfield 373, 3) := by decide +kernel
theorem dX11_police_39 : decode cX11_police 39 = .ok (.bipush 20, 2) := by decide +kernel
theorem dX11_police_41 : decode cX11_police 41 = .ok (.if_icmp .lt 5, 3) := by decide +kernel
theorem dX11_police_44 : decode cX11_police 44 = .ok (.iconst (-1), 1) := by decide +kernel
theorem dX11_police_45 : decode cX11_police 45 = .ok (.ireturn, 1) := by decide +kernel
theorem dX11_police_46 : decode cX11_police 46 = .ok (.aload_n 0, 1) := by decide +kernel
theorem dX11_police_47 : decode cX11_police 47 = .ok (.getfield 12, 3) := by decide +kernel
theorem dX11_police_50 : decode cX11_police 50 = .ok (.getfield 292, 3) := by decide +kernel
theorem dX11_police_53 : decode cX11_police 53 = .ok (.getfield 376, 3) := by decide +kernel
theorem dX11_police_56 : decode cX11_police 56 = .ok (.aload_n 0, 1) := by decide +kernel
theorem dX11_police_57 : decode cX11_police 57 = .ok (.getfield 12, 3) := by decide +kernel
theorem dX11_police_60 : decode cX11_police 60 = .ok (.getfield 292, 3) := by decide +kernel
theorem dX11_police_63 : decode cX11_police 63 = .ok (.getfield 373, 3) := by decide +kernel
theorem dX11_police_66 : decode cX11_police 66 = .ok (.iload_n 1, 1) := by decide +kernel
theorem dX11_police_67 : decode cX11_police 67 = .ok (.iastore, 1) := by decide +kernel
theorem dX11_police_68 : decode cX11_police 68 = .ok (.aload_n 0, 1) := by decide +kernel
theorem dX11_police_69 : decode cX11_police 69 = .ok (.getfield 12, 3) := by decide +kernel
theorem dX11_police_72 : decode cX11_police 72 = .ok (.getfield 292, 3) := by decide +kernel
theorem dX11_police_75 : decode cX11_police 75 = .ok (.dup, 1) := by decide +kernel
theorem dX11_police_76 : decode cX11_police 76 = .ok (.getfield 373, 3) := by decide +kernel
theorem dX11_police_79 : decode cX11_police 79 = .ok (.iconst 1, 1) := by decide +kernel
theorem dX11_police_80 : decode cX11_police 80 = .ok (.iadd, 1) := by decide +kernel
theorem dX11_police_81 : decode cX11_police 81 = .ok (.putfield 373, 3) := by decide +kernel
theorem dX11_police_84 : decode cX11_police 84 = .ok (.aload_n 0, 1) := by decide +kernel
theorem dX11_police_85 : decode cX11_police 85 = .ok (.getfield 12, 3) := by decide +kernel
theorem dX11_police_88 : decode cX11_police 88 = .ok (.getfield 292, 3) := by decide +kernel
theorem dX11_police_91 : decode cX11_police 91 = .ok (.getfield 373, 3) := by decide +kernel
theorem dX11_police_94 : decode cX11_police 94 = .ok (.ireturn, 1) := by decide +kernel
def T_X11_police (x1 : Int32) (M : Mm) (K : Int32 → Mm → Prop) : Prop := ((x1 = (-1 : Int32) → (∀ M10 : Mm, M10 = m_up M 30 13 (0 : Int32) → (K (0 : Int32) M10))) ∧ (¬ x1 = (-1 : Int32) → (T_X11_isWithin x1 (0 : Int32) (999 : Int32) M (fun r4 M3 => ((r4 = 0 → (K (-1 : Int32) M3)) ∧ (¬ r4 = 0 → (((M3 30 13) < (20 : Int32) → (vp_in (M3 30 13) 20 ∧ (∀ M7 : Mm, M7 = m_up M3 39 ((M3 30 13)).toNatClampNeg x1 → (∀ M9 : Mm, M9 = m_up M7 30 13 ((M7 30 13) + (1 : Int32)) → (K (M9 30 13) M9))))) ∧ (¬ (M3 30 13) < (20 : Int32) → (K (-1 : Int32) M3)))))))))
set_option maxHeartbeats 4000000 in
set_option maxRecDepth 100000 in
theorem c_X11_police (l : Launch) (G : fx_G) {x1 : Int32} {M : Mm} {K : Int32 → Mm → Prop} (hT : T_X11_police x1 M K) : Met l yX11_police (fx_ws yX11_police cX11_police 2 (some .int)) (fx_rm (1)) (va_Pc [.ref (G.2.2.2 + 0), .int x1] (fx_P G SH M)) (va_Qi K (fx_R G SH) (fx_A G)) 0 0 (fx_A G) := by
  refine fx_met (own := RX11) (by decide +kernel) rfl (Nat.le_of_ble_eq_true rfl) (fun p e s m below meth c X hr hk h ls hl => ?_)
  obtain ⟨⟨hx, hb, hml, hown, hts⟩, hK, hQ⟩ := id X
  have hl : lv_has ls 2 [(0, .ref (G.2.2.2 + 0)), (1, .int x1)] := hl
  unfold T_X11_police at hT
  refine lv_iload_n hx hb dX11_police_0 rfl (lv_at hl 1 rfl) ?_
  refine lv_iconst (v := -1) hx hb dX11_police_1 (by decide) ?_
  refine lv_icmp_ne (tgt := 18) hx hb dX11_police_2 (by decide) (fun hc1 => ?_) (fun hc1 => ?_)
  · have hT := hT.2 hc1
    refine lv_iload_n hx hb dX11_police_18 rfl (lv_at hl 1 rfl) ?_
    refine lv_iconst (v := 0) hx hb dX11_police_19 (by decide) ?_
    refine lv_sipush (v := 999) hx hb dX11_police_20 (by decide) ?_
    refine fx_si X h ym_X11_isWithin yt_X11_isWithin (fx_s3 (List.mem_of_getElem? (i := 64) rfl) rfl) (c_X11_isWithin l G hT) (As := [.int x1, .int (0 : Int32), .int (999 : Int32)]) (rest := []) rfl rfl ⟨Nat.le_of_ble_eq_true rfl, Nat.le_of_ble_eq_true rfl⟩ ⟨Nat.le_refl _, Nat.le_refl _⟩ hl.1 (Nat.le_of_ble_eq_true rfl) dX11_police_23 (fun r4 M3 H locs hT h => ?_)
    refine lv_if_eq (tgt := 44) hx hb dX11_police_26 (by decide) (fun hc5 => ?_) (fun hc5 => ?_)
    · have hT := hT.1 hc5
      refine lv_iconst (v := -1) hx hb dX11_police_44 (by decide) ?_
      exact fx_iret X hr hk h hT dX11_police_45
    · have hT := hT.2 hc5
      refine lv_aload_n hx hb dX11_police_29 rfl (lv_at hl 0 rfl) ?_
      refine fx_getR X h (k := 0) (j := 0) (r := 1) sh_0 rfl fl_RX11_12 dX11_police_30 ?_
      refine fx_getR X h (k := 1) (j := 5) (r := 30) sh_1 rfl fl_RX11_292 dX11_police_33 ?_
      refine fx_getI X h (k := 30) (j := 13) sh_30 rfl fl_RX11_373 dX11_police_36 ?_
      refine lv_bipush (v := 20) hx hb dX11_police_39 (by decide) ?_
      refine lv_icmp_lt (tgt := 46) hx hb dX11_police_41 (by decide) (fun hc6 => ?_) (fun hc6 => ?_)
      · have hT := hT.1 hc6
        refine lv_aload_n hx hb dX11_police_46 rfl (lv_at hl 0 rfl) ?_
        refine fx_getR X h (k := 0) (j := 0) (r := 1) sh_0 rfl fl_RX11_12 dX11_police_47 ?_
        refine fx_getR X h (k := 1) (j := 5) (r := 30) sh_1 rfl fl_RX11_292 dX11_police_50 ?_
        refine fx_getR X h (k := 30) (j := 8) (r := 39) sh_30 rfl fl_RX11_376 dX11_police_53 ?_
        refine lv_aload_n hx hb dX11_police_56 rfl (lv_at hl 0 rfl) ?_
        refine fx_getR X h (k := 0) (j := 0) (r := 1) sh_0 rfl fl_RX11_12 dX11_police_57 ?_
        refine fx_getR X h (k := 1) (j := 5) (r := 30) sh_1 rfl fl_RX11_292 dX11_police_60 ?_
        refine fx_getI X h (k := 30) (j := 13) sh_30 rfl fl_RX11_373 dX11_police_63 ?_
        refine lv_iload_n hx hb dX11_police_66 rfl (lv_at hl 1 rfl) ?_
        obtain ⟨hi8, hT⟩ := hT
        refine fx_iast X h (k := 39) sh_39 hi8 dX11_police_67 (fun H locs h => ?_)
        obtain ⟨M7, eM7⟩ : ∃ z : Mm, z = m_up M3 39 ((M3 30 13)).toNatClampNeg x1 := ⟨_, rfl⟩
        have hT := hT M7 eM7
        rw [← eM7] at h
        refine lv_aload_n hx hb dX11_police_68 rfl (lv_at hl 0 rfl) ?_
        refine fx_getR X h (k := 0) (j := 0) (r := 1) sh_0 rfl fl_RX11_12 dX11_police_69 ?_
        refine fx_getR X h (k := 1) (j := 5) (r := 30) sh_1 rfl fl_RX11_292 dX11_police_72 ?_
        refine lv_dup hx hb dX11_police_75 rfl ?_
        refine fx_getI X h (k := 30) (j := 13) sh_30 rfl fl_RX11_373 dX11_police_76 ?_
        refine lv_iconst (v := 1) hx hb dX11_police_79 (by decide) ?_
        refine lv_iadd hx hb dX11_police_80 ?_
        refine fx_putI X h (k := 30) (j := 13) sh_30 rfl fl_RX11_373 dX11_police_81 (fun H locs h => ?_)
        obtain ⟨M9, eM9⟩ : ∃ z : Mm, z = m_up M7 30 13 ((M7 30 13) + (1 : Int32)) := ⟨_, rfl⟩
        have hT := hT M9 eM9
        rw [← eM9] at h
        refine lv_aload_n hx hb dX11_police_84 rfl (lv_at hl 0 rfl) ?_
        refine fx_getR X h (k := 0) (j := 0) (r := 1) sh_0 rfl fl_RX11_12 dX11_police_85 ?_
        refine fx_getR X h (k := 1) (j := 5) (r := 30) sh_1 rfl fl_RX11_292 dX11_police_88 ?_
        refine fx_getI X h (k := 30) (j := 13) sh_30 rfl fl_RX11_373 dX11_police_91 ?_
        exact fx_iret X hr hk h hT dX11_police_94
      · have hT := hT.2 hc6
        refine lv_iconst (v := -1) hx hb dX11_police_44 (by decide) ?_
        exact fx_iret X hr hk h hT dX11_police_45
  · have hT := hT.1 hc1
    refine lv_aload_n hx hb dX11_police_5 rfl (lv_at hl 0 rfl) ?_
    refine fx_getR X h (k := 0) (j := 0) (r := 1) sh_0 rfl fl_RX11_12 dX11_police_6 ?_
    refine fx_getR X h (k := 1) (j := 5) (r := 30) sh_1 rfl fl_RX11_292 dX11_police_9 ?_
    refine lv_iconst (v := 0) hx hb dX11_police_12 (by decide) ?_
    refine fx_putI X h (k := 30) (j := 13) sh_30 rfl fl_RX11_373 dX11_police_13 (fun H locs h => ?_)
    obtain ⟨M10, eM10⟩ : ∃ z : Mm, z = m_up M 30 13 (0 : Int32) := ⟨_, rfl⟩
    have hT := hT M10 eM10
    rw [← eM10] at h
    refine lv_iconst (v := 0) hx hb dX11_police_16 (by decide) ?_
    exact fx_iret X hr hk h hT dX11_police_17
/-! MockParcels.every(I)I -/
theorem dX11_every_0 : decode cX11_every 0 = .ok (.iload_n 1, 1) := by decide +kernel
theorem dX11_every_1 : decode cX11_every 1 = .ok (.iconst (-1), 1) := by decide +kernel
theorem dX11_every_2 : decode cX11_every 2 = .ok (.sipush 9999, 3) := by decide +kernel
theorem dX11_every_5 : decode cX11_every 5 = .ok (.invokestatic 88, 3) := by decide +kernel
theorem dX11_every_8 : decode cX11_every 8 = .ok (.ifCond .ne 5, 3) := by decide +kernel
theorem dX11_every_11 : decode cX11_every 11 = .ok (.iconst (-1), 1) := by decide +kernel
theorem dX11_every_12 : decode cX11_every 12 = .ok (.ireturn, 1) := by decide +kernel
theorem dX11_every_13 : decode cX11_every 13 = .ok (.aload_n 0, 1) := by decide +kernel
theorem dX11_every_14 : decode cX11_every 14 = .ok (.getfield 67, 3) := by decide +kernel
theorem dX11_every_17 : decode cX11_every 17 = .ok (.aload_n 0, 1) := by decide +kernel
theorem dX11_every_18 : decode cX11_every 18 = .ok (.getfield 12, 3) := by decide +kernel
theorem dX11_every_21 : decode cX11_every 21 = .ok (.getfield 292, 3) := by decide +kernel
theorem dX11_every_24 : decode cX11_every 24 = .ok (.invokevirtual 379, 3) := by decide +kernel
theorem dX11_every_27 : decode cX11_every 27 = .ok (.istore_n 2, 1) := by decide +kernel
theorem dX11_every_28 : decode cX11_every 28 = .ok (.iload_n 1, 1) := by decide +kernel
theorem dX11_every_29 : decode cX11_every 29 = .ok (.iconst (-1), 1) := by decide +kernel
theorem dX11_every_30 : decode cX11_every 30 = .ok (.if_icmp .ne 5, 3) := by decide +kernel
theorem dX11_every_33 : decode cX11_every 33 = .ok (.iload_n 2, 1) := by decide +kernel
theorem dX11_every_34 : decode cX11_every 34 = .ok (.ireturn, 1) := by decide +kernel
theorem dX11_every_35 : decode cX11_every 35 = .ok (.iload_n 2, 1) := by decide +kernel
theorem dX11_every_36 : decode cX11_every 36 = .ok (.ifCond .gt 5, 3) := by decide +kernel
theorem dX11_every_39 : decode cX11_every 39 = .ok (.iconst (-1), 1) := by decide +kernel
theorem dX11_every_40 : decode cX11_every 40 = .ok (.ireturn, 1) := by decide +kernel
theorem dX11_every_41 : decode cX11_every 41 = .ok (.iload_n 1, 1) := by decide +kernel
theorem dX11_every_42 : decode cX11_every 42 = .ok (.iconst 1, 1) := by decide +kernel
theorem dX11_every_43 : decode cX11_every 43 = .ok (.iadd, 1) := by decide +kernel
theorem dX11_every_44 : decode cX11_every 44 = .ok (.aload_n 0, 1) := by decide +kernel
theorem dX11_every_45 : decode cX11_every 45 = .ok (.getfield 12, 3) := by decide +kernel
theorem dX11_every_48 : decode cX11_every 48 = .ok (.getfield 292, 3) := by decide +kernel
theorem dX11_every_51 : decode cX11_every 51 = .ok (.getfield 376, 3) := by decide +kernel
theorem dX11_every_54 : decode cX11_every 54 = .ok (.iconst 0, 1) := by decide +kernel
theorem dX11_every_55 : decode cX11_every 55 = .ok (.iaload, 1) := by decide +kernel
theorem dX11_every_56 : decode cX11_every 56 = .ok (.iload_n 1, 1) := by decide +kernel
theorem dX11_every_57 : decode cX11_every 57 = .ok (.isub, 1) := by decide +kernel
theorem dX11_every_58 : decode cX11_every 58 = .ok (.iconst 1, 1) := by decide +kernel
theorem dX11_every_59 : decode cX11_every 59 = .ok (.isub, 1) := by decide +kernel
theorem dX11_every_60 : decode cX11_every 60 = .ok (.iload_n 2, 1) := by decide +kernel
theorem dX11_every_61 : decode cX11_every 61 = .ok (.invokestatic 382, 3) := by decide +kernel
theorem dX11_every_64 : decode cX11_every 64 = .ok (.iadd, 1) := by decide +kernel
theorem dX11_every_65 : decode cX11_every 65 = .ok (.ireturn, 1) := by decide +kernel
def T_X11_every (x1 : Int32) (M : Mm) (K : Int32 → Mm → Prop) : Prop := (T_X11_isWithin x1 (-1 : Int32) (9999 : Int32) M (fun r3 M2 => ((r3 = 0 → (K (-1 : Int32) M2)) ∧ (¬ r3 = 0 → (T_X8_raidsApart 30 M2 (fun r7 M6 => ((x1 = (-1 : Int32) → (K r7 M6)) ∧ (¬ x1 = (-1 : Int32) → ((0 < r7 → (T_J9_floorMod_7cf53 (((M6 39 0) - x1) - (1 : Int32)) r7 M6 (fun r12 M11 => (K ((x1 + (1 : Int32)) + r12) M11)))) ∧ (¬ 0 < r7 → (K (-1 : Int32) M6)))))))))))
set_option maxHeartbeats 4000000 in
set_option maxRecDepth 100000 in
theorem c_X11_every (l : Launch) (G : fx_G) {x1 : Int32} {M : Mm} {K : Int32 → Mm → Prop} (hT : T_X11_every x1 M K) : Met l yX11_every (fx_ws yX11_every cX11_every 3 (some .int)) (fx_rm (2)) (va_Pc [.ref (G.2.2.2 + 0), .int x1] (fx_P G SH M)) (va_Qi K (fx_R G SH) (fx_A G)) 0 0 (fx_A G) := by
  refine fx_met (own := RX11) (by decide +kernel) rfl (Nat.le_of_ble_eq_true rfl) (fun p e s m below meth c X hr hk h ls hl => ?_)
  obtain ⟨⟨hx, hb, hml, hown, hts⟩, hK, hQ⟩ := id X
  have hl : lv_has ls 3 [(0, .ref (G.2.2.2 + 0)), (1, .int x1)] := hl
  unfold T_X11_every at hT
  refine lv_iload_n hx hb dX11_every_0 rfl (lv_at hl 1 rfl) ?_
  refine lv_iconst (v := -1) hx hb dX11_every_1 (by decide) ?_
  refine lv_sipush (v := 9999) hx hb dX11_every_2 (by decide) ?_
  refine fx_si X h ym_X11_isWithin yt_X11_isWithin (fx_s3 (List.mem_of_getElem? (i := 64) rfl) rfl) (c_X11_isWithin l G hT) (As := [.int x1, .int (-1 : Int32), .int (9999 : Int32)]) (rest := []) rfl rfl ⟨Nat.le_of_ble_eq_true rfl, Nat.le_of_ble_eq_true rfl⟩ ⟨Nat.le_refl _, Nat.le_refl _⟩ hl.1 (Nat.le_of_ble_eq_true rfl) dX11_every_5 (fun r3 M2 H locs hT h => ?_)
  refine lv_if_ne (tgt := 13) hx hb dX11_every_8 (by decide) (fun hc4 => ?_) (fun hc4 => ?_)
  · have hT := hT.2 hc4
    refine lv_aload_n hx hb dX11_every_13 rfl (lv_at hl 0 rfl) ?_
    refine fx_getR X h (k := 0) (j := 8) (r := 151) sh_0 rfl fl_RX11_67 dX11_every_14 ?_
    refine lv_aload_n hx hb dX11_every_17 rfl (lv_at hl 0 rfl) ?_
    refine fx_getR X h (k := 0) (j := 0) (r := 1) sh_0 rfl fl_RX11_12 dX11_every_18 ?_
    refine fx_getR X h (k := 1) (j := 5) (r := 30) sh_1 rfl fl_RX11_292 dX11_every_21 ?_
    refine fx_vi X h ym_X8_raidsApart yi_X8_raidsApart ys_X8_raidsApart (fx_s5 (List.mem_of_getElem? (i := 219) rfl) rfl) sh_151 rfl (c_X8_raidsApart l G (by decide) hT) (As := [.ref (G.2.2.2 + 30)]) (rest := []) rfl rfl ⟨Nat.le_of_ble_eq_true rfl, Nat.le_of_ble_eq_true rfl⟩ ⟨Nat.le_refl _, Nat.le_refl _⟩ hl.1 (Nat.le_of_ble_eq_true rfl) dX11_every_24 (fun r7 M6 H locs hT h => ?_)
    refine lv_istore_n (lv' := [(2, .int r7), (0, .ref (G.2.2.2 + 0)), (1, .int x1)]) hx hb dX11_every_27 rfl hl (by decide) rfl (fun ls hl => ?_)
    refine lv_iload_n hx hb dX11_every_28 rfl (lv_at hl 2 rfl) ?_
    refine lv_iconst (v := -1) hx hb dX11_every_29 (by decide) ?_
    refine lv_icmp_ne (tgt := 35) hx hb dX11_every_30 (by decide) (fun hc8 => ?_) (fun hc8 => ?_)
    · have hT := hT.2 hc8
      refine lv_iload_n hx hb dX11_every_35 rfl (lv_at hl 0 rfl) ?_
      refine lv_if_gt (tgt := 41) hx hb dX11_every_36 (by decide) (fun hc9 => ?_) (fun hc9 => ?_)
      · have hT := hT.1 hc9
        refine lv_iload_n hx hb dX11_every_41 rfl (lv_at hl 2 rfl) ?_
        refine lv_iconst (v := 1) hx hb dX11_every_42 (by decide) ?_
        refine lv_iadd hx hb dX11_every_43 ?_
        refine lv_aload_n hx hb dX11_every_44 rfl (lv_at hl 1 rfl) ?_
        refine fx_getR X h (k := 0) (j := 0) (r := 1) sh_0 rfl fl_RX11_12 dX11_every_45 ?_
        refine fx_getR X h (k := 1) (j := 5) (r := 30) sh_1 rfl fl_RX11_292 dX11_every_48 ?_
        refine fx_getR X h (k := 30) (j := 8) (r := 39) sh_30 rfl fl_RX11_376 dX11_every_51 ?_
        refine lv_iconst (v := 0) hx hb dX11_every_54 (by decide) ?_
        refine fx_iald X h (k := 39) sh_39 (by unfold vp_in; decide) dX11_every_55 ?_
        rw [show ((0 : Int32)).toNatClampNeg = 0 by decide]
        refine lv_iload_n hx hb dX11_every_56 rfl (lv_at hl 2 rfl) ?_
        refine lv_isub hx hb dX11_every_57 ?_
        refine lv_iconst (v := 1) hx hb dX11_every_58 (by decide) ?_
        refine lv_isub hx hb dX11_every_59 ?_
        refine lv_iload_n hx hb dX11_every_60 rfl (lv_at hl 0 rfl) ?_
        refine fx_si X h ym_J9_floorMod_7cf53 yt_J9_floorMod_7cf53 (fx_s5 (List.mem_of_getElem? (i := 230) rfl) rfl) (c_J9_floorMod_7cf53 l G hT) (As := [.int (((M6 39 0) - x1) - (1 : Int32)), .int r7]) (rest := [.int (x1 + (1 : Int32))]) rfl rfl ⟨Nat.le_of_ble_eq_true rfl, Nat.le_of_ble_eq_true rfl⟩ ⟨Nat.le_refl _, Nat.le_refl _⟩ hl.1 (Nat.le_of_ble_eq_true rfl) dX11_every_61 (fun r12 M11 H locs hT h => ?_)
        refine lv_iadd hx hb dX11_every_64 ?_
        exact fx_iret X hr hk h hT dX11_every_65
      · have hT := hT.2 hc9
        refine lv_iconst (v := -1) hx hb dX11_every_39 (by decide) ?_
        exact fx_iret X hr hk h hT dX11_every_40
    · have hT := hT.1 hc8
      refine lv_iload_n hx hb dX11_every_33 rfl (lv_at hl 0 rfl) ?_
      exact fx_iret X hr hk h hT dX11_every_34
  · have hT := hT.1 hc4
    refine lv_iconst (v := -1) hx hb dX11_every_11 (by decide) ?_
    exact fx_iret X hr hk h hT dX11_every_12
/-! MockParcels.shill(III)I -/
theorem dX11_shill_0 : decode cX11_shill 0 = .ok (.iload_n 1, 1) := by decide +kernel
theorem dX11_shill_1 : decode cX11_shill 1 = .ok (.iconst 0, 1) := by decide +kernel
theorem dX11_shill_2 : decode cX11_shill 2 = .ok (.sipush 1000, 3) := by decide +kernel
theorem dX11_shill_5 : decode cX11_shill 5 = .ok (.invokestatic 88, 3) := by decide +kernel
theorem dX11_shill_8 : decode cX11_shill 8 = .ok (.ifCond .eq 23, 3) := by decide +kernel
theorem dX11_shill_11 : decode cX11_shill 11 = .ok (.iload_n 2, 1) := by decide +kernel
theorem dX11_shill_12 : decode cX11_shill 12 = .ok (.iconst 0, 1) := by decide +kernel
theorem dX11_shill_13 : decode cX11_shill 13 = .ok (.bipush 20, 2) := by decide +kernel
theorem dX11_shill_15 : decode cX11_shill 15 = .ok (.invokestatic 88, 3) := by decide +kernel
theorem dX11_shill_18 : decode cX11_shill 18 = .ok (.ifCond .eq 13, 3) := by decide +kernel
theorem dX11_shill_21 : decode cX11_shill 21 = .ok (.iload_n 3, 1) := by decide +kernel
theorem dX11_shill_22 : decode cX11_shill 22 = .ok (.iload_n 2, 1) := by decide +kernel
theorem dX11_shill_23 : decode cX11_shill 23 = .ok (.bipush 40, 2) := by decide +kernel
theorem dX11_shill_25 : decode cX11_shill 25 = .ok (.invokestatic 88, 3) := by decide +kernel
theorem dX11_shill_28 : decode cX11_shill 28 = .ok (.ifCond .ne 5, 3) := by decide +kernel
theorem dX11_shill_31 : decode cX11_shill 31 = .ok (.iconst (-1), 1) := by decide +kernel
theorem dX11_shill_32 : decode cX11_shill 32 = .ok (.ireturn, 1) := by decide +kernel
theorem dX11_shill_33 : decode cX11_shill 33 = .ok (.aload_n 0, 1) := by decide +kernel
theorem dX11_shill_34 : decode cX11_shill 34 = .ok (.getfield 67, 3) := by decide +kernel
theorem dX11_shill_37 : decode cX11_shill 37 = .ok (.iload_n 1, 1) := by decide +kernel
theorem dX11_shill_38 : decode cX11_shill 38 = .ok (.iload_n 2, 1) := by decide +kernel
theorem dX11_shill_39 : decode cX11_shill 39 = .ok (.iload_n 3, 1) := by decide +kernel
theorem dX11_shill_40 : decode cX11_shill 40 = .ok (.invokevirtual 387, 3) := by decide +kernel
theorem dX11_shill_43 : decode cX11_shill 43 = .ok (.ireturn, 1) := by decide +kernel
def T_X11_shill (x1 : Int32) (x2 : Int32) (x3 : Int32) (M : Mm) (K : Int32 → Mm → Prop) : Prop := (T_X11_isWithin x1 (0 : Int32) (1000 : Int32) M (fun r3 M2 => ((r3 = 0 → (K (-1 : Int32) M2)) ∧ (¬ r3 = 0 → (T_X11_isWithin x2 (0 : Int32) (20 : Int32) M2 (fun r7 M6 => ((r7 = 0 → (K (-1 : Int32) M6)) ∧ (¬ r7 = 0 → (T_X11_isWithin x3 x2 (40 : Int32) M6 (fun r11 M10 => ((r11 = 0 → (K (-1 : Int32) M10)) ∧ (¬ r11 = 0 → (T_X8_suspicion x1 x2 x3 M10 (fun r15 M14 => (K r15 M14)))))))))))))))
set_option maxHeartbeats 4000000 in
set_option maxRecDepth 100000 in
theorem c_X11_shill (l : Launch) (G : fx_G) {x1 : Int32} {x2 : Int32} {x3 : Int32} {M : Mm} {K : Int32 → Mm → Prop} (hT : T_X11_shill x1 x2 x3 M K) : Met l yX11_shill (fx_ws yX11_shill cX11_shill 4 (some .int)) (fx_rm (2)) (va_Pc [.ref (G.2.2.2 + 0), .int x1, .int x2, .int x3] (fx_P G SH M)) (va_Qi K (fx_R G SH) (fx_A G)) 0 0 (fx_A G) := by
  refine fx_met (own := RX11) (by decide +kernel) rfl (Nat.le_of_ble_eq_true rfl) (fun p e s m below meth c X hr hk h ls hl => ?_)
  obtain ⟨⟨hx, hb, hml, hown, hts⟩, hK, hQ⟩ := id X
  have hl : lv_has ls 4 [(0, .ref (G.2.2.2 + 0)), (1, .int x1), (2, .int x2), (3, .int x3)] := hl
  unfold T_X11_shill at hT
  refine lv_iload_n hx hb dX11_shill_0 rfl (lv_at hl 1 rfl) ?_
  refine lv_iconst (v := 0) hx hb dX11_shill_1 (by decide) ?_
  refine lv_sipush (v := 1000) hx hb dX11_shill_2 (by decide) ?_
  refine fx_si X h ym_X11_isWithin yt_X11_isWithin (fx_s3 (List.mem_of_getElem? (i := 64) rfl) rfl) (c_X11_isWithin l G hT) (As := [.int x1, .int (0 : Int32), .int (1000 : Int32)]) (rest := []) rfl rfl ⟨Nat.le_of_ble_eq_true rfl, Nat.le_of_ble_eq_true rfl⟩ ⟨Nat.le_refl _, Nat.le_refl _⟩ hl.1 (Nat.le_of_ble_eq_true rfl) dX11_shill_5 (fun r3 M2 H locs hT h => ?_)
  refine lv_if_eq (tgt := 31) hx hb dX11_shill_8 (by decide) (fun hc4 => ?_) (fun hc4 => ?_)
  · have hT := hT.1 hc4
    refine lv_iconst (v := -1) hx hb dX11_shill_31 (by decide) ?_
    exact fx_iret X hr hk h hT dX11_shill_32
  · have hT := hT.2 hc4
    refine lv_iload_n hx hb dX11_shill_11 rfl (lv_at hl 2 rfl) ?_
    refine lv_iconst (v := 0) hx hb dX11_shill_12 (by decide) ?_
    refine lv_bipush (v := 20) hx hb dX11_shill_13 (by decide) ?_
    refine fx_si X h ym_X11_isWithin yt_X11_isWithin (fx_s3 (List.mem_of_getElem? (i := 64) rfl) rfl) (c_X11_isWithin l G hT) (As := [.int x2, .int (0 : Int32), .int (20 : Int32)]) (rest := []) rfl rfl ⟨Nat.le_of_ble_eq_true rfl, Nat.le_of_ble_eq_true rfl⟩ ⟨Nat.le_refl _, Nat.le_refl _⟩ hl.1 (Nat.le_of_ble_eq_true rfl) dX11_shill_15 (fun r7 M6 H locs hT h => ?_)
    refine lv_if_eq (tgt := 31) hx hb dX11_shill_18 (by decide) (fun hc8 => ?_) (fun hc8 => ?_)
    · have hT := hT.1 hc8
      refine lv_iconst (v := -1) hx hb dX11_shill_31 (by decide) ?_
      exact fx_iret X hr hk h hT dX11_shill_32
    · have hT := hT.2 hc8
      refine lv_iload_n hx hb dX11_shill_21 rfl (lv_at hl 3 rfl) ?_
      refine lv_iload_n hx hb dX11_shill_22 rfl (lv_at hl 2 rfl) ?_
      refine lv_bipush (v := 40) hx hb dX11_shill_23 (by decide) ?_
      refine fx_si X h ym_X11_isWithin yt_X11_isWithin (fx_s3 (List.mem_of_getElem? (i := 64) rfl) rfl) (c_X11_isWithin l G hT) (As := [.int x3, .int x2, .int (40 : Int32)]) (rest := []) rfl rfl ⟨Nat.le_of_ble_eq_true rfl, Nat.le_of_ble_eq_true rfl⟩ ⟨Nat.le_refl _, Nat.le_refl _⟩ hl.1 (Nat.le_of_ble_eq_true rfl) dX11_shill_25 (fun r11 M10 H locs hT h => ?_)
      refine lv_if_ne (tgt := 33) hx hb dX11_shill_28 (by decide) (fun hc12 => ?_) (fun hc12 => ?_)
      · have hT := hT.2 hc12
        refine lv_aload_n hx hb dX11_shill_33 rfl (lv_at hl 0 rfl) ?_
        refine fx_getR X h (k := 0) (j := 8) (r := 151) sh_0 rfl fl_RX11_67 dX11_shill_34 ?_
        refine lv_iload_n hx hb dX11_shill_37 rfl (lv_at hl 1 rfl) ?_
        refine lv_iload_n hx hb dX11_shill_38 rfl (lv_at hl 2 rfl) ?_
        refine lv_iload_n hx hb dX11_shill_39 rfl (lv_at hl 3 rfl) ?_
        refine fx_vi X h ym_X8_suspicion yi_X8_suspicion ys_X8_suspicion (fx_s5 (List.mem_of_getElem? (i := 237) rfl) rfl) sh_151 rfl (c_X8_suspicion l G hT) (As := [.int x1, .int x2, .int x3]) (rest := []) rfl rfl ⟨Nat.le_of_ble_eq_true rfl, Nat.le_of_ble_eq_true rfl⟩ ⟨Nat.le_refl _, Nat.le_refl _⟩ hl.1 (Nat.le_of_ble_eq_true rfl) dX11_shill_40 (fun r15 M14 H locs hT h => ?_)
        exact fx_iret X hr hk h hT dX11_shill_43
      · have hT := hT.1 hc12
        refine lv_iconst (v := -1) hx hb dX11_shill_31 (by decide) ?_
        exact fx_iret X hr hk h hT dX11_shill_32
/-! MockParcels.halves(I)I -/
theorem dX11_halves_0 : decode cX11_halves 0 = .ok (.iload_n 1, 1) := by decide +kernel
theorem dX11_halves_1 : decode cX11_halves 1 = .ok (.iconst 0, 1) := by decide +kernel
theorem dX11_halves_2 : decode cX11_halves 2 = .ok (.iconst 1, 1) := by decide +kernel
theorem dX11_halves_3 : decode cX11_halves 3 = .ok (.invokestatic 88, 3) := by decide +kernel
theorem dX11_halves_6 : decode cX11_halves 6 = .ok (.ifCond .eq 17, 3) := by decide +kernel
theorem dX11_halves_9 : decode cX11_halves 9 = .ok (.aload_n 0, 1) := by decide +kernel
theorem dX11_halves_10 : decode cX11_halves 10 = .ok (.getfield 12, 3) := by decide +kernel
theorem dX11_halves_13 : decode cX11_halves 13 = .ok (.getfield 92, 3) := by decide +kernel
theorem dX11_halves_16 : decode cX11_halves 16 = .ok (.getfield 105, 3) := by decide +kernel
theorem dX11_halves_19 : decode cX11_halves 19 = .ok (.iconst 2, 1) := by decide +kernel
theorem dX11_halves_20 : decode cX11_halves 20 = .ok (.if_icmp .ge 5, 3) := by decide +kernel
theorem dX11_halves_23 : decode cX11_halves 23 = .ok (.iconst (-1), 1) := by decide +kernel
theorem dX11_halves_24 : decode cX11_halves 24 = .ok (.ireturn, 1) := by decide +kernel
theorem dX11_halves_25 : decode cX11_halves 25 = .ok (.aload_n 0, 1) := by decide +kernel
theorem dX11_halves_26 : decode cX11_halves 26 = .ok (.getfield 67, 3) := by decide +kernel
theorem dX11_halves_29 : decode cX11_halves 29 = .ok (.aload_n 0, 1) := by decide +kernel
theorem dX11_halves_30 : decode cX11_halves 30 = .ok (.getfield 12, 3) := by decide +kernel
theorem dX11_halves_33 : decode cX11_halves 33 = .ok (.getfield 35, 3) := by decide +kernel
theorem dX11_halves_36 : decode cX11_halves 36 = .ok (.getfield 108, 3) := by decide +kernel
theorem dX11_halves_39 : decode cX11_halves 39 = .ok (.aload_n 0, 1) := by decide +kernel
theorem dX11_halves_40 : decode cX11_halves 40 = .ok (.getfield 12, 3) := by decide +kernel
theorem dX11_halves_43 : decode cX11_halves 43 = .ok (.getfield 92, 3) := by decide +kernel
theorem dX11_halves_46 : decode cX11_halves 46 = .ok (.getfield 105, 3) := by decide +kernel
theorem dX11_halves_49 : decode cX11_halves 49 = .ok (.invokevirtual 390, 3) := by decide +kernel
theorem dX11_halves_52 : decode cX11_halves 52 = .ok (.istore_n 2, 1) := by decide +kernel
theorem dX11_halves_53 : decode cX11_halves 53 = .ok (.iload_n 1, 1) := by decide +kernel
theorem dX11_halves_54 : decode cX11_halves 54 = .ok (.iconst 1, 1) := by decide +kernel
theorem dX11_halves_55 : decode cX11_halves 55 = .ok (.if_icmp .ne 7, 3) := by decide +kernel
theorem dX11_halves_58 : decode cX11_halves 58 = .ok (.iload_n 2, 1) := by decide +kernel
theorem dX11_halves_59 : decode cX11_halves 59 = .ok (.goto 31, 3) := by decide +kernel
theorem dX11_halves_62 : decode cX11_halves 62 = .ok (.aload_n 0, 1) := by decide +kernel
theorem dX11_halves_63 : decode cX11_halves 63 = .ok (.getfield 67, 3) := by decide +kernel
theorem dX11_halves_66 : decode cX11_halves 66 = .ok (.aload_n 0, 1) := by decide +kernel
theorem dX11_halves_67 : decode cX11_halves 67 = .ok (.getfield 12, 3) := by decide +kernel
theorem dX11_halves_70 : decode cX11_halves 70 = .ok (.getfield 35, 3) := by decide +kernel
theorem dX11_halves_73 : decode cX11_halves 73 = .ok (.getfield 108, 3) := by decide +kernel
theorem dX11_halves_76 : decode cX11_halves 76 = .ok (.aload_n 0, 1) := by decide +kernel
theorem dX11_halves_77 : decode cX11_halves 77 = .ok (.getfield 12, 3) := by decide +kernel
theorem dX11_halves_80 : decode cX11_halves 80 = .ok (.getfield 92, 3) := by decide +kernel
theorem dX11_halves_83 : decode cX11_halves 83 = .ok (.getfield 105, 3) := by decide +kernel
theorem dX11_halves_86 : decode cX11_halves 86 = .ok (.iload_n 2, 1) := by decide +kernel
theorem dX11_halves_87 : decode cX11_halves 87 = .ok (.invokevirtual 394, 3) := by decide +kernel
theorem dX11_halves_90 : decode cX11_halves 90 = .ok (.ireturn, 1) := by decide +kernel
def T_X11_halves (x1 : Int32) (M : Mm) (K : Int32 → Mm → Prop) : Prop := (T_X11_isWithin x1 (0 : Int32) (1 : Int32) M (fun r3 M2 => ((r3 = 0 → (K (-1 : Int32) M2)) ∧ (¬ r3 = 0 → (((2 : Int32) ≤ (M2 2 1) → (T_X8_nearestSide 12 (M2 2 1) M2 (fun r8 M7 => ((x1 = (1 : Int32) → (K r8 M7)) ∧ (¬ x1 = (1 : Int32) → (T_X8_gap 12 (M7 2 1) r8 M7 (fun r12 M11 => (K r12 M11)))))))) ∧ (¬ (2 : Int32) ≤ (M2 2 1) → (K (-1 : Int32) M2)))))))
set_option maxHeartbeats 4000000 in
set_option maxRecDepth 100000 in
theorem c_X11_halves (l : Launch) (G : fx_G) {x1 : Int32} {M : Mm} {K : Int32 → Mm → Prop} (hT : T_X11_halves x1 M K) : Met l yX11_halves (fx_ws yX11_halves cX11_halves 3 (some .int)) (fx_rm (3)) (va_Pc [.ref (G.2.2.2 + 0), .int x1] (fx_P G SH M)) (va_Qi K (fx_R G SH) (fx_A G)) 0 0 (fx_A G) := by
  refine fx_met (own := RX11) (by decide +kernel) rfl (Nat.le_of_ble_eq_true rfl) (fun p e s m below meth c X hr hk h ls hl => ?_)
  obtain ⟨⟨hx, hb, hml, hown, hts⟩, hK, hQ⟩ := id X
  have hl : lv_has ls 3 [(0, .ref (G.2.2.2 + 0)), (1, .int x1)] := hl
  unfold T_X11_halves at hT
  refine lv_iload_n hx hb dX11_halves_0 rfl (lv_at hl 1 rfl) ?_
  refine lv_iconst (v := 0) hx hb dX11_halves_1 (by decide) ?_
  refine lv_iconst (v := 1) hx hb dX11_halves_2 (by decide) ?_
  refine fx_si X h ym_X11_isWithin yt_X11_isWithin (fx_s3 (List.mem_of_getElem? (i := 64) rfl) rfl) (c_X11_isWithin l G hT) (As := [.int x1, .int (0 : Int32), .int (1 : Int32)]) (rest := []) rfl rfl ⟨Nat.le_of_ble_eq_true rfl, Nat.le_of_ble_eq_true rfl⟩ ⟨Nat.le_refl _, Nat.le_refl _⟩ hl.1 (Nat.le_of_ble_eq_true rfl) dX11_halves_3 (fun r3 M2 H locs hT h => ?_)
  refine lv_if_eq (tgt := 23) hx hb dX11_halves_6 (by decide) (fun hc4 => ?_) (fun hc4 => ?_)
  · have hT := hT.1 hc4
    refine lv_iconst (v := -1) hx hb dX11_halves_23 (by decide) ?_
    exact fx_iret X hr hk h hT dX11_halves_24
  · have hT := hT.2 hc4
    refine lv_aload_n hx hb dX11_halves_9 rfl (lv_at hl 0 rfl) ?_
    refine fx_getR X h (k := 0) (j := 0) (r := 1) sh_0 rfl fl_RX11_12 dX11_halves_10 ?_
    refine fx_getR X h (k := 1) (j := 0) (r := 2) sh_1 rfl fl_RX11_92 dX11_halves_13 ?_
    refine fx_getI X h (k := 2) (j := 1) sh_2 rfl fl_RX11_105 dX11_halves_16 ?_
    refine lv_iconst (v := 2) hx hb dX11_halves_19 (by decide) ?_
    refine lv_icmp_ge (tgt := 25) hx hb dX11_halves_20 (by decide) (fun hc5 => ?_) (fun hc5 => ?_)
    · have hT := hT.1 hc5
      refine lv_aload_n hx hb dX11_halves_25 rfl (lv_at hl 0 rfl) ?_
      refine fx_getR X h (k := 0) (j := 8) (r := 151) sh_0 rfl fl_RX11_67 dX11_halves_26 ?_
      refine lv_aload_n hx hb dX11_halves_29 rfl (lv_at hl 0 rfl) ?_
      refine fx_getR X h (k := 0) (j := 0) (r := 1) sh_0 rfl fl_RX11_12 dX11_halves_30 ?_
      refine fx_getR X h (k := 1) (j := 1) (r := 8) sh_1 rfl fl_RX11_35 dX11_halves_33 ?_
      refine fx_getR X h (k := 8) (j := 3) (r := 12) sh_8 rfl fl_RX11_108 dX11_halves_36 ?_
      refine lv_aload_n hx hb dX11_halves_39 rfl (lv_at hl 0 rfl) ?_
      refine fx_getR X h (k := 0) (j := 0) (r := 1) sh_0 rfl fl_RX11_12 dX11_halves_40 ?_
      refine fx_getR X h (k := 1) (j := 0) (r := 2) sh_1 rfl fl_RX11_92 dX11_halves_43 ?_
      refine fx_getI X h (k := 2) (j := 1) sh_2 rfl fl_RX11_105 dX11_halves_46 ?_
      refine fx_vi X h ym_X8_nearestSide yi_X8_nearestSide ys_X8_nearestSide (fx_s6 (List.mem_of_getElem? (i := 11) rfl) rfl) sh_151 rfl (c_X8_nearestSide l G (ln_of sh_12) hT) (As := [.ref (G.2.2.2 + 12), .int (M2 2 1)]) (rest := []) rfl rfl ⟨Nat.le_of_ble_eq_true rfl, Nat.le_of_ble_eq_true rfl⟩ ⟨Nat.le_refl _, Nat.le_refl _⟩ hl.1 (Nat.le_of_ble_eq_true rfl) dX11_halves_49 (fun r8 M7 H locs hT h => ?_)
      refine lv_istore_n (lv' := [(2, .int r8), (0, .ref (G.2.2.2 + 0)), (1, .int x1)]) hx hb dX11_halves_52 rfl hl (by decide) rfl (fun ls hl => ?_)
      refine lv_iload_n hx hb dX11_halves_53 rfl (lv_at hl 2 rfl) ?_
      refine lv_iconst (v := 1) hx hb dX11_halves_54 (by decide) ?_
      refine lv_icmp_ne (tgt := 62) hx hb dX11_halves_55 (by decide) (fun hc9 => ?_) (fun hc9 => ?_)
      · have hT := hT.2 hc9
        refine lv_aload_n hx hb dX11_halves_62 rfl (lv_at hl 1 rfl) ?_
        refine fx_getR X h (k := 0) (j := 8) (r := 151) sh_0 rfl fl_RX11_67 dX11_halves_63 ?_
        refine lv_aload_n hx hb dX11_halves_66 rfl (lv_at hl 1 rfl) ?_
        refine fx_getR X h (k := 0) (j := 0) (r := 1) sh_0 rfl fl_RX11_12 dX11_halves_67 ?_
        refine fx_getR X h (k := 1) (j := 1) (r := 8) sh_1 rfl fl_RX11_35 dX11_halves_70 ?_
        refine fx_getR X h (k := 8) (j := 3) (r := 12) sh_8 rfl fl_RX11_108 dX11_halves_73 ?_
        refine lv_aload_n hx hb dX11_halves_76 rfl (lv_at hl 1 rfl) ?_
        refine fx_getR X h (k := 0) (j := 0) (r := 1) sh_0 rfl fl_RX11_12 dX11_halves_77 ?_
        refine fx_getR X h (k := 1) (j := 0) (r := 2) sh_1 rfl fl_RX11_92 dX11_halves_80 ?_
        refine fx_getI X h (k := 2) (j := 1) sh_2 rfl fl_RX11_105 dX11_halves_83 ?_
        refine lv_iload_n hx hb dX11_halves_86 rfl (lv_at hl 0 rfl) ?_
        refine fx_vi X h ym_X8_gap yi_X8_gap ys_X8_gap (fx_s6 (List.mem_of_getElem? (i := 19) rfl) rfl) sh_151 rfl (c_X8_gap l G (ln_of sh_12) hT) (As := [.ref (G.2.2.2 + 12), .int (M7 2 1), .int r8]) (rest := []) rfl rfl ⟨Nat.le_of_ble_eq_true rfl, Nat.le_of_ble_eq_true rfl⟩ ⟨Nat.le_refl _, Nat.le_refl _⟩ hl.1 (Nat.le_of_ble_eq_true rfl) dX11_halves_87 (fun r12 M11 H locs hT h => ?_)
        exact fx_iret X hr hk h hT dX11_halves_90
      · have hT := hT.1 hc9
        refine lv_iload_n hx hb dX11_halves_58 rfl (lv_at hl 0 rfl) ?_
        refine lv_goto (tgt := 90) hx hb dX11_halves_59 (by decide) ?_
        exact fx_iret X hr hk h hT dX11_halves_90
    · have hT := hT.2 hc5
      refine lv_iconst (v := -1) hx hb dX11_halves_23 (by decide) ?_
      exact fx_iret X hr hk h hT dX11_halves_24
/-! MockParcels.game(I)I -/
theorem dX11_game_0 : decode cX11_game 0 = .ok (.iload_n 1, 1) := by decide +kernel
theorem dX11_game_1 : decode cX11_game 1 = .ok (.iconst 0, 1) := by decide +kernel
theorem dX11_game_2 : decode cX11_game 2 = .ok (.iconst 1, 1) := by decide +kernel
theorem dX11_game_3 : decode cX11_game 3 = .ok (.invokestatic 88, 3) := by decide +kernel
theorem dX11_game_6 : decode cX11_game 6 = .ok (.ifCond .ne 5, 3) := by decide +kernel
theorem dX11_game_9 : decode cX11_game 9 = .ok (.iconst (-1), 1) := by decide +kernel
theorem dX11_game_10 : decode cX11_game 10 = .ok (.ireturn, 1) := by decide +kernel
theorem dX11_game_11 : decode cX11_game 11 = .ok (.aload_n 0, 1) := by decide +kernel
theorem dX11_game_12 : decode cX11_game 12 = .ok (.getfield 67, 3) := by decide +kernel
theorem dX11_game_15 : decode cX11_game 15 = .ok (.aload_n 0, 1) := by decide +kernel
theorem dX11_game_16 : decode cX11_game 16 = .ok (.getfield 12, 3) := by decide +kernel
theorem dX11_game_19 : decode cX11_game 19 = .ok (.getfield 92, 3) := by decide +kernel
theorem dX11_game_22 : decode cX11_game 22 = .ok (.aload_n 0, 1) := by decide +kernel
theorem dX11_game_23 : decode cX11_game 23 = .ok (.getfield 12, 3) := by decide +kernel
theorem dX11_game_26 : decode cX11_game 26 = .ok (.getfield 35, 3) := by decide +kernel
theorem dX11_game_29 : decode cX11_game 29 = .ok (.invokevirtual 398, 3) := by decide +kernel
theorem dX11_game_32 : decode cX11_game 32 = .ok (.istore_n 2, 1) := by decide +kernel
theorem dX11_game_33 : decode cX11_game 33 = .ok (.iload_n 2, 1) := by decide +kernel
theorem dX11_game_34 : decode cX11_game 34 = .ok (.iconst (-1), 1) := by decide +kernel
theorem dX11_game_35 : decode cX11_game 35 = .ok (.if_icmp .eq 7, 3) := by decide +kernel
theorem dX11_game_38 : decode cX11_game 38 = .ok (.iload_n 1, 1) := by decide +kernel
theorem dX11_game_39 : decode cX11_game 39 = .ok (.ifCond .ne 5, 3) := by decide +kernel
theorem dX11_game_42 : decode cX11_game 42 = .ok (.iload_n 2, 1) := by decide +kernel
theorem dX11_game_43 : decode cX11_game 43 = .ok (.ireturn, 1) := by decide +kernel
theorem dX11_game_44 : decode cX11_game 44 = .ok (.aload_n 0, 1) := by decide +kernel
theorem dX11_game_45 : decode cX11_game 45 = .ok (.getfield 67, 3) := by decide +kernel
theorem dX11_game_48 : decode cX11_game 48 = .ok (.aload_n 0, 1) := by decide +kernel
theorem dX11_game_49 : decode cX11_game 49 = .ok (.getfield 12, 3) := by decide +kernel
theorem dX11_game_52 : decode cX11_game 52 = .ok (.getfield 92, 3) := by decide +kernel
theorem dX11_game_55 : decode cX11_game 55 = .ok (.aload_n 0, 1) := by decide +kernel
theorem dX11_game_56 : decode cX11_game 56 = .ok (.getfield 12, 3) := by decide +kernel
theorem dX11_game_59 : decode cX11_game 59 = .ok (.getfield 35, 3) := by decide +kernel
theorem dX11_game_62 : decode cX11_game 62 = .ok (.iload_n 2, 1) := by decide +kernel
theorem dX11_game_63 : decode cX11_game 63 = .ok (.invokevirtual 402, 3) := by decide +kernel
theorem dX11_game_66 : decode cX11_game 66 = .ok (.ireturn, 1) := by decide +kernel
def T_X11_game (x1 : Int32) (M : Mm) (K : Int32 → Mm → Prop) : Prop := (T_X11_isWithin x1 (0 : Int32) (1 : Int32) M (fun r3 M2 => ((r3 = 0 → (K (-1 : Int32) M2)) ∧ (¬ r3 = 0 → (T_X8_winningParcel 2 8 M2 (fun r7 M6 => ((r7 = (-1 : Int32) → (K r7 M6)) ∧ (¬ r7 = (-1 : Int32) → ((x1 = 0 → (K r7 M6)) ∧ (¬ x1 = 0 → (T_X8_winningKnots 2 8 r7 M6 (fun r12 M11 => (K r12 M11)))))))))))))
set_option maxHeartbeats 4000000 in
set_option maxRecDepth 100000 in
theorem c_X11_game (l : Launch) (G : fx_G) {x1 : Int32} {M : Mm} {K : Int32 → Mm → Prop} (hT : T_X11_game x1 M K) : Met l yX11_game (fx_ws yX11_game cX11_game 3 (some .int)) (fx_rm (4)) (va_Pc [.ref (G.2.2.2 + 0), .int x1] (fx_P G SH M)) (va_Qi K (fx_R G SH) (fx_A G)) 0 0 (fx_A G) := by
  refine fx_met (own := RX11) (by decide +kernel) rfl (Nat.le_of_ble_eq_true rfl) (fun p e s m below meth c X hr hk h ls hl => ?_)
  obtain ⟨⟨hx, hb, hml, hown, hts⟩, hK, hQ⟩ := id X
  have hl : lv_has ls 3 [(0, .ref (G.2.2.2 + 0)), (1, .int x1)] := hl
  unfold T_X11_game at hT
  refine lv_iload_n hx hb dX11_game_0 rfl (lv_at hl 1 rfl) ?_
  refine lv_iconst (v := 0) hx hb dX11_game_1 (by decide) ?_
  refine lv_iconst (v := 1) hx hb dX11_game_2 (by decide) ?_
  refine fx_si X h ym_X11_isWithin yt_X11_isWithin (fx_s3 (List.mem_of_getElem? (i := 64) rfl) rfl) (c_X11_isWithin l G hT) (As := [.int x1, .int (0 : Int32), .int (1 : Int32)]) (rest := []) rfl rfl ⟨Nat.le_of_ble_eq_true rfl, Nat.le_of_ble_eq_true rfl⟩ ⟨Nat.le_refl _, Nat.le_refl _⟩ hl.1 (Nat.le_of_ble_eq_true rfl) dX11_game_3 (fun r3 M2 H locs hT h => ?_)
  refine lv_if_ne (tgt := 11) hx hb dX11_game_6 (by decide) (fun hc4 => ?_) (fun hc4 => ?_)
  · have hT := hT.2 hc4
    refine lv_aload_n hx hb dX11_game_11 rfl (lv_at hl 0 rfl) ?_
    refine fx_getR X h (k := 0) (j := 8) (r := 151) sh_0 rfl fl_RX11_67 dX11_game_12 ?_
    refine lv_aload_n hx hb dX11_game_15 rfl (lv_at hl 0 rfl) ?_
    refine fx_getR X h (k := 0) (j := 0) (r := 1) sh_0 rfl fl_RX11_12 dX11_game_16 ?_
    refine fx_getR X h (k := 1) (j := 0) (r := 2) sh_1 rfl fl_RX11_92 dX11_game_19 ?_
    refine lv_aload_n hx hb dX11_game_22 rfl (lv_at hl 0 rfl) ?_
    refine fx_getR X h (k := 0) (j := 0) (r := 1) sh_0 rfl fl_RX11_12 dX11_game_23 ?_
    refine fx_getR X h (k := 1) (j := 1) (r := 8) sh_1 rfl fl_RX11_35 dX11_game_26 ?_
    refine fx_vi X h ym_X8_winningParcel yi_X8_winningParcel ys_X8_winningParcel (fx_s6 (List.mem_of_getElem? (i := 24) rfl) rfl) sh_151 rfl (c_X8_winningParcel l G (by decide) (by decide) hT) (As := [.ref (G.2.2.2 + 2), .ref (G.2.2.2 + 8)]) (rest := []) rfl rfl ⟨Nat.le_of_ble_eq_true rfl, Nat.le_of_ble_eq_true rfl⟩ ⟨Nat.le_refl _, Nat.le_refl _⟩ hl.1 (Nat.le_of_ble_eq_true rfl) dX11_game_29 (fun r7 M6 H locs hT h => ?_)
    refine lv_istore_n (lv' := [(2, .int r7), (0, .ref (G.2.2.2 + 0)), (1, .int x1)]) hx hb dX11_game_32 rfl hl (by decide) rfl (fun ls hl => ?_)
    refine lv_iload_n hx hb dX11_game_33 rfl (lv_at hl 0 rfl) ?_
    refine lv_iconst (v := -1) hx hb dX11_game_34 (by decide) ?_
    refine lv_icmp_eq (tgt := 42) hx hb dX11_game_35 (by decide) (fun hc8 => ?_) (fun hc8 => ?_)
    · have hT := hT.1 hc8
      refine lv_iload_n hx hb dX11_game_42 rfl (lv_at hl 0 rfl) ?_
      exact fx_iret X hr hk h hT dX11_game_43
    · have hT := hT.2 hc8
      refine lv_iload_n hx hb dX11_game_38 rfl (lv_at hl 2 rfl) ?_
      refine lv_if_ne (tgt := 44) hx hb dX11_game_39 (by decide) (fun hc9 => ?_) (fun hc9 => ?_)
      · have hT := hT.2 hc9
        refine lv_aload_n hx hb dX11_game_44 rfl (lv_at hl 1 rfl) ?_
        refine fx_getR X h (k := 0) (j := 8) (r := 151) sh_0 rfl fl_RX11_67 dX11_game_45 ?_
        refine lv_aload_n hx hb dX11_game_48 rfl (lv_at hl 1 rfl) ?_
        refine fx_getR X h (k := 0) (j := 0) (r := 1) sh_0 rfl fl_RX11_12 dX11_game_49 ?_
        refine fx_getR X h (k := 1) (j := 0) (r := 2) sh_1 rfl fl_RX11_92 dX11_game_52 ?_
        refine lv_aload_n hx hb dX11_game_55 rfl (lv_at hl 1 rfl) ?_
        refine fx_getR X h (k := 0) (j := 0) (r := 1) sh_0 rfl fl_RX11_12 dX11_game_56 ?_
        refine fx_getR X h (k := 1) (j := 1) (r := 8) sh_1 rfl fl_RX11_35 dX11_game_59 ?_
        refine lv_iload_n hx hb dX11_game_62 rfl (lv_at hl 0 rfl) ?_
        refine fx_vi X h ym_X8_winningKnots yi_X8_winningKnots ys_X8_winningKnots (fx_s6 (List.mem_of_getElem? (i := 41) rfl) rfl) sh_151 rfl (c_X8_winningKnots l G (by decide) (by decide) hT) (As := [.ref (G.2.2.2 + 2), .ref (G.2.2.2 + 8), .int r7]) (rest := []) rfl rfl ⟨Nat.le_of_ble_eq_true rfl, Nat.le_of_ble_eq_true rfl⟩ ⟨Nat.le_refl _, Nat.le_refl _⟩ hl.1 (Nat.le_of_ble_eq_true rfl) dX11_game_63 (fun r12 M11 H locs hT h => ?_)
        exact fx_iret X hr hk h hT dX11_game_66
      · have hT := hT.1 hc9
        refine lv_iload_n hx hb dX11_game_42 rfl (lv_at hl 0 rfl) ?_
        exact fx_iret X hr hk h hT dX11_game_43
  · have hT := hT.1 hc4
    refine lv_iconst (v := -1) hx hb dX11_game_9 (by decide) ?_
    exact fx_iret X hr hk h hT dX11_game_10
/-! MockParcels.undo()Z -/
theorem dX11_undo_0 : decode cX11_undo 0 = .ok (.aload_n 0, 1) := by decide +kernel
theorem dX11_undo_1 : decode cX11_undo 1 = .ok (.getfield 22, 3) := by decide +kernel
theorem dX11_undo_4 : decode cX11_undo 4 = .ok (.aload_n 0, 1) := by decide +kernel
theorem dX11_undo_5 : decode cX11_undo 5 = .ok (.getfield 12, 3) := by decide +kernel
theorem dX11_undo_8 : decode cX11_undo 8 = .ok (.getfield 35, 3) := by decide +kernel
theorem dX11_undo_11 : decode cX11_undo 11 = .ok (.invokevirtual 406, 3) := by decide +kernel
theorem dX11_undo_14 : decode cX11_undo 14 = .ok (.ireturn, 1) := by decide +kernel
def T_X11_undo (M : Mm) (K : Int32 → Mm → Prop) : Prop := (T_X4_goBack 8 M (fun r3 M2 => ((r3 = 0 ∨ r3 = 1) ∧ K r3 M2)))
set_option maxHeartbeats 4000000 in
set_option maxRecDepth 100000 in
theorem c_X11_undo (l : Launch) (G : fx_G) {M : Mm} {K : Int32 → Mm → Prop} (hT : T_X11_undo M K) : Met l yX11_undo (fx_ws yX11_undo cX11_undo 1 (some .boolean)) (fx_rm (3)) (va_Pc [.ref (G.2.2.2 + 0)] (fx_P G SH M)) (va_Qi K (fx_R G SH) (fx_A G)) 0 0 (fx_A G) := by
  refine fx_met (own := RX11) (by decide +kernel) rfl (Nat.le_of_ble_eq_true rfl) (fun p e s m below meth c X hr hk h ls hl => ?_)
  obtain ⟨⟨hx, hb, hml, hown, hts⟩, hK, hQ⟩ := id X
  have hl : lv_has ls 1 [(0, .ref (G.2.2.2 + 0))] := hl
  unfold T_X11_undo at hT
  refine lv_aload_n hx hb dX11_undo_0 rfl (lv_at hl 0 rfl) ?_
  refine fx_getR X h (k := 0) (j := 2) (r := 79) sh_0 rfl fl_RX11_22 dX11_undo_1 ?_
  refine lv_aload_n hx hb dX11_undo_4 rfl (lv_at hl 0 rfl) ?_
  refine fx_getR X h (k := 0) (j := 0) (r := 1) sh_0 rfl fl_RX11_12 dX11_undo_5 ?_
  refine fx_getR X h (k := 1) (j := 1) (r := 8) sh_1 rfl fl_RX11_35 dX11_undo_8 ?_
  refine fx_vi X h ym_X4_goBack yi_X4_goBack ys_X4_goBack (fx_s6 (List.mem_of_getElem? (i := 46) rfl) rfl) sh_79 rfl (c_X4_goBack l G (by decide) hT) (As := [.ref (G.2.2.2 + 8)]) (rest := []) rfl rfl ⟨Nat.le_of_ble_eq_true rfl, Nat.le_of_ble_eq_true rfl⟩ ⟨Nat.le_refl _, Nat.le_refl _⟩ hl.1 (Nat.le_of_ble_eq_true rfl) dX11_undo_11 (fun r3 M2 H locs hT h => ?_)
  exact fx_zret X hr hk h hT.1 hT.2 dX11_undo_14
/-! MockParcels.image(Z)Z -/
theorem dX11_image_0 : decode cX11_image 0 = .ok (.iload_n 1, 1) := by decide +kernel
theorem dX11_image_1 : decode cX11_image 1 = .ok (.ifCond .eq 21, 3) := by decide +kernel
theorem dX11_image_4 : decode cX11_image 4 = .ok (.aload_n 0, 1) := by decide +kernel
theorem dX11_image_5 : decode cX11_image 5 = .ok (.getfield 16, 3) := by decide +kernel
theorem dX11_image_8 : decode cX11_image 8 = .ok (.aload_n 0, 1) := by decide +kernel
theorem dX11_image_9 : decode cX11_image 9 = .ok (.getfield 12, 3) := by decide +kernel
theorem dX11_image_12 : decode cX11_image 12 = .ok (.invokevirtual 410, 3) := by decide +kernel
theorem dX11_image_15 : decode cX11_image 15 = .ok (.aload_n 0, 1) := by decide +kernel
theorem dX11_image_16 : decode cX11_image 16 = .ok (.iconst 1, 1) := by decide +kernel
theorem dX11_image_17 : decode cX11_image 17 = .ok (.putfield 71, 3) := by decide +kernel
theorem dX11_image_20 : decode cX11_image 20 = .ok (.iconst 1, 1) := by decide +kernel
theorem dX11_image_21 : decode cX11_image 21 = .ok (.ireturn, 1) := by decide +kernel
theorem dX11_image_22 : decode cX11_image 22 = .ok (.aload_n 0, 1) := by decide +kernel
theorem dX11_image_23 : decode cX11_image 23 = .ok (.getfield 71, 3) := by decide +kernel
theorem dX11_image_26 : decode cX11_image 26 = .ok (.ifCond .ne 5, 3) := by decide +kernel
theorem dX11_image_29 : decode cX11_image 29 = .ok (.iconst 0, 1) := by decide +kernel
theorem dX11_image_30 : decode cX11_image 30 = .ok (.ireturn, 1) := by decide +kernel
theorem dX11_image_31 : decode cX11_image 31 = .ok (.aload_n 0, 1) := by decide +kernel
theorem dX11_image_32 : decode cX11_image 32 = .ok (.getfield 12, 3) := by decide +kernel
theorem dX11_image_35 : decode cX11_image 35 = .ok (.aload_n 0, 1) := by decide +kernel
theorem dX11_image_36 : decode cX11_image 36 = .ok (.getfield 16, 3) := by decide +kernel
theorem dX11_image_39 : decode cX11_image 39 = .ok (.invokevirtual 410, 3) := by decide +kernel
theorem dX11_image_42 : decode cX11_image 42 = .ok (.aload_n 0, 1) := by decide +kernel
theorem dX11_image_43 : decode cX11_image 43 = .ok (.getfield 22, 3) := by decide +kernel
theorem dX11_image_46 : decode cX11_image 46 = .ok (.invokevirtual 85, 3) := by decide +kernel
theorem dX11_image_49 : decode cX11_image 49 = .ok (.iconst 1, 1) := by decide +kernel
theorem dX11_image_50 : decode cX11_image 50 = .ok (.ireturn, 1) := by decide +kernel
def T_X11_image (x1 : Int32) (M : Mm) (K : Int32 → Mm → Prop) : Prop := ((x1 = 0 → (((M 0 9) = 0 → (K (0 : Int32) M)) ∧ (¬ (M 0 9) = 0 → (T_X10_copyFrom 1 40 M (fun M4 => (T_X4_forget M4 (fun M6 => (K (1 : Int32) M6)))))))) ∧ (¬ x1 = 0 → (T_X10_copyFrom 40 1 M (fun M8 => (∀ M9 : Mm, M9 = m_up M8 0 9 (1 : Int32) → (K (1 : Int32) M9))))))
set_option maxHeartbeats 4000000 in
set_option maxRecDepth 100000 in
theorem c_X11_image (l : Launch) (G : fx_G) {x1 : Int32} {M : Mm} {K : Int32 → Mm → Prop} (hT : T_X11_image x1 M K) : Met l yX11_image (fx_ws yX11_image cX11_image 2 (some .boolean)) (fx_rm (3)) (va_Pc [.ref (G.2.2.2 + 0), .int x1] (fx_P G SH M)) (va_Qi K (fx_R G SH) (fx_A G)) 0 0 (fx_A G) := by
  refine fx_met (own := RX11) (by decide +kernel) rfl (Nat.le_of_ble_eq_true rfl) (fun p e s m below meth c X hr hk h ls hl => ?_)
  obtain ⟨⟨hx, hb, hml, hown, hts⟩, hK, hQ⟩ := id X
  have hl : lv_has ls 2 [(0, .ref (G.2.2.2 + 0)), (1, .int x1)] := hl
  unfold T_X11_image at hT
  refine lv_iload_n hx hb dX11_image_0 rfl (lv_at hl 1 rfl) ?_
  refine lv_if_eq (tgt := 22) hx hb dX11_image_1 (by decide) (fun hc1 => ?_) (fun hc1 => ?_)
  · have hT := hT.1 hc1
    refine lv_aload_n hx hb dX11_image_22 rfl (lv_at hl 0 rfl) ?_
    refine fx_getI X h (k := 0) (j := 9) sh_0 rfl fl_RX11_71 dX11_image_23 ?_
    refine lv_if_ne (tgt := 31) hx hb dX11_image_26 (by decide) (fun hc2 => ?_) (fun hc2 => ?_)
    · have hT := hT.2 hc2
      refine lv_aload_n hx hb dX11_image_31 rfl (lv_at hl 0 rfl) ?_
      refine fx_getR X h (k := 0) (j := 0) (r := 1) sh_0 rfl fl_RX11_12 dX11_image_32 ?_
      refine lv_aload_n hx hb dX11_image_35 rfl (lv_at hl 0 rfl) ?_
      refine fx_getR X h (k := 0) (j := 1) (r := 40) sh_0 rfl fl_RX11_16 dX11_image_36 ?_
      refine fx_vv X h ym_X10_copyFrom yi_X10_copyFrom ys_X10_copyFrom (fx_s6 (List.mem_of_getElem? (i := 54) rfl) rfl) sh_1 rfl (c_X10_copyFrom l G (by decide) (by decide) hT) (As := [.ref (G.2.2.2 + 40)]) (rest := []) rfl rfl ⟨Nat.le_of_ble_eq_true rfl, Nat.le_of_ble_eq_true rfl⟩ ⟨Nat.le_refl _, Nat.le_refl _⟩ hl.1 (Nat.le_of_ble_eq_true rfl) dX11_image_39 (fun M4 H locs hT h => ?_)
      refine lv_aload_n hx hb dX11_image_42 rfl (lv_at hl 0 rfl) ?_
      refine fx_getR X h (k := 0) (j := 2) (r := 79) sh_0 rfl fl_RX11_22 dX11_image_43 ?_
      refine fx_vv X h ym_X4_forget yi_X4_forget ys_X4_forget (fx_s3 (List.mem_of_getElem? (i := 56) rfl) rfl) sh_79 rfl (c_X4_forget l G hT) (As := []) (rest := []) rfl rfl ⟨Nat.le_of_ble_eq_true rfl, Nat.le_of_ble_eq_true rfl⟩ ⟨Nat.le_refl _, Nat.le_refl _⟩ hl.1 (Nat.le_of_ble_eq_true rfl) dX11_image_46 (fun M6 H locs hT h => ?_)
      refine lv_iconst (v := 1) hx hb dX11_image_49 (by decide) ?_
      exact fx_zret X hr hk h (Or.inr rfl) hT dX11_image_50
    · have hT := hT.1 hc2
      refine lv_iconst (v := 0) hx hb dX11_image_29 (by decide) ?_
      exact fx_zret X hr hk h (Or.inl rfl) hT dX11_image_30
  · have hT := hT.2 hc1
    refine lv_aload_n hx hb dX11_image_4 rfl (lv_at hl 0 rfl) ?_
    refine fx_getR X h (k := 0) (j := 1) (r := 40) sh_0 rfl fl_RX11_16 dX11_image_5 ?_
    refine lv_aload_n hx hb dX11_image_8 rfl (lv_at hl 0 rfl) ?_
    refine fx_getR X h (k := 0) (j := 0) (r := 1) sh_0 rfl fl_RX11_12 dX11_image_9 ?_
    refine fx_vv X h ym_X10_copyFrom yi_X10_copyFrom ys_X10_copyFrom (fx_s6 (List.mem_of_getElem? (i := 54) rfl) rfl) sh_40 rfl (c_X10_copyFrom l G (by decide) (by decide) hT) (As := [.ref (G.2.2.2 + 1)]) (rest := []) rfl rfl ⟨Nat.le_of_ble_eq_true rfl, Nat.le_of_ble_eq_true rfl⟩ ⟨Nat.le_refl _, Nat.le_refl _⟩ hl.1 (Nat.le_of_ble_eq_true rfl) dX11_image_12 (fun M8 H locs hT h => ?_)
    refine lv_aload_n hx hb dX11_image_15 rfl (lv_at hl 0 rfl) ?_
    refine lv_iconst (v := 1) hx hb dX11_image_16 (by decide) ?_
    refine fx_putZ X h (k := 0) (j := 9) (Or.inr rfl) sh_0 rfl fl_RX11_71 dX11_image_17 (fun H locs h => ?_)
    obtain ⟨M9, eM9⟩ : ∃ z : Mm, z = m_up M8 0 9 (1 : Int32) := ⟨_, rfl⟩
    have hT := hT M9 eM9
    rw [← eM9] at h
    refine lv_iconst (v := 1) hx hb dX11_image_20 (by decide) ?_
    exact fx_zret X hr hk h (Or.inr rfl) hT dX11_image_21
/-! MockParcels.lookAtTexts(I)I -/
theorem dX11_lookAtTexts_0 : decode cX11_lookAtTexts 0 = .ok (.iload_n 1, 1) := by decide +kernel
theorem dX11_lookAtTexts_1 : decode cX11_lookAtTexts 1 = .ok (.tableswitch 87 10 14 #[35, 46, 57, 68, 79], 35) := by decide +kernel
theorem dX11_lookAtTexts_36 : decode cX11_lookAtTexts 36 = .ok (.aload_n 0, 1) := by decide +kernel
theorem dX11_lookAtTexts_37 : decode cX11_lookAtTexts 37 = .ok (.getfield 12, 3) := by decide +kernel
theorem dX11_lookAtTexts_40 : decode cX11_lookAtTexts 40 = .ok (.getfield 202, 3) := by decide +kernel
theorem dX11_lookAtTexts_43 : decode cX11_lookAtTexts 43 = .ok (.getfield 416, 3) := by decide +kernel
theorem dX11_lookAtTexts_46 : decode cX11_lookAtTexts 46 = .ok (.ireturn, 1) := by decide +kernel
theorem dX11_lookAtTexts_47 : decode cX11_lookAtTexts 47 = .ok (.aload_n 0, 1) := by decide +kernel
theorem dX11_lookAtTexts_48 : decode cX11_lookAtTexts 48 = .ok (.getfield 12, 3) := by decide +kernel
theorem dX11_lookAtTexts_51 : decode cX11_lookAtTexts 51 = .ok (.getfield 213, 3) := by decide +kernel
theorem dX11_lookAtTexts_54 : decode cX11_lookAtTexts 54 = .ok (.getfield 417, 3) := by decide +kernel
theorem dX11_lookAtTexts_57 : decode cX11_lookAtTexts 57 = .ok (.ireturn, 1) := by decide +kernel
theorem dX11_lookAtTexts_58 : decode cX11_lookAtTexts 58 = .ok (.aload_n 0, 1) := by decide +kernel
theorem dX11_lookAtTexts_59 : decode cX11_lookAtTexts 59 = .ok (.getfield 12, 3) := by decide +kernel
theorem dX11_lookAtTexts_62 : decode cX11_lookAtTexts 62 = .ok (.getfield 213, 3) := by decide +kernel
theorem dX11_lookAtTexts_65 : decode cX11_lookAtTexts 65 = .ok (.getfield 420, 3) := by decide +kernel
theorem dX11_lookAtTexts_68 : decode cX11_lookAtTexts 68 = .ok (.ireturn, 1) := by decide +kernel
theorem dX11_lookAtTexts_69 : decode cX11_lookAtTexts 69 = .ok (.aload_n 0, 1) := by decide +kernel
theorem dX11_lookAtTexts_70 : decode cX11_lookAtTexts 70 = .ok (.getfield 12, 3) := by decide +kernel
theorem dX11_lookAtTexts_73 : decode cX11_lookAtTexts 73 = .ok (.getfield 213, 3) := by decide +kernel
theorem dX11_lookAtTexts_76 : decode cX11_lookAtTexts 76 = .ok (.getfield 423, 3) := by decide +kernel
theorem dX11_lookAtTexts_79 : decode cX11_lookAtTexts 79 = .ok (.ireturn, 1) := by decide +kernel
theorem dX11_lookAtTexts_80 : decode cX11_lookAtTexts 80 = .ok (.aload_n 0, 1) := by decide +kernel
theorem dX11_lookAtTexts_81 : decode cX11_lookAtTexts 81 = .ok (.getfield 22, 3) := by decide +kernel
theorem dX11_lookAtTexts_84 : decode cX11_lookAtTexts 84 = .ok (.getfield 426, 3) := by decide +kernel
theorem dX11_lookAtTexts_87 : decode cX11_lookAtTexts 87 = .ok (.ireturn, 1) := by decide +kernel
theorem dX11_lookAtTexts_88 : decode cX11_lookAtTexts 88 = .ok (.iconst (-1), 1) := by decide +kernel
theorem dX11_lookAtTexts_89 : decode cX11_lookAtTexts 89 = .ok (.ireturn, 1) := by decide +kernel
def T_X11_lookAtTexts (x1 : Int32) (M : Mm) (K : Int32 → Mm → Prop) : Prop := ((x1 = (10 : Int32) → (K (M 16 7) M)) ∧ (¬ x1 = (10 : Int32) → ((x1 = (11 : Int32) → (K (M 23 6) M)) ∧ (¬ x1 = (11 : Int32) → ((x1 = (12 : Int32) → (K (M 23 8) M)) ∧ (¬ x1 = (12 : Int32) → ((x1 = (13 : Int32) → (K (M 23 7) M)) ∧ (¬ x1 = (13 : Int32) → ((x1 = (14 : Int32) → (K (M 79 2) M)) ∧ (¬ x1 = (14 : Int32) → (K (-1 : Int32) M)))))))))))
set_option maxHeartbeats 4000000 in
set_option maxRecDepth 100000 in
theorem c_X11_lookAtTexts (l : Launch) (G : fx_G) {x1 : Int32} {M : Mm} {K : Int32 → Mm → Prop} (hT : T_X11_lookAtTexts x1 M K) : Met l yX11_lookAtTexts (fx_ws yX11_lookAtTexts cX11_lookAtTexts 2 (some .int)) (fx_rm (0)) (va_Pc [.ref (G.2.2.2 + 0), .int x1] (fx_P G SH M)) (va_Qi K (fx_R G SH) (fx_A G)) 0 0 (fx_A G) := by
  refine fx_met (own := RX11) (by decide +kernel) rfl (Nat.le_of_ble_eq_true rfl) (fun p e s m below meth c X hr hk h ls hl => ?_)
  obtain ⟨⟨hx, hb, hml, hown, hts⟩, hK, hQ⟩ := id X
  have hl : lv_has ls 2 [(0, .ref (G.2.2.2 + 0)), (1, .int x1)] := hl
  unfold T_X11_lookAtTexts at hT
  refine lv_iload_n hx hb dX11_lookAtTexts_0 rfl (lv_at hl 1 rfl) ?_
  by_cases hc1 : x1 = (10 : Int32)
  · have hT := hT.1 hc1
    refine lv_tableIn (off := 35) (tgt := 36) hx hb dX11_lookAtTexts_1 (by rw [hc1]; decide) (by rw [hc1]; decide) (by rw [hc1]; rfl) (by decide) ?_
    refine lv_aload_n hx hb dX11_lookAtTexts_36 rfl (lv_at hl 0 rfl) ?_
    refine fx_getR X h (k := 0) (j := 0) (r := 1) sh_0 rfl fl_RX11_12 dX11_lookAtTexts_37 ?_
    refine fx_getR X h (k := 1) (j := 3) (r := 16) sh_1 rfl fl_RX11_202 dX11_lookAtTexts_40 ?_
    refine fx_getI X h (k := 16) (j := 7) sh_16 rfl fl_RX11_416 dX11_lookAtTexts_43 ?_
    exact fx_iret X hr hk h hT dX11_lookAtTexts_46
  have hT := hT.2 hc1
  by_cases hc2 : x1 = (11 : Int32)
  · have hT := hT.1 hc2
    refine lv_tableIn (off := 46) (tgt := 47) hx hb dX11_lookAtTexts_1 (by rw [hc2]; decide) (by rw [hc2]; decide) (by rw [hc2]; rfl) (by decide) ?_
    refine lv_aload_n hx hb dX11_lookAtTexts_47 rfl (lv_at hl 0 rfl) ?_
    refine fx_getR X h (k := 0) (j := 0) (r := 1) sh_0 rfl fl_RX11_12 dX11_lookAtTexts_48 ?_
    refine fx_getR X h (k := 1) (j := 4) (r := 23) sh_1 rfl fl_RX11_213 dX11_lookAtTexts_51 ?_
    refine fx_getI X h (k := 23) (j := 6) sh_23 rfl fl_RX11_417 dX11_lookAtTexts_54 ?_
    exact fx_iret X hr hk h hT dX11_lookAtTexts_57
  have hT := hT.2 hc2
  by_cases hc3 : x1 = (12 : Int32)
  · have hT := hT.1 hc3
    refine lv_tableIn (off := 57) (tgt := 58) hx hb dX11_lookAtTexts_1 (by rw [hc3]; decide) (by rw [hc3]; decide) (by rw [hc3]; rfl) (by decide) ?_
    refine lv_aload_n hx hb dX11_lookAtTexts_58 rfl (lv_at hl 0 rfl) ?_
    refine fx_getR X h (k := 0) (j := 0) (r := 1) sh_0 rfl fl_RX11_12 dX11_lookAtTexts_59 ?_
    refine fx_getR X h (k := 1) (j := 4) (r := 23) sh_1 rfl fl_RX11_213 dX11_lookAtTexts_62 ?_
    refine fx_getI X h (k := 23) (j := 8) sh_23 rfl fl_RX11_420 dX11_lookAtTexts_65 ?_
    exact fx_iret X hr hk h hT dX11_lookAtTexts_68
  have hT := hT.2 hc3
  by_cases hc4 : x1 = (13 : Int32)
  · have hT := hT.1 hc4
    refine lv_tableIn (off := 68) (tgt := 69) hx hb dX11_lookAtTexts_1 (by rw [hc4]; decide) (by rw [hc4]; decide) (by rw [hc4]; rfl) (by decide) ?_
    refine lv_aload_n hx hb dX11_lookAtTexts_69 rfl (lv_at hl 0 rfl) ?_
    refine fx_getR X h (k := 0) (j := 0) (r := 1) sh_0 rfl fl_RX11_12 dX11_lookAtTexts_70 ?_
    refine fx_getR X h (k := 1) (j := 4) (r := 23) sh_1 rfl fl_RX11_213 dX11_lookAtTexts_73 ?_
    refine fx_getI X h (k := 23) (j := 7) sh_23 rfl fl_RX11_423 dX11_lookAtTexts_76 ?_
    exact fx_iret X hr hk h hT dX11_lookAtTexts_79
  have hT := hT.2 hc4
  by_cases hc5 : x1 = (14 : Int32)
  · have hT := hT.1 hc5
    refine lv_tableIn (off := 79) (tgt := 80) hx hb dX11_lookAtTexts_1 (by rw [hc5]; decide) (by rw [hc5]; decide) (by rw [hc5]; rfl) (by decide) ?_
    refine lv_aload_n hx hb dX11_lookAtTexts_80 rfl (lv_at hl 0 rfl) ?_
    refine fx_getR X h (k := 0) (j := 2) (r := 79) sh_0 rfl fl_RX11_22 dX11_lookAtTexts_81 ?_
    refine fx_getI X h (k := 79) (j := 2) sh_79 rfl fl_RX11_426 dX11_lookAtTexts_84 ?_
    exact fx_iret X hr hk h hT dX11_lookAtTexts_87
  have hT := hT.2 hc5
  have khc1 : ¬ (x1).toInt = 10 := fun q => hc1 (Int32.toInt_inj.mp (q.trans (by decide)))
  have khc2 : ¬ (x1).toInt = 11 := fun q => hc2 (Int32.toInt_inj.mp (q.trans (by decide)))
  have khc3 : ¬ (x1).toInt = 12 := fun q => hc3 (Int32.toInt_inj.mp (q.trans (by decide)))
  have khc4 : ¬ (x1).toInt = 13 := fun q => hc4 (Int32.toInt_inj.mp (q.trans (by decide)))
  have khc5 : ¬ (x1).toInt = 14 := fun q => hc5 (Int32.toInt_inj.mp (q.trans (by decide)))
  refine lv_tableOut (tgt := 88) hx hb dX11_lookAtTexts_1 (by omega) (by decide) ?_
  refine lv_iconst (v := -1) hx hb dX11_lookAtTexts_88 (by decide) ?_
  exact fx_iret X hr hk h hT dX11_lookAtTexts_89
/-! MockParcels.look(I)I -/
theorem dX11_look_0 : decode cX11_look 0 = .ok (.iload_n 1, 1) := by decide +kernel
theorem dX11_look_1 : decode cX11_look 1 = .ok (.tableswitch 175 0 9 #[55, 66, 77, 88, 99, 110, 121, 132, 153, 164], 55) := by decide +kernel
theorem dX11_look_56 : decode cX11_look 56 = .ok (.aload_n 0, 1) := by decide +kernel
theorem dX11_look_57 : decode cX11_look 57 = .ok (.getfield 12, 3) := by decide +kernel
theorem dX11_look_60 : decode cX11_look 60 = .ok (.getfield 92, 3) := by decide +kernel
theorem dX11_look_63 : decode cX11_look 63 = .ok (.getfield 96, 3) := by decide +kernel
theorem dX11_look_66 : decode cX11_look 66 = .ok (.ireturn, 1) := by decide +kernel
theorem dX11_look_67 : decode cX11_look 67 = .ok (.aload_n 0, 1) := by decide +kernel
theorem dX11_look_68 : decode cX11_look 68 = .ok (.getfield 12, 3) := by decide +kernel
theorem dX11_look_71 : decode cX11_look 71 = .ok (.getfield 92, 3) := by decide +kernel
theorem dX11_look_74 : decode cX11_look 74 = .ok (.getfield 105, 3) := by decide +kernel
theorem dX11_look_77 : decode cX11_look 77 = .ok (.ireturn, 1) := by decide +kernel
theorem dX11_look_78 : decode cX11_look 78 = .ok (.aload_n 0, 1) := by decide +kernel
theorem dX11_look_79 : decode cX11_look 79 = .ok (.getfield 12, 3) := by decide +kernel
theorem dX11_look_82 : decode cX11_look 82 = .ok (.getfield 35, 3) := by decide +kernel
theorem dX11_look_85 : decode cX11_look 85 = .ok (.getfield 278, 3) := by decide +kernel
theorem dX11_look_88 : decode cX11_look 88 = .ok (.ireturn, 1) := by decide +kernel
theorem dX11_look_89 : decode cX11_look 89 = .ok (.aload_n 0, 1) := by decide +kernel
theorem dX11_look_90 : decode cX11_look 90 = .ok (.getfield 12, 3) := by decide +kernel
theorem dX11_look_93 : decode cX11_look 93 = .ok (.getfield 35, 3) := by decide +kernel
theorem dX11_look_96 : decode cX11_look 96 = .ok (.getfield 119, 3) := by decide +kernel
theorem dX11_look_99 : decode cX11_look 99 = .ok (.ireturn, 1) := by decide +kernel
theorem dX11_look_100 : decode cX11_look 100 = .ok (.aload_n 0, 1) := by decide +kernel
theorem dX11_look_101 : decode cX11_look 101 = .ok (.getfield 12, 3) := by decide +kernel
theorem dX11_look_104 : decode cX11_look 104 = .ok (.getfield 35, 3) := by decide +kernel
theorem dX11_look_107 : decode cX11_look 107 = .ok (.getfield 122, 3) := by decide +kernel
theorem dX11_look_110 : decode cX11_look 110 = .ok (.ireturn, 1) := by decide +kernel
theorem dX11_look_111 : decode cX11_look 111 = .ok (.aload_n 0, 1) := by decide +kernel
theorem dX11_look_112 : decode cX11_look 112 = .ok (.getfield 12, 3) := by decide +kernel
theorem dX11_look_115 : decode cX11_look 115 = .ok (.getfield 35, 3) := by decide +kernel
theorem dX11_look_118 : decode cX11_look 118 = .ok (.getfield 172, 3) := by decide +kernel
theorem dX11_look_121 : decode cX11_look 121 = .ok (.ireturn, 1) := by decide +kernel
theorem dX11_look_122 : decode cX11_look 122 = .ok (.aload_n 0, 1) := by decide +kernel
theorem dX11_look_123 : decode cX11_look 123 = .ok (.getfield 12, 3) := by decide +kernel
theorem dX11_look_126 : decode cX11_look 126 = .ok (.getfield 35, 3) := by decide +kernel
theorem dX11_look_129 : decode cX11_look 129 = .ok (.getfield 281, 3) := by decide +kernel
theorem dX11_look_132 : decode cX11_look 132 = .ok (.ireturn, 1) := by decide +kernel
theorem dX11_look_133 : decode cX11_look 133 = .ok (.aload_n 0, 1) := by decide +kernel
theorem dX11_look_134 : decode cX11_look 134 = .ok (.getfield 12, 3) := by decide +kernel
theorem dX11_look_137 : decode cX11_look 137 = .ok (.getfield 35, 3) := by decide +kernel
theorem dX11_look_140 : decode cX11_look 140 = .ok (.aload_n 0, 1) := by decide +kernel
theorem dX11_look_141 : decode cX11_look 141 = .ok (.getfield 12, 3) := by decide +kernel
theorem dX11_look_144 : decode cX11_look 144 = .ok (.getfield 92, 3) := by decide +kernel
theorem dX11_look_147 : decode cX11_look 147 = .ok (.getfield 96, 3) := by decide +kernel
theorem dX11_look_150 : decode cX11_look 150 = .ok (.invokevirtual 284, 3) := by decide +kernel
theorem dX11_look_153 : decode cX11_look 153 = .ok (.ireturn, 1) := by decide +kernel
theorem dX11_look_154 : decode cX11_look 154 = .ok (.aload_n 0, 1) := by decide +kernel
theorem dX11_look_155 : decode cX11_look 155 = .ok (.getfield 12, 3) := by decide +kernel
theorem dX11_look_158 : decode cX11_look 158 = .ok (.getfield 35, 3) := by decide +kernel
theorem dX11_look_161 : decode cX11_look 161 = .ok (.getfield 261, 3) := by decide +kernel
theorem dX11_look_164 : decode cX11_look 164 = .ok (.ireturn, 1) := by decide +kernel
theorem dX11_look_165 : decode cX11_look 165 = .ok (.aload_n 0, 1) := by decide +kernel
theorem dX11_look_166 : decode cX11_look 166 = .ok (.getfield 12, 3) := by decide +kernel
theorem dX11_look_169 : decode cX11_look 169 = .ok (.getfield 35, 3) := by decide +kernel
theorem dX11_look_172 : decode cX11_look 172 = .ok (.getfield 82, 3) := by decide +kernel
theorem dX11_look_175 : decode cX11_look 175 = .ok (.ireturn, 1) := by decide +kernel
theorem dX11_look_176 : decode cX11_look 176 = .ok (.aload_n 0, 1) := by decide +kernel
theorem dX11_look_177 : decode cX11_look 177 = .ok (.iload_n 1, 1) := by decide +kernel
theorem dX11_look_178 : decode cX11_look 178 = .ok (.invokevirtual 413, 3) := by decide +kernel
theorem dX11_look_181 : decode cX11_look 181 = .ok (.ireturn, 1) := by decide +kernel
def T_X11_look (x1 : Int32) (M : Mm) (K : Int32 → Mm → Prop) : Prop := ((x1 = (0 : Int32) → (K (M 2 0) M)) ∧ (¬ x1 = (0 : Int32) → ((x1 = (1 : Int32) → (K (M 2 1) M)) ∧ (¬ x1 = (1 : Int32) → ((x1 = (2 : Int32) → (K (M 8 7) M)) ∧ (¬ x1 = (2 : Int32) → ((x1 = (3 : Int32) → (K (M 8 8) M)) ∧ (¬ x1 = (3 : Int32) → ((x1 = (4 : Int32) → (K (M 8 9) M)) ∧ (¬ x1 = (4 : Int32) → ((x1 = (5 : Int32) → (K (M 8 10) M)) ∧ (¬ x1 = (5 : Int32) → ((x1 = (6 : Int32) → (K (M 8 11) M)) ∧ (¬ x1 = (6 : Int32) → ((x1 = (7 : Int32) → (T_X6_unsold 8 (M 2 0) M (fun r11 M10 => (K r11 M10)))) ∧ (¬ x1 = (7 : Int32) → ((x1 = (8 : Int32) → (K (M 8 12) M)) ∧ (¬ x1 = (8 : Int32) → ((x1 = (9 : Int32) → (K (M 8 6) M)) ∧ (¬ x1 = (9 : Int32) → (T_X11_lookAtTexts x1 M (fun r16 M15 => (K r16 M15)))))))))))))))))))))))
set_option maxHeartbeats 4000000 in
set_option maxRecDepth 100000 in
theorem c_X11_look (l : Launch) (G : fx_G) {x1 : Int32} {M : Mm} {K : Int32 → Mm → Prop} (hT : T_X11_look x1 M K) : Met l yX11_look (fx_ws yX11_look cX11_look 2 (some .int)) (fx_rm (1)) (va_Pc [.ref (G.2.2.2 + 0), .int x1] (fx_P G SH M)) (va_Qi K (fx_R G SH) (fx_A G)) 0 0 (fx_A G) := by
  refine fx_met (own := RX11) (by decide +kernel) rfl (Nat.le_of_ble_eq_true rfl) (fun p e s m below meth c X hr hk h ls hl => ?_)
  obtain ⟨⟨hx, hb, hml, hown, hts⟩, hK, hQ⟩ := id X
  have hl : lv_has ls 2 [(0, .ref (G.2.2.2 + 0)), (1, .int x1)] := hl
  unfold T_X11_look at hT
  refine lv_iload_n hx hb dX11_look_0 rfl (lv_at hl 1 rfl) ?_
  by_cases hc1 : x1 = (0 : Int32)
  · have hT := hT.1 hc1
    refine lv_tableIn (off := 55) (tgt := 56) hx hb dX11_look_1 (by rw [hc1]; decide) (by rw [hc1]; decide) (by rw [hc1]; rfl) (by decide) ?_
    refine lv_aload_n hx hb dX11_look_56 rfl (lv_at hl 0 rfl) ?_
    refine fx_getR X h (k := 0) (j := 0) (r := 1) sh_0 rfl fl_RX11_12 dX11_look_57 ?_
    refine fx_getR X h (k := 1) (j := 0) (r := 2) sh_1 rfl fl_RX11_92 dX11_look_60 ?_
    refine fx_getI X h (k := 2) (j := 0) sh_2 rfl fl_RX11_96 dX11_look_63 ?_
    exact fx_iret X hr hk h hT dX11_look_66
  have hT := hT.2 hc1
  by_cases hc2 : x1 = (1 : Int32)
  · have hT := hT.1 hc2
    refine lv_tableIn (off := 66) (tgt := 67) hx hb dX11_look_1 (by rw [hc2]; decide) (by rw [hc2]; decide) (by rw [hc2]; rfl) (by decide) ?_
    refine lv_aload_n hx hb dX11_look_67 rfl (lv_at hl 0 rfl) ?_
    refine fx_getR X h (k := 0) (j := 0) (r := 1) sh_0 rfl fl_RX11_12 dX11_look_68 ?_
    refine fx_getR X h (k := 1) (j := 0) (r := 2) sh_1 rfl fl_RX11_92 dX11_look_71 ?_
    refine fx_getI X h (k := 2) (j := 1) sh_2 rfl fl_RX11_105 dX11_look_74 ?_
    exact fx_iret X hr hk h hT dX11_look_77
  have hT := hT.2 hc2
  by_cases hc3 : x1 = (2 : Int32)
  · have hT := hT.1 hc3
    refine lv_tableIn (off := 77) (tgt := 78) hx hb dX11_look_1 (by rw [hc3]; decide) (by rw [hc3]; decide) (by rw [hc3]; rfl) (by decide) ?_
    refine lv_aload_n hx hb dX11_look_78 rfl (lv_at hl 0 rfl) ?_
    refine fx_getR X h (k := 0) (j := 0) (r := 1) sh_0 rfl fl_RX11_12 dX11_look_79 ?_
    refine fx_getR X h (k := 1) (j := 1) (r := 8) sh_1 rfl fl_RX11_35 dX11_look_82 ?_
    refine fx_getI X h (k := 8) (j := 7) sh_8 rfl fl_RX11_278 dX11_look_85 ?_
    exact fx_iret X hr hk h hT dX11_look_88
  have hT := hT.2 hc3
  by_cases hc4 : x1 = (3 : Int32)
  · have hT := hT.1 hc4
    refine lv_tableIn (off := 88) (tgt := 89) hx hb dX11_look_1 (by rw [hc4]; decide) (by rw [hc4]; decide) (by rw [hc4]; rfl) (by decide) ?_
    refine lv_aload_n hx hb dX11_look_89 rfl (lv_at hl 0 rfl) ?_
    refine fx_getR X h (k := 0) (j := 0) (r := 1) sh_0 rfl fl_RX11_12 dX11_look_90 ?_
    refine fx_getR X h (k := 1) (j := 1) (r := 8) sh_1 rfl fl_RX11_35 dX11_look_93 ?_
    refine fx_getI X h (k := 8) (j := 8) sh_8 rfl fl_RX11_119 dX11_look_96 ?_
    exact fx_iret X hr hk h hT dX11_look_99
  have hT := hT.2 hc4
  by_cases hc5 : x1 = (4 : Int32)
  · have hT := hT.1 hc5
    refine lv_tableIn (off := 99) (tgt := 100) hx hb dX11_look_1 (by rw [hc5]; decide) (by rw [hc5]; decide) (by rw [hc5]; rfl) (by decide) ?_
    refine lv_aload_n hx hb dX11_look_100 rfl (lv_at hl 0 rfl) ?_
    refine fx_getR X h (k := 0) (j := 0) (r := 1) sh_0 rfl fl_RX11_12 dX11_look_101 ?_
    refine fx_getR X h (k := 1) (j := 1) (r := 8) sh_1 rfl fl_RX11_35 dX11_look_104 ?_
    refine fx_getI X h (k := 8) (j := 9) sh_8 rfl fl_RX11_122 dX11_look_107 ?_
    exact fx_iret X hr hk h hT dX11_look_110
  have hT := hT.2 hc5
  by_cases hc6 : x1 = (5 : Int32)
  · have hT := hT.1 hc6
    refine lv_tableIn (off := 110) (tgt := 111) hx hb dX11_look_1 (by rw [hc6]; decide) (by rw [hc6]; decide) (by rw [hc6]; rfl) (by decide) ?_
    refine lv_aload_n hx hb dX11_look_111 rfl (lv_at hl 0 rfl) ?_
    refine fx_getR X h (k := 0) (j := 0) (r := 1) sh_0 rfl fl_RX11_12 dX11_look_112 ?_
    refine fx_getR X h (k := 1) (j := 1) (r := 8) sh_1 rfl fl_RX11_35 dX11_look_115 ?_
    refine fx_getI X h (k := 8) (j := 10) sh_8 rfl fl_RX11_172 dX11_look_118 ?_
    exact fx_iret X hr hk h hT dX11_look_121
  have hT := hT.2 hc6
  by_cases hc7 : x1 = (6 : Int32)
  · have hT := hT.1 hc7
    refine lv_tableIn (off := 121) (tgt := 122) hx hb dX11_look_1 (by rw [hc7]; decide) (by rw [hc7]; decide) (by rw [hc7]; rfl) (by decide) ?_
    refine lv_aload_n hx hb dX11_look_122 rfl (lv_at hl 0 rfl) ?_
    refine fx_getR X h (k := 0) (j := 0) (r := 1) sh_0 rfl fl_RX11_12 dX11_look_123 ?_
    refine fx_getR X h (k := 1) (j := 1) (r := 8) sh_1 rfl fl_RX11_35 dX11_look_126 ?_
    refine fx_getI X h (k := 8) (j := 11) sh_8 rfl fl_RX11_281 dX11_look_129 ?_
    exact fx_iret X hr hk h hT dX11_look_132
  have hT := hT.2 hc7
  by_cases hc8 : x1 = (7 : Int32)
  · have hT := hT.1 hc8
    refine lv_tableIn (off := 132) (tgt := 133) hx hb dX11_look_1 (by rw [hc8]; decide) (by rw [hc8]; decide) (by rw [hc8]; rfl) (by decide) ?_
    refine lv_aload_n hx hb dX11_look_133 rfl (lv_at hl 0 rfl) ?_
    refine fx_getR X h (k := 0) (j := 0) (r := 1) sh_0 rfl fl_RX11_12 dX11_look_134 ?_
    refine fx_getR X h (k := 1) (j := 1) (r := 8) sh_1 rfl fl_RX11_35 dX11_look_137 ?_
    refine lv_aload_n hx hb dX11_look_140 rfl (lv_at hl 0 rfl) ?_
    refine fx_getR X h (k := 0) (j := 0) (r := 1) sh_0 rfl fl_RX11_12 dX11_look_141 ?_
    refine fx_getR X h (k := 1) (j := 0) (r := 2) sh_1 rfl fl_RX11_92 dX11_look_144 ?_
    refine fx_getI X h (k := 2) (j := 0) sh_2 rfl fl_RX11_96 dX11_look_147 ?_
    refine fx_vi X h ym_X6_unsold yi_X6_unsold ys_X6_unsold (fx_s5 (List.mem_of_getElem? (i := 63) rfl) rfl) sh_8 rfl (c_X6_unsold l G (by decide) hT) (As := [.int (M 2 0)]) (rest := []) rfl rfl ⟨Nat.le_of_ble_eq_true rfl, Nat.le_of_ble_eq_true rfl⟩ ⟨Nat.le_refl _, Nat.le_refl _⟩ hl.1 (Nat.le_of_ble_eq_true rfl) dX11_look_150 (fun r11 M10 H locs hT h => ?_)
    exact fx_iret X hr hk h hT dX11_look_153
  have hT := hT.2 hc8
  by_cases hc12 : x1 = (8 : Int32)
  · have hT := hT.1 hc12
    refine lv_tableIn (off := 153) (tgt := 154) hx hb dX11_look_1 (by rw [hc12]; decide) (by rw [hc12]; decide) (by rw [hc12]; rfl) (by decide) ?_
    refine lv_aload_n hx hb dX11_look_154 rfl (lv_at hl 0 rfl) ?_
    refine fx_getR X h (k := 0) (j := 0) (r := 1) sh_0 rfl fl_RX11_12 dX11_look_155 ?_
    refine fx_getR X h (k := 1) (j := 1) (r := 8) sh_1 rfl fl_RX11_35 dX11_look_158 ?_
    refine fx_getI X h (k := 8) (j := 12) sh_8 rfl fl_RX11_261 dX11_look_161 ?_
    exact fx_iret X hr hk h hT dX11_look_164
  have hT := hT.2 hc12
  by_cases hc13 : x1 = (9 : Int32)
  · have hT := hT.1 hc13
    refine lv_tableIn (off := 164) (tgt := 165) hx hb dX11_look_1 (by rw [hc13]; decide) (by rw [hc13]; decide) (by rw [hc13]; rfl) (by decide) ?_
    refine lv_aload_n hx hb dX11_look_165 rfl (lv_at hl 0 rfl) ?_
    refine fx_getR X h (k := 0) (j := 0) (r := 1) sh_0 rfl fl_RX11_12 dX11_look_166 ?_
    refine fx_getR X h (k := 1) (j := 1) (r := 8) sh_1 rfl fl_RX11_35 dX11_look_169 ?_
    refine fx_getI X h (k := 8) (j := 6) sh_8 rfl fl_RX11_82 dX11_look_172 ?_
    exact fx_iret X hr hk h hT dX11_look_175
  have hT := hT.2 hc13
  have khc1 : ¬ (x1).toInt = 0 := fun q => hc1 (Int32.toInt_inj.mp (q.trans (by decide)))
  have khc2 : ¬ (x1).toInt = 1 := fun q => hc2 (Int32.toInt_inj.mp (q.trans (by decide)))
  have khc3 : ¬ (x1).toInt = 2 := fun q => hc3 (Int32.toInt_inj.mp (q.trans (by decide)))
  have khc4 : ¬ (x1).toInt = 3 := fun q => hc4 (Int32.toInt_inj.mp (q.trans (by decide)))
  have khc5 : ¬ (x1).toInt = 4 := fun q => hc5 (Int32.toInt_inj.mp (q.trans (by decide)))
  have khc6 : ¬ (x1).toInt = 5 := fun q => hc6 (Int32.toInt_inj.mp (q.trans (by decide)))
  have khc7 : ¬ (x1).toInt = 6 := fun q => hc7 (Int32.toInt_inj.mp (q.trans (by decide)))
  have khc8 : ¬ (x1).toInt = 7 := fun q => hc8 (Int32.toInt_inj.mp (q.trans (by decide)))
  have khc12 : ¬ (x1).toInt = 8 := fun q => hc12 (Int32.toInt_inj.mp (q.trans (by decide)))
  have khc13 : ¬ (x1).toInt = 9 := fun q => hc13 (Int32.toInt_inj.mp (q.trans (by decide)))
  refine lv_tableOut (tgt := 176) hx hb dX11_look_1 (by omega) (by decide) ?_
  refine lv_aload_n hx hb dX11_look_176 rfl (lv_at hl 0 rfl) ?_
  refine lv_iload_n hx hb dX11_look_177 rfl (lv_at hl 1 rfl) ?_
  refine fx_vi X h ym_X11_lookAtTexts yi_X11_lookAtTexts ys_X11_lookAtTexts (fx_s6 (List.mem_of_getElem? (i := 78) rfl) rfl) sh_0 rfl (c_X11_lookAtTexts l G hT) (As := [.int x1]) (rest := []) rfl rfl ⟨Nat.le_of_ble_eq_true rfl, Nat.le_of_ble_eq_true rfl⟩ ⟨Nat.le_refl _, Nat.le_refl _⟩ hl.1 (Nat.le_of_ble_eq_true rfl) dX11_look_178 (fun r16 M15 H locs hT h => ?_)
  exact fx_iret X hr hk h hT dX11_look_181
