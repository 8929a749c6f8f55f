/-! MockParcels$Auction.setScene(IIII)V -/
theorem dX0_setScene_0 : decode cX0_setScene 0 = .ok (.aload_n 0, 1) := by decide +kernel
theorem dX0_setScene_1 : decode cX0_setScene 1 = .ok (.getfield 27, 3) := by decide +kernel
theorem dX0_setScene_4 : decode cX0_setScene 4 = .ok (.iload_n 1, 1) := by decide +kernel
theorem dX0_setScene_5 : decode cX0_setScene 5 = .ok (.invokevirtual 51, 3) := by decide +kernel
theorem dX0_setScene_8 : decode cX0_setScene 8 = .ok (.ifCond .eq 14, 3) := by decide +kernel
theorem dX0_setScene_11 : decode cX0_setScene 11 = .ok (.aload_n 0, 1) := by decide +kernel
theorem dX0_setScene_12 : decode cX0_setScene 12 = .ok (.getfield 27, 3) := by decide +kernel
theorem dX0_setScene_15 : decode cX0_setScene 15 = .ok (.iload_n 2, 1) := by decide +kernel
theorem dX0_setScene_16 : decode cX0_setScene 16 = .ok (.invokevirtual 57, 3) := by decide +kernel
theorem dX0_setScene_19 : decode cX0_setScene 19 = .ok (.ifCond .ne 4, 3) := by decide +kernel
theorem dX0_setScene_22 : decode cX0_setScene 22 = .ok (.return_, 1) := by decide +kernel
theorem dX0_setScene_23 : decode cX0_setScene 23 = .ok (.aload_n 0, 1) := by decide +kernel
theorem dX0_setScene_24 : decode cX0_setScene 24 = .ok (.getfield 32, 3) := by decide +kernel
theorem dX0_setScene_27 : decode cX0_setScene 27 = .ok (.getfield 60, 3) := by decide +kernel
theorem dX0_setScene_30 : decode cX0_setScene 30 = .ok (.astore 5, 2) := by decide +kernel
theorem dX0_setScene_32 : decode cX0_setScene 32 = .ok (.aload 5, 2) := by decide +kernel
theorem dX0_setScene_34 : decode cX0_setScene 34 = .ok (.iconst 0, 1) := by decide +kernel
theorem dX0_setScene_35 : decode cX0_setScene 35 = .ok (.aload_n 0, 1) := by decide +kernel
theorem dX0_setScene_36 : decode cX0_setScene 36 = .ok (.getfield 27, 3) := by decide +kernel
theorem dX0_setScene_39 : decode cX0_setScene 39 = .ok (.getfield 65, 3) := by decide +kernel
theorem dX0_setScene_42 : decode cX0_setScene 42 = .ok (.iload_n 1, 1) := by decide +kernel
theorem dX0_setScene_43 : decode cX0_setScene 43 = .ok (.iaload, 1) := by decide +kernel
theorem dX0_setScene_44 : decode cX0_setScene 44 = .ok (.iastore, 1) := by decide +kernel
theorem dX0_setScene_45 : decode cX0_setScene 45 = .ok (.aload 5, 2) := by decide +kernel
theorem dX0_setScene_47 : decode cX0_setScene 47 = .ok (.iconst 1, 1) := by decide +kernel
theorem dX0_setScene_48 : decode cX0_setScene 48 = .ok (.aload_n 0, 1) := by decide +kernel
theorem dX0_setScene_49 : decode cX0_setScene 49 = .ok (.getfield 27, 3) := by decide +kernel
theorem dX0_setScene_52 : decode cX0_setScene 52 = .ok (.getfield 68, 3) := by decide +kernel
theorem dX0_setScene_55 : decode cX0_setScene 55 = .ok (.iload_n 1, 1) := by decide +kernel
theorem dX0_setScene_56 : decode cX0_setScene 56 = .ok (.iaload, 1) := by decide +kernel
theorem dX0_setScene_57 : decode cX0_setScene 57 = .ok (.iastore, 1) := by decide +kernel
theorem dX0_setScene_58 : decode cX0_setScene 58 = .ok (.aload 5, 2) := by decide +kernel
theorem dX0_setScene_60 : decode cX0_setScene 60 = .ok (.iconst 2, 1) := by decide +kernel
theorem dX0_setScene_61 : decode cX0_setScene 61 = .ok (.aload_n 0, 1) := by decide +kernel
theorem dX0_setScene_62 : decode cX0_setScene 62 = .ok (.getfield 27, 3) := by decide +kernel
theorem dX0_setScene_65 : decode cX0_setScene 65 = .ok (.getfield 71, 3) := by decide +kernel
theorem dX0_setScene_68 : decode cX0_setScene 68 = .ok (.iload_n 1, 1) := by decide +kernel
theorem dX0_setScene_69 : decode cX0_setScene 69 = .ok (.iaload, 1) := by decide +kernel
theorem dX0_setScene_70 : decode cX0_setScene 70 = .ok (.iastore, 1) := by decide +kernel
theorem dX0_setScene_71 : decode cX0_setScene 71 = .ok (.aload 5, 2) := by decide +kernel
theorem dX0_setScene_73 : decode cX0_setScene 73 = .ok (.iconst 3, 1) := by decide +kernel
theorem dX0_setScene_74 : decode cX0_setScene 74 = .ok (.aload_n 0, 1) := by decide +kernel
theorem dX0_setScene_75 : decode cX0_setScene 75 = .ok (.getfield 27, 3) := by decide +kernel
theorem dX0_setScene_78 : decode cX0_setScene 78 = .ok (.getfield 74, 3) := by decide +kernel
theorem dX0_setScene_81 : decode cX0_setScene 81 = .ok (.iload_n 2, 1) := by decide +kernel
theorem dX0_setScene_82 : decode cX0_setScene 82 = .ok (.iaload, 1) := by decide +kernel
theorem dX0_setScene_83 : decode cX0_setScene 83 = .ok (.iastore, 1) := by decide +kernel
theorem dX0_setScene_84 : decode cX0_setScene 84 = .ok (.aload 5, 2) := by decide +kernel
theorem dX0_setScene_86 : decode cX0_setScene 86 = .ok (.iconst 4, 1) := by decide +kernel
theorem dX0_setScene_87 : decode cX0_setScene 87 = .ok (.aload_n 0, 1) := by decide +kernel
theorem dX0_setScene_88 : decode cX0_setScene 88 = .ok (.getfield 27, 3) := by decide +kernel
theorem dX0_setScene_91 : decode cX0_setScene 91 = .ok (.getfield 77, 3) := by decide +kernel
theorem dX0_setScene_94 : decode cX0_setScene 94 = .ok (.iload_n 2, 1) := by decide +kernel
theorem dX0_setScene_95 : decode cX0_setScene 95 = .ok (.iaload, 1) := by decide +kernel
theorem dX0_setScene_96 : decode cX0_setScene 96 = .ok (.iastore, 1) := by decide +kernel
theorem dX0_setScene_97 : decode cX0_setScene 97 = .ok (.aload 5, 2) := by decide +kernel
theorem dX0_setScene_99 : decode cX0_setScene 99 = .ok (.iconst 5, 1) := by decide +kernel
theorem dX0_setScene_100 : decode cX0_setScene 100 = .ok (.aload_n 0, 1) := by decide +kernel
theorem dX0_setScene_101 : decode cX0_setScene 101 = .ok (.getfield 43, 3) := by decide +kernel
theorem dX0_setScene_104 : decode cX0_setScene 104 = .ok (.getfield 80, 3) := by decide +kernel
theorem dX0_setScene_107 : decode cX0_setScene 107 = .ok (.iload_n 2, 1) := by decide +kernel
theorem dX0_setScene_108 : decode cX0_setScene 108 = .ok (.iaload, 1) := by decide +kernel
theorem dX0_setScene_109 : decode cX0_setScene 109 = .ok (.iastore, 1) := by decide +kernel
theorem dX0_setScene_110 : decode cX0_setScene 110 = .ok (.aload 5, 2) := by decide +kernel
theorem dX0_setScene_112 : decode cX0_setScene 112 = .ok (.bipush 6, 2) := by decide +kernel
theorem dX0_setScene_114 : decode cX0_setScene 114 = .ok (.iload_n 3, 1) := by decide +kernel
theorem dX0_setScene_115 : decode cX0_setScene 115 = .ok (.iastore, 1) := by decide +kernel
theorem dX0_setScene_116 : decode cX0_setScene 116 = .ok (.aload 5, 2) := by decide +kernel
theorem dX0_setScene_118 : decode cX0_setScene 118 = .ok (.bipush 7, 2) := by decide +kernel
theorem dX0_setScene_120 : decode cX0_setScene 120 = .ok (.iload 4, 2) := by decide +kernel
theorem dX0_setScene_122 : decode cX0_setScene 122 = .ok (.iastore, 1) := by decide +kernel
theorem dX0_setScene_123 : decode cX0_setScene 123 = .ok (.aload 5, 2) := by decide +kernel
theorem dX0_setScene_125 : decode cX0_setScene 125 = .ok (.bipush 8, 2) := by decide +kernel
theorem dX0_setScene_127 : decode cX0_setScene 127 = .ok (.aload_n 0, 1) := by decide +kernel
theorem dX0_setScene_128 : decode cX0_setScene 128 = .ok (.getfield 43, 3) := by decide +kernel
theorem dX0_setScene_131 : decode cX0_setScene 131 = .ok (.getfield 85, 3) := by decide +kernel
theorem dX0_setScene_134 : decode cX0_setScene 134 = .ok (.iastore, 1) := by decide +kernel
theorem dX0_setScene_135 : decode cX0_setScene 135 = .ok (.aload 5, 2) := by decide +kernel
theorem dX0_setScene_137 : decode cX0_setScene 137 = .ok (.bipush 9, 2) := by decide +kernel
theorem dX0_setScene_139 : decode cX0_setScene 139 = .ok (.aload_n 0, 1) := by decide +kernel
theorem dX0_setScene_140 : decode cX0_setScene 140 = .ok (.getfield 43, 3) := by decide +kernel
theorem dX0_setScene_143 : decode cX0_setScene 143 = .ok (.getfield 88, 3) := by decide +kernel
theorem dX0_setScene_146 : decode cX0_setScene 146 = .ok (.iastore, 1) := by decide +kernel
theorem dX0_setScene_147 : decode cX0_setScene 147 = .ok (.aload 5, 2) := by decide +kernel
theorem dX0_setScene_149 : decode cX0_setScene 149 = .ok (.bipush 10, 2) := by decide +kernel
theorem dX0_setScene_151 : decode cX0_setScene 151 = .ok (.aload_n 0, 1) := by decide +kernel
theorem dX0_setScene_152 : decode cX0_setScene 152 = .ok (.getfield 43, 3) := by decide +kernel
theorem dX0_setScene_155 : decode cX0_setScene 155 = .ok (.iload_n 2, 1) := by decide +kernel
theorem dX0_setScene_156 : decode cX0_setScene 156 = .ok (.invokevirtual 91, 3) := by decide +kernel
theorem dX0_setScene_159 : decode cX0_setScene 159 = .ok (.iastore, 1) := by decide +kernel
theorem dX0_setScene_160 : decode cX0_setScene 160 = .ok (.aload 5, 2) := by decide +kernel
theorem dX0_setScene_162 : decode cX0_setScene 162 = .ok (.bipush 11, 2) := by decide +kernel
theorem dX0_setScene_164 : decode cX0_setScene 164 = .ok (.aload_n 0, 1) := by decide +kernel
theorem dX0_setScene_165 : decode cX0_setScene 165 = .ok (.getfield 43, 3) := by decide +kernel
theorem dX0_setScene_168 : decode cX0_setScene 168 = .ok (.getfield 95, 3) := by decide +kernel
theorem dX0_setScene_171 : decode cX0_setScene 171 = .ok (.iastore, 1) := by decide +kernel
theorem dX0_setScene_172 : decode cX0_setScene 172 = .ok (.return_, 1) := by decide +kernel
def T_X0_setScene (o : Nat) (x1 : Int32) (x2 : Int32) (x3 : Int32) (x4 : Int32) (M : Mm) (K : Mm → Prop) : Prop := (T_X1_hasParcel (rf o 0) x1 M (fun r3 M2 => ((r3 = 0 → (K M2)) ∧ (¬ r3 = 0 → (T_X1_hasBidder (rf o 0) x2 M2 (fun r7 M6 => ((r7 = 0 → (K M6)) ∧ (¬ r7 = 0 → (vp_in x1 16 ∧ (∀ M10 : Mm, M10 = m_up M6 (rf (rf o 1) 4) 0 (M6 (rf (rf o 0) 2) (x1).toNatClampNeg) → (vp_in x1 16 ∧ (∀ M12 : Mm, M12 = m_up M10 (rf (rf o 1) 4) 1 (M10 (rf (rf o 0) 3) (x1).toNatClampNeg) → (vp_in x1 16 ∧ (∀ M14 : Mm, M14 = m_up M12 (rf (rf o 1) 4) 2 (M12 (rf (rf o 0) 4) (x1).toNatClampNeg) → (vp_in x2 8 ∧ (∀ M16 : Mm, M16 = m_up M14 (rf (rf o 1) 4) 3 (M14 (rf (rf o 0) 5) (x2).toNatClampNeg) → (vp_in x2 8 ∧ (∀ M18 : Mm, M18 = m_up M16 (rf (rf o 1) 4) 4 (M16 (rf (rf o 0) 6) (x2).toNatClampNeg) → (vp_in x2 8 ∧ (∀ M20 : Mm, M20 = m_up M18 (rf (rf o 1) 4) 5 (M18 (rf (rf o 4) 3) (x2).toNatClampNeg) → (∀ M21 : Mm, M21 = m_up M20 (rf (rf o 1) 4) 6 x3 → (∀ M22 : Mm, M22 = m_up M21 (rf (rf o 1) 4) 7 x4 → (∀ M23 : Mm, M23 = m_up M22 (rf (rf o 1) 4) 8 (M22 (rf o 4) 8) → (∀ M24 : Mm, M24 = m_up M23 (rf (rf o 1) 4) 9 (M23 (rf o 4) 9) → (T_X6_things (rf o 4) x2 M24 (fun r27 M26 => (∀ M28 : Mm, M28 = m_up M26 (rf (rf o 1) 4) 10 r27 → (∀ M29 : Mm, M29 = m_up M28 (rf (rf o 1) 4) 11 (M28 (rf o 4) 10) → (K M29)))))))))))))))))))))))))))))
set_option maxHeartbeats 4000000 in
set_option maxRecDepth 100000 in
theorem c_X0_setScene (l : Launch) (G : fx_G) {o : Nat} (ho : o ∈ id_Auction) {x1 : Int32} {x2 : Int32} {x3 : Int32} {x4 : Int32} {M : Mm} {K : Mm → Prop} (hT : T_X0_setScene o x1 x2 x3 x4 M K) : Met l yX0_setScene (fx_ws yX0_setScene cX0_setScene 6 none) (fx_rm (1)) (va_Pc [.ref (G.2.2.2 + o), .int x1, .int x2, .int x3, .int x4] (fx_P G SH M)) (va_Qv K (fx_R G SH) (fx_A G)) 0 0 (fx_A G) := by
  refine fx_met (own := RX0) (by decide +kernel) rfl (Nat.le_of_ble_eq_true rfl) (fun p e s m below meth c X hr hk h ls hl => ?_)
  obtain ⟨⟨hx, hb, hml, hown, hts⟩, hK, hQ⟩ := id X
  have hl : lv_has ls 6 [(0, .ref (G.2.2.2 + o)), (1, .int x1), (2, .int x2), (3, .int x3), (4, .int x4)] := hl
  unfold T_X0_setScene at hT
  refine lv_aload_n hx hb dX0_setScene_0 rfl (lv_at hl 0 rfl) ?_
  refine fx_getR X h (k := o) (j := 0) (r := (rf o 0)) (sc_Auction o ho) rfl fl_RX0_27 dX0_setScene_1 ?_
  refine lv_iload_n hx hb dX0_setScene_4 rfl (lv_at hl 1 rfl) ?_
  refine fx_vi X h ym_X1_hasParcel yi_X1_hasParcel ys_X1_hasParcel (fx_s3 (List.mem_of_getElem? (i := 103) rfl) rfl) (sc_Cast (rf o 0) (sm_Auction_0 o ho)) rfl (c_X1_hasParcel l G (sm_Auction_0 o ho) hT) (As := [.int x1]) (rest := []) rfl rfl ⟨Nat.le_of_ble_eq_true rfl, Nat.le_of_ble_eq_true rfl⟩ ⟨Nat.le_refl _, Nat.le_refl _⟩ hl.1 (Nat.le_of_ble_eq_true rfl) dX0_setScene_5 (fun r3 M2 H locs hT h => ?_)
  refine lv_if_eq (tgt := 22) hx hb dX0_setScene_8 (by decide) (fun hc4 => ?_) (fun hc4 => ?_)
  · have hT := hT.1 hc4
    exact fx_vret X hr hk h hT dX0_setScene_22
  · have hT := hT.2 hc4
    refine lv_aload_n hx hb dX0_setScene_11 rfl (lv_at hl 0 rfl) ?_
    refine fx_getR X h (k := o) (j := 0) (r := (rf o 0)) (sc_Auction o ho) rfl fl_RX0_27 dX0_setScene_12 ?_
    refine lv_iload_n hx hb dX0_setScene_15 rfl (lv_at hl 2 rfl) ?_
    refine fx_vi X h ym_X1_hasBidder yi_X1_hasBidder ys_X1_hasBidder (fx_s3 (List.mem_of_getElem? (i := 136) rfl) rfl) (sc_Cast (rf o 0) (sm_Auction_0 o ho)) rfl (c_X1_hasBidder l G (sm_Auction_0 o ho) hT) (As := [.int x2]) (rest := []) rfl rfl ⟨Nat.le_of_ble_eq_true rfl, Nat.le_of_ble_eq_true rfl⟩ ⟨Nat.le_refl _, Nat.le_refl _⟩ hl.1 (Nat.le_of_ble_eq_true rfl) dX0_setScene_16 (fun r7 M6 H locs hT h => ?_)
    refine lv_if_ne (tgt := 23) hx hb dX0_setScene_19 (by decide) (fun hc8 => ?_) (fun hc8 => ?_)
    · have hT := hT.2 hc8
      refine lv_aload_n hx hb dX0_setScene_23 rfl (lv_at hl 0 rfl) ?_
      refine fx_getR X h (k := o) (j := 1) (r := (rf o 1)) (sc_Auction o ho) rfl fl_RX0_32 dX0_setScene_24 ?_
      refine fx_getR X h (k := (rf o 1)) (j := 4) (r := (rf (rf o 1) 4)) (sc_Law (rf o 1) (sm_Auction_1 o ho)) rfl fl_RX0_60 dX0_setScene_27 ?_
      refine lv_astore (lv' := [(5, .ref (G.2.2.2 + (rf (rf o 1) 4))), (0, .ref (G.2.2.2 + o)), (1, .int x1), (2, .int x2), (3, .int x3), (4, .int x4)]) hx hb dX0_setScene_30 hl (by decide) rfl (fun ls hl => ?_)
      refine lv_aload hx hb dX0_setScene_32 (lv_at hl 0 rfl) ?_
      refine lv_iconst (v := 0) hx hb dX0_setScene_34 (by decide) ?_
      refine lv_aload_n hx hb dX0_setScene_35 rfl (lv_at hl 1 rfl) ?_
      refine fx_getR X h (k := o) (j := 0) (r := (rf o 0)) (sc_Auction o ho) rfl fl_RX0_27 dX0_setScene_36 ?_
      refine fx_getR X h (k := (rf o 0)) (j := 2) (r := (rf (rf o 0) 2)) (sc_Cast (rf o 0) (sm_Auction_0 o ho)) rfl fl_RX0_65 dX0_setScene_39 ?_
      refine lv_iload_n hx hb dX0_setScene_42 rfl (lv_at hl 2 rfl) ?_
      obtain ⟨hi9, hT⟩ := hT
      refine fx_iald X h (k := (rf (rf o 0) 2)) (sa_Cast_2 (rf o 0) (sm_Auction_0 o ho)) hi9 dX0_setScene_43 ?_
      refine fx_iast X h (k := (rf (rf o 1) 4)) (sa_Law_4 (rf o 1) (sm_Auction_1 o ho)) (by unfold vp_in; decide) dX0_setScene_44 (fun H locs h => ?_)
      rw [show ((0 : Int32)).toNatClampNeg = 0 by decide] at h
      obtain ⟨M10, eM10⟩ : ∃ z : Mm, z = m_up M6 (rf (rf o 1) 4) 0 (M6 (rf (rf o 0) 2) (x1).toNatClampNeg) := ⟨_, rfl⟩
      have hT := hT M10 eM10
      rw [← eM10] at h
      refine lv_aload hx hb dX0_setScene_45 (lv_at hl 0 rfl) ?_
      refine lv_iconst (v := 1) hx hb dX0_setScene_47 (by decide) ?_
      refine lv_aload_n hx hb dX0_setScene_48 rfl (lv_at hl 1 rfl) ?_
      refine fx_getR X h (k := o) (j := 0) (r := (rf o 0)) (sc_Auction o ho) rfl fl_RX0_27 dX0_setScene_49 ?_
      refine fx_getR X h (k := (rf o 0)) (j := 3) (r := (rf (rf o 0) 3)) (sc_Cast (rf o 0) (sm_Auction_0 o ho)) rfl fl_RX0_68 dX0_setScene_52 ?_
      refine lv_iload_n hx hb dX0_setScene_55 rfl (lv_at hl 2 rfl) ?_
      obtain ⟨hi11, hT⟩ := hT
      refine fx_iald X h (k := (rf (rf o 0) 3)) (sa_Cast_3 (rf o 0) (sm_Auction_0 o ho)) hi11 dX0_setScene_56 ?_
      refine fx_iast X h (k := (rf (rf o 1) 4)) (sa_Law_4 (rf o 1) (sm_Auction_1 o ho)) (by unfold vp_in; decide) dX0_setScene_57 (fun H locs h => ?_)
      rw [show ((1 : Int32)).toNatClampNeg = 1 by decide] at h
      obtain ⟨M12, eM12⟩ : ∃ z : Mm, z = m_up M10 (rf (rf o 1) 4) 1 (M10 (rf (rf o 0) 3) (x1).toNatClampNeg) := ⟨_, rfl⟩
      have hT := hT M12 eM12
      rw [← eM12] at h
      refine lv_aload hx hb dX0_setScene_58 (lv_at hl 0 rfl) ?_
      refine lv_iconst (v := 2) hx hb dX0_setScene_60 (by decide) ?_
      refine lv_aload_n hx hb dX0_setScene_61 rfl (lv_at hl 1 rfl) ?_
      refine fx_getR X h (k := o) (j := 0) (r := (rf o 0)) (sc_Auction o ho) rfl fl_RX0_27 dX0_setScene_62 ?_
      refine fx_getR X h (k := (rf o 0)) (j := 4) (r := (rf (rf o 0) 4)) (sc_Cast (rf o 0) (sm_Auction_0 o ho)) rfl fl_RX0_71 dX0_setScene_65 ?_
      refine lv_iload_n hx hb dX0_setScene_68 rfl (lv_at hl 2 rfl) ?_
      obtain ⟨hi13, hT⟩ := hT
      refine fx_iald X h (k := (rf (rf o 0) 4)) (sa_Cast_4 (rf o 0) (sm_Auction_0 o ho)) hi13 dX0_setScene_69 ?_
      refine fx_iast X h (k := (rf (rf o 1) 4)) (sa_Law_4 (rf o 1) (sm_Auction_1 o ho)) (by unfold vp_in; decide) dX0_setScene_70 (fun H locs h => ?_)
      rw [show ((2 : Int32)).toNatClampNeg = 2 by decide] at h
      obtain ⟨M14, eM14⟩ : ∃ z : Mm, z = m_up M12 (rf (rf o 1) 4) 2 (M12 (rf (rf o 0) 4) (x1).toNatClampNeg) := ⟨_, rfl⟩
      have hT := hT M14 eM14
      rw [← eM14] at h
      refine lv_aload hx hb dX0_setScene_71 (lv_at hl 0 rfl) ?_
      refine lv_iconst (v := 3) hx hb dX0_setScene_73 (by decide) ?_
      refine lv_aload_n hx hb dX0_setScene_74 rfl (lv_at hl 1 rfl) ?_
      refine fx_getR X h (k := o) (j := 0) (r := (rf o 0)) (sc_Auction o ho) rfl fl_RX0_27 dX0_setScene_75 ?_
      refine fx_getR X h (k := (rf o 0)) (j := 5) (r := (rf (rf o 0) 5)) (sc_Cast (rf o 0) (sm_Auction_0 o ho)) rfl fl_RX0_74 dX0_setScene_78 ?_
      refine lv_iload_n hx hb dX0_setScene_81 rfl (lv_at hl 3 rfl) ?_
      obtain ⟨hi15, hT⟩ := hT
      refine fx_iald X h (k := (rf (rf o 0) 5)) (sa_Cast_5 (rf o 0) (sm_Auction_0 o ho)) hi15 dX0_setScene_82 ?_
      refine fx_iast X h (k := (rf (rf o 1) 4)) (sa_Law_4 (rf o 1) (sm_Auction_1 o ho)) (by unfold vp_in; decide) dX0_setScene_83 (fun H locs h => ?_)
      rw [show ((3 : Int32)).toNatClampNeg = 3 by decide] at h
      obtain ⟨M16, eM16⟩ : ∃ z : Mm, z = m_up M14 (rf (rf o 1) 4) 3 (M14 (rf (rf o 0) 5) (x2).toNatClampNeg) := ⟨_, rfl⟩
      have hT := hT M16 eM16
      rw [← eM16] at h
      refine lv_aload hx hb dX0_setScene_84 (lv_at hl 0 rfl) ?_
      refine lv_iconst (v := 4) hx hb dX0_setScene_86 (by decide) ?_
      refine lv_aload_n hx hb dX0_setScene_87 rfl (lv_at hl 1 rfl) ?_
      refine fx_getR X h (k := o) (j := 0) (r := (rf o 0)) (sc_Auction o ho) rfl fl_RX0_27 dX0_setScene_88 ?_
      refine fx_getR X h (k := (rf o 0)) (j := 6) (r := (rf (rf o 0) 6)) (sc_Cast (rf o 0) (sm_Auction_0 o ho)) rfl fl_RX0_77 dX0_setScene_91 ?_
      refine lv_iload_n hx hb dX0_setScene_94 rfl (lv_at hl 3 rfl) ?_
      obtain ⟨hi17, hT⟩ := hT
      refine fx_iald X h (k := (rf (rf o 0) 6)) (sa_Cast_6 (rf o 0) (sm_Auction_0 o ho)) hi17 dX0_setScene_95 ?_
      refine fx_iast X h (k := (rf (rf o 1) 4)) (sa_Law_4 (rf o 1) (sm_Auction_1 o ho)) (by unfold vp_in; decide) dX0_setScene_96 (fun H locs h => ?_)
      rw [show ((4 : Int32)).toNatClampNeg = 4 by decide] at h
      obtain ⟨M18, eM18⟩ : ∃ z : Mm, z = m_up M16 (rf (rf o 1) 4) 4 (M16 (rf (rf o 0) 6) (x2).toNatClampNeg) := ⟨_, rfl⟩
      have hT := hT M18 eM18
      rw [← eM18] at h
      refine lv_aload hx hb dX0_setScene_97 (lv_at hl 0 rfl) ?_
      refine lv_iconst (v := 5) hx hb dX0_setScene_99 (by decide) ?_
      refine lv_aload_n hx hb dX0_setScene_100 rfl (lv_at hl 1 rfl) ?_
      refine fx_getR X h (k := o) (j := 4) (r := (rf o 4)) (sc_Auction o ho) rfl fl_RX0_43 dX0_setScene_101 ?_
      refine fx_getR X h (k := (rf o 4)) (j := 3) (r := (rf (rf o 4) 3)) (sc_Quay (rf o 4) (sm_Auction_4 o ho)) rfl fl_RX0_80 dX0_setScene_104 ?_
      refine lv_iload_n hx hb dX0_setScene_107 rfl (lv_at hl 3 rfl) ?_
      obtain ⟨hi19, hT⟩ := hT
      refine fx_iald X h (k := (rf (rf o 4) 3)) (sa_Quay_3 (rf o 4) (sm_Auction_4 o ho)) hi19 dX0_setScene_108 ?_
      refine fx_iast X h (k := (rf (rf o 1) 4)) (sa_Law_4 (rf o 1) (sm_Auction_1 o ho)) (by unfold vp_in; decide) dX0_setScene_109 (fun H locs h => ?_)
      rw [show ((5 : Int32)).toNatClampNeg = 5 by decide] at h
      obtain ⟨M20, eM20⟩ : ∃ z : Mm, z = m_up M18 (rf (rf o 1) 4) 5 (M18 (rf (rf o 4) 3) (x2).toNatClampNeg) := ⟨_, rfl⟩
      have hT := hT M20 eM20
      rw [← eM20] at h
      refine lv_aload hx hb dX0_setScene_110 (lv_at hl 0 rfl) ?_
      refine lv_bipush (v := 6) hx hb dX0_setScene_112 (by decide) ?_
      refine lv_iload_n hx hb dX0_setScene_114 rfl (lv_at hl 4 rfl) ?_
      refine fx_iast X h (k := (rf (rf o 1) 4)) (sa_Law_4 (rf o 1) (sm_Auction_1 o ho)) (by unfold vp_in; decide) dX0_setScene_115 (fun H locs h => ?_)
      rw [show ((6 : Int32)).toNatClampNeg = 6 by decide] at h
      obtain ⟨M21, eM21⟩ : ∃ z : Mm, z = m_up M20 (rf (rf o 1) 4) 6 x3 := ⟨_, rfl⟩
      have hT := hT M21 eM21
      rw [← eM21] at h
      refine lv_aload hx hb dX0_setScene_116 (lv_at hl 0 rfl) ?_
      refine lv_bipush (v := 7) hx hb dX0_setScene_118 (by decide) ?_
      refine lv_iload hx hb dX0_setScene_120 (lv_at hl 5 rfl) ?_
      refine fx_iast X h (k := (rf (rf o 1) 4)) (sa_Law_4 (rf o 1) (sm_Auction_1 o ho)) (by unfold vp_in; decide) dX0_setScene_122 (fun H locs h => ?_)
      rw [show ((7 : Int32)).toNatClampNeg = 7 by decide] at h
      obtain ⟨M22, eM22⟩ : ∃ z : Mm, z = m_up M21 (rf (rf o 1) 4) 7 x4 := ⟨_, rfl⟩
      have hT := hT M22 eM22
      rw [← eM22] at h
      refine lv_aload hx hb dX0_setScene_123 (lv_at hl 0 rfl) ?_
      refine lv_bipush (v := 8) hx hb dX0_setScene_125 (by decide) ?_
      refine lv_aload_n hx hb dX0_setScene_127 rfl (lv_at hl 1 rfl) ?_
      refine fx_getR X h (k := o) (j := 4) (r := (rf o 4)) (sc_Auction o ho) rfl fl_RX0_43 dX0_setScene_128 ?_
      refine fx_getI X h (k := (rf o 4)) (j := 8) (sc_Quay (rf o 4) (sm_Auction_4 o ho)) rfl fl_RX0_85 dX0_setScene_131 ?_
      refine fx_iast X h (k := (rf (rf o 1) 4)) (sa_Law_4 (rf o 1) (sm_Auction_1 o ho)) (by unfold vp_in; decide) dX0_setScene_134 (fun H locs h => ?_)
      rw [show ((8 : Int32)).toNatClampNeg = 8 by decide] at h
      obtain ⟨M23, eM23⟩ : ∃ z : Mm, z = m_up M22 (rf (rf o 1) 4) 8 (M22 (rf o 4) 8) := ⟨_, rfl⟩
      have hT := hT M23 eM23
      rw [← eM23] at h
      refine lv_aload hx hb dX0_setScene_135 (lv_at hl 0 rfl) ?_
      refine lv_bipush (v := 9) hx hb dX0_setScene_137 (by decide) ?_
      refine lv_aload_n hx hb dX0_setScene_139 rfl (lv_at hl 1 rfl) ?_
      refine fx_getR X h (k := o) (j := 4) (r := (rf o 4)) (sc_Auction o ho) rfl fl_RX0_43 dX0_setScene_140 ?_
      refine fx_getI X h (k := (rf o 4)) (j := 9) (sc_Quay (rf o 4) (sm_Auction_4 o ho)) rfl fl_RX0_88 dX0_setScene_143 ?_
      refine fx_iast X h (k := (rf (rf o 1) 4)) (sa_Law_4 (rf o 1) (sm_Auction_1 o ho)) (by unfold vp_in; decide) dX0_setScene_146 (fun H locs h => ?_)
      rw [show ((9 : Int32)).toNatClampNeg = 9 by decide] at h
      obtain ⟨M24, eM24⟩ : ∃ z : Mm, z = m_up M23 (rf (rf o 1) 4) 9 (M23 (rf o 4) 9) := ⟨_, rfl⟩
      have hT := hT M24 eM24
      rw [← eM24] at h
      refine lv_aload hx hb dX0_setScene_147 (lv_at hl 0 rfl) ?_
      refine lv_bipush (v := 10) hx hb dX0_setScene_149 (by decide) ?_
      refine lv_aload_n hx hb dX0_setScene_151 rfl (lv_at hl 1 rfl) ?_
      refine fx_getR X h (k := o) (j := 4) (r := (rf o 4)) (sc_Auction o ho) rfl fl_RX0_43 dX0_setScene_152 ?_
      refine lv_iload_n hx hb dX0_setScene_155 rfl (lv_at hl 3 rfl) ?_
      refine fx_vi X h ym_X6_things yi_X6_things ys_X6_things (fx_s3 (List.mem_of_getElem? (i := 137) rfl) rfl) (sc_Quay (rf o 4) (sm_Auction_4 o ho)) rfl (c_X6_things l G (sm_Auction_4 o ho) hT) (As := [.int x2]) (rest := [.int (10 : Int32), .ref (G.2.2.2 + (rf (rf o 1) 4))]) rfl rfl ⟨Nat.le_of_ble_eq_true rfl, Nat.le_of_ble_eq_true rfl⟩ ⟨Nat.le_refl _, Nat.le_refl _⟩ hl.1 (Nat.le_of_ble_eq_true rfl) dX0_setScene_156 (fun r27 M26 H locs hT h => ?_)
      refine fx_iast X h (k := (rf (rf o 1) 4)) (sa_Law_4 (rf o 1) (sm_Auction_1 o ho)) (by unfold vp_in; decide) dX0_setScene_159 (fun H locs h => ?_)
      rw [show ((10 : Int32)).toNatClampNeg = 10 by decide] at h
      obtain ⟨M28, eM28⟩ : ∃ z : Mm, z = m_up M26 (rf (rf o 1) 4) 10 r27 := ⟨_, rfl⟩
      have hT := hT M28 eM28
      rw [← eM28] at h
      refine lv_aload hx hb dX0_setScene_160 (lv_at hl 0 rfl) ?_
      refine lv_bipush (v := 11) hx hb dX0_setScene_162 (by decide) ?_
      refine lv_aload_n hx hb dX0_setScene_164 rfl (lv_at hl 1 rfl) ?_
      refine fx_getR X h (k := o) (j := 4) (r := (rf o 4)) (sc_Auction o ho) rfl fl_RX0_43 dX0_setScene_165 ?_
      refine fx_getI X h (k := (rf o 4)) (j := 10) (sc_Quay (rf o 4) (sm_Auction_4 o ho)) rfl fl_RX0_95 dX0_setScene_168 ?_
      refine fx_iast X h (k := (rf (rf o 1) 4)) (sa_Law_4 (rf o 1) (sm_Auction_1 o ho)) (by unfold vp_in; decide) dX0_setScene_171 (fun H locs h => ?_)
      rw [show ((11 : Int32)).toNatClampNeg = 11 by decide] at h
      obtain ⟨M29, eM29⟩ : ∃ z : Mm, z = m_up M28 (rf (rf o 1) 4) 11 (M28 (rf o 4) 10) := ⟨_, rfl⟩
      have hT := hT M29 eM29
      rw [← eM29] at h
      exact fx_vret X hr hk h hT dX0_setScene_172
    · have hT := hT.1 hc8
      exact fx_vret X hr hk h hT dX0_setScene_22
/-! MockParcels$Auction.canSell(I)Z -/
theorem dX0_canSell_0 : decode cX0_canSell 0 = .ok (.aload_n 0, 1) := by decide +kernel
theorem dX0_canSell_1 : decode cX0_canSell 1 = .ok (.getfield 27, 3) := by decide +kernel
theorem dX0_canSell_4 : decode cX0_canSell 4 = .ok (.iload_n 1, 1) := by decide +kernel
theorem dX0_canSell_5 : decode cX0_canSell 5 = .ok (.invokevirtual 51, 3) := by decide +kernel
theorem dX0_canSell_8 : decode cX0_canSell 8 = .ok (.ifCond .eq 20, 3) := by decide +kernel
theorem dX0_canSell_11 : decode cX0_canSell 11 = .ok (.aload_n 0, 1) := by decide +kernel
theorem dX0_canSell_12 : decode cX0_canSell 12 = .ok (.getfield 43, 3) := by decide +kernel
theorem dX0_canSell_15 : decode cX0_canSell 15 = .ok (.getfield 98, 3) := by decide +kernel
theorem dX0_canSell_18 : decode cX0_canSell 18 = .ok (.iload_n 1, 1) := by decide +kernel
theorem dX0_canSell_19 : decode cX0_canSell 19 = .ok (.iaload, 1) := by decide +kernel
theorem dX0_canSell_20 : decode cX0_canSell 20 = .ok (.iconst (-1), 1) := by decide +kernel
theorem dX0_canSell_21 : decode cX0_canSell 21 = .ok (.if_icmp .ne 7, 3) := by decide +kernel
theorem dX0_canSell_24 : decode cX0_canSell 24 = .ok (.iconst 1, 1) := by decide +kernel
theorem dX0_canSell_25 : decode cX0_canSell 25 = .ok (.goto 4, 3) := by decide +kernel
theorem dX0_canSell_28 : decode cX0_canSell 28 = .ok (.iconst 0, 1) := by decide +kernel
theorem dX0_canSell_29 : decode cX0_canSell 29 = .ok (.ireturn, 1) := by decide +kernel
def T_X0_canSell (o : Nat) (x1 : Int32) (M : Mm) (K : Int32 → Mm → Prop) : Prop := (T_X1_hasParcel (rf o 0) x1 M (fun r3 M2 => ((r3 = 0 → (K (0 : Int32) M2)) ∧ (¬ r3 = 0 → (vp_in x1 16 ∧ (((M2 (rf (rf o 4) 0) (x1).toNatClampNeg) = (-1 : Int32) → (K (1 : Int32) M2)) ∧ (¬ (M2 (rf (rf o 4) 0) (x1).toNatClampNeg) = (-1 : Int32) → (K (0 : Int32) M2))))))))
set_option maxHeartbeats 4000000 in
set_option maxRecDepth 100000 in
theorem c_X0_canSell (l : Launch) (G : fx_G) {o : Nat} (ho : o ∈ id_Auction) {x1 : Int32} {M : Mm} {K : Int32 → Mm → Prop} (hT : T_X0_canSell o x1 M K) : Met l yX0_canSell (fx_ws yX0_canSell cX0_canSell 2 (some .boolean)) (fx_rm (1)) (va_Pc [.ref (G.2.2.2 + o), .int x1] (fx_P G SH M)) (va_Qi K (fx_R G SH) (fx_A G)) 0 0 (fx_A G) := by
  refine fx_met (own := RX0) (by decide +kernel) rfl (Nat.le_of_ble_eq_true rfl) (fun p e s m below meth c X hr hk h ls hl => ?_)
  obtain ⟨⟨hx, hb, hml, hown, hts⟩, hK, hQ⟩ := id X
  have hl : lv_has ls 2 [(0, .ref (G.2.2.2 + o)), (1, .int x1)] := hl
  unfold T_X0_canSell at hT
  refine lv_aload_n hx hb dX0_canSell_0 rfl (lv_at hl 0 rfl) ?_
  refine fx_getR X h (k := o) (j := 0) (r := (rf o 0)) (sc_Auction o ho) rfl fl_RX0_27 dX0_canSell_1 ?_
  refine lv_iload_n hx hb dX0_canSell_4 rfl (lv_at hl 1 rfl) ?_
  refine fx_vi X h ym_X1_hasParcel yi_X1_hasParcel ys_X1_hasParcel (fx_s3 (List.mem_of_getElem? (i := 103) rfl) rfl) (sc_Cast (rf o 0) (sm_Auction_0 o ho)) rfl (c_X1_hasParcel l G (sm_Auction_0 o ho) hT) (As := [.int x1]) (rest := []) rfl rfl ⟨Nat.le_of_ble_eq_true rfl, Nat.le_of_ble_eq_true rfl⟩ ⟨Nat.le_refl _, Nat.le_refl _⟩ hl.1 (Nat.le_of_ble_eq_true rfl) dX0_canSell_5 (fun r3 M2 H locs hT h => ?_)
  refine lv_if_eq (tgt := 28) hx hb dX0_canSell_8 (by decide) (fun hc4 => ?_) (fun hc4 => ?_)
  · have hT := hT.1 hc4
    refine lv_iconst (v := 0) hx hb dX0_canSell_28 (by decide) ?_
    exact fx_zret X hr hk h (Or.inl rfl) hT dX0_canSell_29
  · have hT := hT.2 hc4
    refine lv_aload_n hx hb dX0_canSell_11 rfl (lv_at hl 0 rfl) ?_
    refine fx_getR X h (k := o) (j := 4) (r := (rf o 4)) (sc_Auction o ho) rfl fl_RX0_43 dX0_canSell_12 ?_
    refine fx_getR X h (k := (rf o 4)) (j := 0) (r := (rf (rf o 4) 0)) (sc_Quay (rf o 4) (sm_Auction_4 o ho)) rfl fl_RX0_98 dX0_canSell_15 ?_
    refine lv_iload_n hx hb dX0_canSell_18 rfl (lv_at hl 1 rfl) ?_
    obtain ⟨hi5, hT⟩ := hT
    refine fx_iald X h (k := (rf (rf o 4) 0)) (sa_Quay_0 (rf o 4) (sm_Auction_4 o ho)) hi5 dX0_canSell_19 ?_
    refine lv_iconst (v := -1) hx hb dX0_canSell_20 (by decide) ?_
    refine lv_icmp_ne (tgt := 28) hx hb dX0_canSell_21 (by decide) (fun hc6 => ?_) (fun hc6 => ?_)
    · have hT := hT.2 hc6
      refine lv_iconst (v := 0) hx hb dX0_canSell_28 (by decide) ?_
      exact fx_zret X hr hk h (Or.inl rfl) hT dX0_canSell_29
    · have hT := hT.1 hc6
      refine lv_iconst (v := 1) hx hb dX0_canSell_24 (by decide) ?_
      refine lv_goto (tgt := 29) hx hb dX0_canSell_25 (by decide) ?_
      exact fx_zret X hr hk h (Or.inr rfl) hT dX0_canSell_29
/-! MockParcels$Auction.isHeldBack(I)Z -/
theorem dX0_isHeldBack_0 : decode cX0_isHeldBack 0 = .ok (.aload_n 0, 1) := by decide +kernel
theorem dX0_isHeldBack_1 : decode cX0_isHeldBack 1 = .ok (.getfield 9, 3) := by decide +kernel
theorem dX0_isHeldBack_4 : decode cX0_isHeldBack 4 = .ok (.iconst (-1), 1) := by decide +kernel
theorem dX0_isHeldBack_5 : decode cX0_isHeldBack 5 = .ok (.if_icmp .eq 23, 3) := by decide +kernel
theorem dX0_isHeldBack_8 : decode cX0_isHeldBack 8 = .ok (.aload_n 0, 1) := by decide +kernel
theorem dX0_isHeldBack_9 : decode cX0_isHeldBack 9 = .ok (.getfield 37, 3) := by decide +kernel
theorem dX0_isHeldBack_12 : decode cX0_isHeldBack 12 = .ok (.getfield 111, 3) := by decide +kernel
theorem dX0_isHeldBack_15 : decode cX0_isHeldBack 15 = .ok (.iload_n 1, 1) := by decide +kernel
theorem dX0_isHeldBack_16 : decode cX0_isHeldBack 16 = .ok (.iaload, 1) := by decide +kernel
theorem dX0_isHeldBack_17 : decode cX0_isHeldBack 17 = .ok (.aload_n 0, 1) := by decide +kernel
theorem dX0_isHeldBack_18 : decode cX0_isHeldBack 18 = .ok (.getfield 9, 3) := by decide +kernel
theorem dX0_isHeldBack_21 : decode cX0_isHeldBack 21 = .ok (.if_icmp .ne 7, 3) := by decide +kernel
theorem dX0_isHeldBack_24 : decode cX0_isHeldBack 24 = .ok (.iconst 1, 1) := by decide +kernel
theorem dX0_isHeldBack_25 : decode cX0_isHeldBack 25 = .ok (.goto 4, 3) := by decide +kernel
theorem dX0_isHeldBack_28 : decode cX0_isHeldBack 28 = .ok (.iconst 0, 1) := by decide +kernel
theorem dX0_isHeldBack_29 : decode cX0_isHeldBack 29 = .ok (.ireturn, 1) := by decide +kernel
def T_X0_isHeldBack (o : Nat) (x1 : Int32) (M : Mm) (K : Int32 → Mm → Prop) : Prop := (((M o 6) = (-1 : Int32) → (K (0 : Int32) M)) ∧ (¬ (M o 6) = (-1 : Int32) → (vp_in x1 8 ∧ (((M (rf (rf o 2) 0) (x1).toNatClampNeg) = (M o 6) → (K (1 : Int32) M)) ∧ (¬ (M (rf (rf o 2) 0) (x1).toNatClampNeg) = (M o 6) → (K (0 : Int32) M))))))
set_option maxHeartbeats 4000000 in
set_option maxRecDepth 100000 in
theorem c_X0_isHeldBack (l : Launch) (G : fx_G) {o : Nat} (ho : o ∈ id_Auction) {x1 : Int32} {M : Mm} {K : Int32 → Mm → Prop} (hT : T_X0_isHeldBack o x1 M K) : Met l yX0_isHeldBack (fx_ws yX0_isHeldBack cX0_isHeldBack 2 (some .boolean)) (fx_rm (0)) (va_Pc [.ref (G.2.2.2 + o), .int x1] (fx_P G SH M)) (va_Qi K (fx_R G SH) (fx_A G)) 0 0 (fx_A G) := by
  refine fx_met (own := RX0) (by decide +kernel) rfl (Nat.le_of_ble_eq_true rfl) (fun p e s m below meth c X hr hk h ls hl => ?_)
  obtain ⟨⟨hx, hb, hml, hown, hts⟩, hK, hQ⟩ := id X
  have hl : lv_has ls 2 [(0, .ref (G.2.2.2 + o)), (1, .int x1)] := hl
  unfold T_X0_isHeldBack at hT
  refine lv_aload_n hx hb dX0_isHeldBack_0 rfl (lv_at hl 0 rfl) ?_
  refine fx_getI X h (k := o) (j := 6) (sc_Auction o ho) rfl fl_RX0_9 dX0_isHeldBack_1 ?_
  refine lv_iconst (v := -1) hx hb dX0_isHeldBack_4 (by decide) ?_
  refine lv_icmp_eq (tgt := 28) hx hb dX0_isHeldBack_5 (by decide) (fun hc1 => ?_) (fun hc1 => ?_)
  · have hT := hT.1 hc1
    refine lv_iconst (v := 0) hx hb dX0_isHeldBack_28 (by decide) ?_
    exact fx_zret X hr hk h (Or.inl rfl) hT dX0_isHeldBack_29
  · have hT := hT.2 hc1
    refine lv_aload_n hx hb dX0_isHeldBack_8 rfl (lv_at hl 0 rfl) ?_
    refine fx_getR X h (k := o) (j := 2) (r := (rf o 2)) (sc_Auction o ho) rfl fl_RX0_37 dX0_isHeldBack_9 ?_
    refine fx_getR X h (k := (rf o 2)) (j := 0) (r := (rf (rf o 2) 0)) (sc_Plans (rf o 2) (sm_Auction_2 o ho)) rfl fl_RX0_111 dX0_isHeldBack_12 ?_
    refine lv_iload_n hx hb dX0_isHeldBack_15 rfl (lv_at hl 1 rfl) ?_
    obtain ⟨hi2, hT⟩ := hT
    refine fx_iald X h (k := (rf (rf o 2) 0)) (sa_Plans_0 (rf o 2) (sm_Auction_2 o ho)) hi2 dX0_isHeldBack_16 ?_
    refine lv_aload_n hx hb dX0_isHeldBack_17 rfl (lv_at hl 0 rfl) ?_
    refine fx_getI X h (k := o) (j := 6) (sc_Auction o ho) rfl fl_RX0_9 dX0_isHeldBack_18 ?_
    refine lv_icmp_ne (tgt := 28) hx hb dX0_isHeldBack_21 (by decide) (fun hc3 => ?_) (fun hc3 => ?_)
    · have hT := hT.2 hc3
      refine lv_iconst (v := 0) hx hb dX0_isHeldBack_28 (by decide) ?_
      exact fx_zret X hr hk h (Or.inl rfl) hT dX0_isHeldBack_29
    · have hT := hT.1 hc3
      refine lv_iconst (v := 1) hx hb dX0_isHeldBack_24 (by decide) ?_
      refine lv_goto (tgt := 29) hx hb dX0_isHeldBack_25 (by decide) ?_
      exact fx_zret X hr hk h (Or.inr rfl) hT dX0_isHeldBack_29
/-! MockParcels$Auction.note(III)V -/
theorem dX0_note_0 : decode cX0_note 0 = .ok (.aload_n 0, 1) := by decide +kernel
theorem dX0_note_1 : decode cX0_note 1 = .ok (.getfield 47, 3) := by decide +kernel
theorem dX0_note_4 : decode cX0_note 4 = .ok (.ifCond .ne 26, 3) := by decide +kernel
theorem dX0_note_7 : decode cX0_note 7 = .ok (.aload_n 0, 1) := by decide +kernel
theorem dX0_note_8 : decode cX0_note 8 = .ok (.getfield 43, 3) := by decide +kernel
theorem dX0_note_11 : decode cX0_note 11 = .ok (.getfield 204, 3) := by decide +kernel
theorem dX0_note_14 : decode cX0_note 14 = .ok (.ifCond .lt 16, 3) := by decide +kernel
theorem dX0_note_17 : decode cX0_note 17 = .ok (.aload_n 0, 1) := by decide +kernel
theorem dX0_note_18 : decode cX0_note 18 = .ok (.getfield 43, 3) := by decide +kernel
theorem dX0_note_21 : decode cX0_note 21 = .ok (.getfield 204, 3) := by decide +kernel
theorem dX0_note_24 : decode cX0_note 24 = .ok (.sipush 150, 3) := by decide +kernel
theorem dX0_note_27 : decode cX0_note 27 = .ok (.if_icmp .lt 4, 3) := by decide +kernel
theorem dX0_note_30 : decode cX0_note 30 = .ok (.return_, 1) := by decide +kernel
theorem dX0_note_31 : decode cX0_note 31 = .ok (.aload_n 0, 1) := by decide +kernel
theorem dX0_note_32 : decode cX0_note 32 = .ok (.getfield 43, 3) := by decide +kernel
theorem dX0_note_35 : decode cX0_note 35 = .ok (.getfield 204, 3) := by decide +kernel
theorem dX0_note_38 : decode cX0_note 38 = .ok (.iconst 4, 1) := by decide +kernel
theorem dX0_note_39 : decode cX0_note 39 = .ok (.imul, 1) := by decide +kernel
theorem dX0_note_40 : decode cX0_note 40 = .ok (.istore 4, 2) := by decide +kernel
theorem dX0_note_42 : decode cX0_note 42 = .ok (.aload_n 0, 1) := by decide +kernel
theorem dX0_note_43 : decode cX0_note 43 = .ok (.getfield 42, 3) := by decide +kernel
theorem dX0_note_46 : decode cX0_note 46 = .ok (.iload 4, 2) := by decide +kernel
theorem dX0_note_48 : decode cX0_note 48 = .ok (.aload_n 0, 1) := by decide +kernel
theorem dX0_note_49 : decode cX0_note 49 = .ok (.getfield 43, 3) := by decide +kernel
theorem dX0_note_52 : decode cX0_note 52 = .ok (.getfield 95, 3) := by decide +kernel
theorem dX0_note_55 : decode cX0_note 55 = .ok (.iastore, 1) := by decide +kernel
theorem dX0_note_56 : decode cX0_note 56 = .ok (.aload_n 0, 1) := by decide +kernel
theorem dX0_note_57 : decode cX0_note 57 = .ok (.getfield 42, 3) := by decide +kernel
theorem dX0_note_60 : decode cX0_note 60 = .ok (.iload 4, 2) := by decide +kernel
theorem dX0_note_62 : decode cX0_note 62 = .ok (.iconst 1, 1) := by decide +kernel
theorem dX0_note_63 : decode cX0_note 63 = .ok (.iadd, 1) := by decide +kernel
theorem dX0_note_64 : decode cX0_note 64 = .ok (.iload_n 1, 1) := by decide +kernel
theorem dX0_note_65 : decode cX0_note 65 = .ok (.iastore, 1) := by decide +kernel
theorem dX0_note_66 : decode cX0_note 66 = .ok (.aload_n 0, 1) := by decide +kernel
theorem dX0_note_67 : decode cX0_note 67 = .ok (.getfield 42, 3) := by decide +kernel
theorem dX0_note_70 : decode cX0_note 70 = .ok (.iload 4, 2) := by decide +kernel
theorem dX0_note_72 : decode cX0_note 72 = .ok (.iconst 2, 1) := by decide +kernel
theorem dX0_note_73 : decode cX0_note 73 = .ok (.iadd, 1) := by decide +kernel
theorem dX0_note_74 : decode cX0_note 74 = .ok (.iload_n 2, 1) := by decide +kernel
theorem dX0_note_75 : decode cX0_note 75 = .ok (.iastore, 1) := by decide +kernel
theorem dX0_note_76 : decode cX0_note 76 = .ok (.aload_n 0, 1) := by decide +kernel
theorem dX0_note_77 : decode cX0_note 77 = .ok (.getfield 42, 3) := by decide +kernel
theorem dX0_note_80 : decode cX0_note 80 = .ok (.iload 4, 2) := by decide +kernel
theorem dX0_note_82 : decode cX0_note 82 = .ok (.iconst 3, 1) := by decide +kernel
theorem dX0_note_83 : decode cX0_note 83 = .ok (.iadd, 1) := by decide +kernel
theorem dX0_note_84 : decode cX0_note 84 = .ok (.iload_n 3, 1) := by decide +kernel
theorem dX0_note_85 : decode cX0_note 85 = .ok (.iastore, 1) := by decide +kernel
theorem dX0_note_86 : decode cX0_note 86 = .ok (.aload_n 0, 1) := by decide +kernel
theorem dX0_note_87 : decode cX0_note 87 = .ok (.getfield 43, 3) := by decide +kernel
theorem dX0_note_90 : decode cX0_note 90 = .ok (.dup, 1) := by decide +kernel
theorem dX0_note_91 : decode cX0_note 91 = .ok (.getfield 204, 3) := by decide +kernel
theorem dX0_note_94 : decode cX0_note 94 = .ok (.iconst 1, 1) := by decide +kernel
theorem dX0_note_95 : decode cX0_note 95 = .ok (.iadd, 1) := by decide +kernel
theorem dX0_note_96 : decode cX0_note 96 = .ok (.putfield 204, 3) := by decide +kernel
theorem dX0_note_99 : decode cX0_note 99 = .ok (.return_, 1) := by decide +kernel
def T_X0_note (o : Nat) (x1 : Int32) (x2 : Int32) (x3 : Int32) (M : Mm) (K : Mm → Prop) : Prop := (((M o 5) = 0 → (((M (rf o 4) 12) < 0 → (K M)) ∧ (¬ (M (rf o 4) 12) < 0 → (((M (rf o 4) 12) < (150 : Int32) → (∀ y4 : Int32, y4 = ((M (rf o 4) 12) * (4 : Int32)) → (vp_in y4 600 ∧ (∀ M5 : Mm, M5 = m_up M (rf o 3) (y4).toNatClampNeg (M (rf o 4) 10) → (vp_in (y4 + (1 : Int32)) 600 ∧ (∀ M7 : Mm, M7 = m_up M5 (rf o 3) ((y4 + (1 : Int32))).toNatClampNeg x1 → (vp_in (y4 + (2 : Int32)) 600 ∧ (∀ M9 : Mm, M9 = m_up M7 (rf o 3) ((y4 + (2 : Int32))).toNatClampNeg x2 → (vp_in (y4 + (3 : Int32)) 600 ∧ (∀ M11 : Mm, M11 = m_up M9 (rf o 3) ((y4 + (3 : Int32))).toNatClampNeg x3 → (∀ M13 : Mm, M13 = m_up M11 (rf o 4) 12 ((M11 (rf o 4) 12) + (1 : Int32)) → (K M13)))))))))))) ∧ (¬ (M (rf o 4) 12) < (150 : Int32) → (K M)))))) ∧ (¬ (M o 5) = 0 → (K M)))
set_option maxHeartbeats 4000000 in
set_option maxRecDepth 100000 in
theorem c_X0_note (l : Launch) (G : fx_G) {o : Nat} (ho : o ∈ id_Auction) {x1 : Int32} {x2 : Int32} {x3 : Int32} {M : Mm} {K : Mm → Prop} (hT : T_X0_note o x1 x2 x3 M K) : Met l yX0_note (fx_ws yX0_note cX0_note 5 none) (fx_rm (0)) (va_Pc [.ref (G.2.2.2 + o), .int x1, .int x2, .int x3] (fx_P G SH M)) (va_Qv K (fx_R G SH) (fx_A G)) 0 0 (fx_A G) := by
  refine fx_met (own := RX0) (by decide +kernel) rfl (Nat.le_of_ble_eq_true rfl) (fun p e s m below meth c X hr hk h ls hl => ?_)
  obtain ⟨⟨hx, hb, hml, hown, hts⟩, hK, hQ⟩ := id X
  have hl : lv_has ls 5 [(0, .ref (G.2.2.2 + o)), (1, .int x1), (2, .int x2), (3, .int x3)] := hl
  unfold T_X0_note at hT
  refine lv_aload_n hx hb dX0_note_0 rfl (lv_at hl 0 rfl) ?_
  refine fx_getI X h (k := o) (j := 5) (sc_Auction o ho) rfl fl_RX0_47 dX0_note_1 ?_
  refine lv_if_ne (tgt := 30) hx hb dX0_note_4 (by decide) (fun hc1 => ?_) (fun hc1 => ?_)
  · have hT := hT.2 hc1
    exact fx_vret X hr hk h hT dX0_note_30
  · have hT := hT.1 hc1
    refine lv_aload_n hx hb dX0_note_7 rfl (lv_at hl 0 rfl) ?_
    refine fx_getR X h (k := o) (j := 4) (r := (rf o 4)) (sc_Auction o ho) rfl fl_RX0_43 dX0_note_8 ?_
    refine fx_getI X h (k := (rf o 4)) (j := 12) (sc_Quay (rf o 4) (sm_Auction_4 o ho)) rfl fl_RX0_204 dX0_note_11 ?_
    refine lv_if_lt (tgt := 30) hx hb dX0_note_14 (by decide) (fun hc2 => ?_) (fun hc2 => ?_)
    · have hT := hT.1 hc2
      exact fx_vret X hr hk h hT dX0_note_30
    · have hT := hT.2 hc2
      refine lv_aload_n hx hb dX0_note_17 rfl (lv_at hl 0 rfl) ?_
      refine fx_getR X h (k := o) (j := 4) (r := (rf o 4)) (sc_Auction o ho) rfl fl_RX0_43 dX0_note_18 ?_
      refine fx_getI X h (k := (rf o 4)) (j := 12) (sc_Quay (rf o 4) (sm_Auction_4 o ho)) rfl fl_RX0_204 dX0_note_21 ?_
      refine lv_sipush (v := 150) hx hb dX0_note_24 (by decide) ?_
      refine lv_icmp_lt (tgt := 31) hx hb dX0_note_27 (by decide) (fun hc3 => ?_) (fun hc3 => ?_)
      · have hT := hT.1 hc3
        refine lv_aload_n hx hb dX0_note_31 rfl (lv_at hl 0 rfl) ?_
        refine fx_getR X h (k := o) (j := 4) (r := (rf o 4)) (sc_Auction o ho) rfl fl_RX0_43 dX0_note_32 ?_
        refine fx_getI X h (k := (rf o 4)) (j := 12) (sc_Quay (rf o 4) (sm_Auction_4 o ho)) rfl fl_RX0_204 dX0_note_35 ?_
        refine lv_iconst (v := 4) hx hb dX0_note_38 (by decide) ?_
        refine lv_imul hx hb dX0_note_39 ?_
        refine lv_topi (fun y4 ey4 => ?_)
        have hT := hT y4 ey4
        refine lv_istore (lv' := [(4, .int y4), (0, .ref (G.2.2.2 + o)), (1, .int x1), (2, .int x2), (3, .int x3)]) hx hb dX0_note_40 hl (by decide) rfl (fun ls hl => ?_)
        refine lv_aload_n hx hb dX0_note_42 rfl (lv_at hl 1 rfl) ?_
        refine fx_getR X h (k := o) (j := 3) (r := (rf o 3)) (sc_Auction o ho) rfl fl_RX0_42 dX0_note_43 ?_
        refine lv_iload hx hb dX0_note_46 (lv_at hl 0 rfl) ?_
        refine lv_aload_n hx hb dX0_note_48 rfl (lv_at hl 1 rfl) ?_
        refine fx_getR X h (k := o) (j := 4) (r := (rf o 4)) (sc_Auction o ho) rfl fl_RX0_43 dX0_note_49 ?_
        refine fx_getI X h (k := (rf o 4)) (j := 10) (sc_Quay (rf o 4) (sm_Auction_4 o ho)) rfl fl_RX0_95 dX0_note_52 ?_
        obtain ⟨hi6, hT⟩ := hT
        refine fx_iast X h (k := (rf o 3)) (sa_Auction_3 o ho) hi6 dX0_note_55 (fun H locs h => ?_)
        obtain ⟨M5, eM5⟩ : ∃ z : Mm, z = m_up M (rf o 3) (y4).toNatClampNeg (M (rf o 4) 10) := ⟨_, rfl⟩
        have hT := hT M5 eM5
        rw [← eM5] at h
        refine lv_aload_n hx hb dX0_note_56 rfl (lv_at hl 1 rfl) ?_
        refine fx_getR X h (k := o) (j := 3) (r := (rf o 3)) (sc_Auction o ho) rfl fl_RX0_42 dX0_note_57 ?_
        refine lv_iload hx hb dX0_note_60 (lv_at hl 0 rfl) ?_
        refine lv_iconst (v := 1) hx hb dX0_note_62 (by decide) ?_
        refine lv_iadd hx hb dX0_note_63 ?_
        refine lv_iload_n hx hb dX0_note_64 rfl (lv_at hl 2 rfl) ?_
        obtain ⟨hi8, hT⟩ := hT
        refine fx_iast X h (k := (rf o 3)) (sa_Auction_3 o ho) hi8 dX0_note_65 (fun H locs h => ?_)
        obtain ⟨M7, eM7⟩ : ∃ z : Mm, z = m_up M5 (rf o 3) ((y4 + (1 : Int32))).toNatClampNeg x1 := ⟨_, rfl⟩
        have hT := hT M7 eM7
        rw [← eM7] at h
        refine lv_aload_n hx hb dX0_note_66 rfl (lv_at hl 1 rfl) ?_
        refine fx_getR X h (k := o) (j := 3) (r := (rf o 3)) (sc_Auction o ho) rfl fl_RX0_42 dX0_note_67 ?_
        refine lv_iload hx hb dX0_note_70 (lv_at hl 0 rfl) ?_
        refine lv_iconst (v := 2) hx hb dX0_note_72 (by decide) ?_
        refine lv_iadd hx hb dX0_note_73 ?_
        refine lv_iload_n hx hb dX0_note_74 rfl (lv_at hl 3 rfl) ?_
        obtain ⟨hi10, hT⟩ := hT
        refine fx_iast X h (k := (rf o 3)) (sa_Auction_3 o ho) hi10 dX0_note_75 (fun H locs h => ?_)
        obtain ⟨M9, eM9⟩ : ∃ z : Mm, z = m_up M7 (rf o 3) ((y4 + (2 : Int32))).toNatClampNeg x2 := ⟨_, rfl⟩
        have hT := hT M9 eM9
        rw [← eM9] at h
        refine lv_aload_n hx hb dX0_note_76 rfl (lv_at hl 1 rfl) ?_
        refine fx_getR X h (k := o) (j := 3) (r := (rf o 3)) (sc_Auction o ho) rfl fl_RX0_42 dX0_note_77 ?_
        refine lv_iload hx hb dX0_note_80 (lv_at hl 0 rfl) ?_
        refine lv_iconst (v := 3) hx hb dX0_note_82 (by decide) ?_
        refine lv_iadd hx hb dX0_note_83 ?_
        refine lv_iload_n hx hb dX0_note_84 rfl (lv_at hl 4 rfl) ?_
        obtain ⟨hi12, hT⟩ := hT
        refine fx_iast X h (k := (rf o 3)) (sa_Auction_3 o ho) hi12 dX0_note_85 (fun H locs h => ?_)
        obtain ⟨M11, eM11⟩ : ∃ z : Mm, z = m_up M9 (rf o 3) ((y4 + (3 : Int32))).toNatClampNeg x3 := ⟨_, rfl⟩
        have hT := hT M11 eM11
        rw [← eM11] at h
        refine lv_aload_n hx hb dX0_note_86 rfl (lv_at hl 1 rfl) ?_
        refine fx_getR X h (k := o) (j := 4) (r := (rf o 4)) (sc_Auction o ho) rfl fl_RX0_43 dX0_note_87 ?_
        refine lv_dup hx hb dX0_note_90 rfl ?_
        refine fx_getI X h (k := (rf o 4)) (j := 12) (sc_Quay (rf o 4) (sm_Auction_4 o ho)) rfl fl_RX0_204 dX0_note_91 ?_
        refine lv_iconst (v := 1) hx hb dX0_note_94 (by decide) ?_
        refine lv_iadd hx hb dX0_note_95 ?_
        refine fx_putI X h (k := (rf o 4)) (j := 12) (sc_Quay (rf o 4) (sm_Auction_4 o ho)) rfl fl_RX0_204 dX0_note_96 (fun H locs h => ?_)
        obtain ⟨M13, eM13⟩ : ∃ z : Mm, z = m_up M11 (rf o 4) 12 ((M11 (rf o 4) 12) + (1 : Int32)) := ⟨_, rfl⟩
        have hT := hT M13 eM13
        rw [← eM13] at h
        exact fx_vret X hr hk h hT dX0_note_99
      · have hT := hT.2 hc3
        exact fx_vret X hr hk h hT dX0_note_30
/-! MockParcels$Auction.hasBid(III)Z -/
theorem dX0_hasBid_0 : decode cX0_hasBid 0 = .ok (.aload_n 0, 1) := by decide +kernel
theorem dX0_hasBid_1 : decode cX0_hasBid 1 = .ok (.iload_n 1, 1) := by decide +kernel
theorem dX0_hasBid_2 : decode cX0_hasBid 2 = .ok (.iload_n 2, 1) := by decide +kernel
theorem dX0_hasBid_3 : decode cX0_hasBid 3 = .ok (.aload_n 0, 1) := by decide +kernel
theorem dX0_hasBid_4 : decode cX0_hasBid 4 = .ok (.getfield 15, 3) := by decide +kernel
theorem dX0_hasBid_7 : decode cX0_hasBid 7 = .ok (.iload_n 3, 1) := by decide +kernel
theorem dX0_hasBid_8 : decode cX0_hasBid 8 = .ok (.invokevirtual 116, 3) := by decide +kernel
theorem dX0_hasBid_11 : decode cX0_hasBid 11 = .ok (.aload_n 0, 1) := by decide +kernel
theorem dX0_hasBid_12 : decode cX0_hasBid 12 = .ok (.getfield 32, 3) := by decide +kernel
theorem dX0_hasBid_15 : decode cX0_hasBid 15 = .ok (.sipush 256, 3) := by decide +kernel
theorem dX0_hasBid_18 : decode cX0_hasBid 18 = .ok (.invokevirtual 120, 3) := by decide +kernel
theorem dX0_hasBid_21 : decode cX0_hasBid 21 = .ok (.istore 4, 2) := by decide +kernel
theorem dX0_hasBid_23 : decode cX0_hasBid 23 = .ok (.aload_n 0, 1) := by decide +kernel
theorem dX0_hasBid_24 : decode cX0_hasBid 24 = .ok (.getfield 47, 3) := by decide +kernel
theorem dX0_hasBid_27 : decode cX0_hasBid 27 = .ok (.ifCond .eq 19, 3) := by decide +kernel
theorem dX0_hasBid_30 : decode cX0_hasBid 30 = .ok (.iload 4, 2) := by decide +kernel
theorem dX0_hasBid_32 : decode cX0_hasBid 32 = .ok (.sipush 500, 3) := by decide +kernel
theorem dX0_hasBid_35 : decode cX0_hasBid 35 = .ok (.if_icmp .lt 7, 3) := by decide +kernel
theorem dX0_hasBid_38 : decode cX0_hasBid 38 = .ok (.iconst 1, 1) := by decide +kernel
theorem dX0_hasBid_39 : decode cX0_hasBid 39 = .ok (.goto 27, 3) := by decide +kernel
theorem dX0_hasBid_42 : decode cX0_hasBid 42 = .ok (.iconst 0, 1) := by decide +kernel
theorem dX0_hasBid_43 : decode cX0_hasBid 43 = .ok (.goto 23, 3) := by decide +kernel
theorem dX0_hasBid_46 : decode cX0_hasBid 46 = .ok (.aload_n 0, 1) := by decide +kernel
theorem dX0_hasBid_47 : decode cX0_hasBid 47 = .ok (.getfield 43, 3) := by decide +kernel
theorem dX0_hasBid_50 : decode cX0_hasBid 50 = .ok (.sipush 1000, 3) := by decide +kernel
theorem dX0_hasBid_53 : decode cX0_hasBid 53 = .ok (.invokevirtual 123, 3) := by decide +kernel
theorem dX0_hasBid_56 : decode cX0_hasBid 56 = .ok (.iload 4, 2) := by decide +kernel
theorem dX0_hasBid_58 : decode cX0_hasBid 58 = .ok (.if_icmp .ge 7, 3) := by decide +kernel
theorem dX0_hasBid_61 : decode cX0_hasBid 61 = .ok (.iconst 1, 1) := by decide +kernel
theorem dX0_hasBid_62 : decode cX0_hasBid 62 = .ok (.goto 4, 3) := by decide +kernel
theorem dX0_hasBid_65 : decode cX0_hasBid 65 = .ok (.iconst 0, 1) := by decide +kernel
theorem dX0_hasBid_66 : decode cX0_hasBid 66 = .ok (.istore 5, 2) := by decide +kernel
theorem dX0_hasBid_68 : decode cX0_hasBid 68 = .ok (.iload 5, 2) := by decide +kernel
theorem dX0_hasBid_70 : decode cX0_hasBid 70 = .ok (.ifCond .ne 5, 3) := by decide +kernel
theorem dX0_hasBid_73 : decode cX0_hasBid 73 = .ok (.iconst 0, 1) := by decide +kernel
theorem dX0_hasBid_74 : decode cX0_hasBid 74 = .ok (.ireturn, 1) := by decide +kernel
theorem dX0_hasBid_75 : decode cX0_hasBid 75 = .ok (.aload_n 0, 1) := by decide +kernel
theorem dX0_hasBid_76 : decode cX0_hasBid 76 = .ok (.getfield 15, 3) := by decide +kernel
theorem dX0_hasBid_79 : decode cX0_hasBid 79 = .ok (.aload_n 0, 1) := by decide +kernel
theorem dX0_hasBid_80 : decode cX0_hasBid 80 = .ok (.getfield 32, 3) := by decide +kernel
theorem dX0_hasBid_83 : decode cX0_hasBid 83 = .ok (.sipush 257, 3) := by decide +kernel
theorem dX0_hasBid_86 : decode cX0_hasBid 86 = .ok (.invokevirtual 120, 3) := by decide +kernel
theorem dX0_hasBid_89 : decode cX0_hasBid 89 = .ok (.iadd, 1) := by decide +kernel
theorem dX0_hasBid_90 : decode cX0_hasBid 90 = .ok (.istore 6, 2) := by decide +kernel
theorem dX0_hasBid_92 : decode cX0_hasBid 92 = .ok (.iload 6, 2) := by decide +kernel
theorem dX0_hasBid_94 : decode cX0_hasBid 94 = .ok (.aload_n 0, 1) := by decide +kernel
theorem dX0_hasBid_95 : decode cX0_hasBid 95 = .ok (.getfield 43, 3) := by decide +kernel
theorem dX0_hasBid_98 : decode cX0_hasBid 98 = .ok (.getfield 80, 3) := by decide +kernel
theorem dX0_hasBid_101 : decode cX0_hasBid 101 = .ok (.iload_n 2, 1) := by decide +kernel
theorem dX0_hasBid_102 : decode cX0_hasBid 102 = .ok (.iaload, 1) := by decide +kernel
theorem dX0_hasBid_103 : decode cX0_hasBid 103 = .ok (.if_icmp .le 17, 3) := by decide +kernel
theorem dX0_hasBid_106 : decode cX0_hasBid 106 = .ok (.aload_n 0, 1) := by decide +kernel
theorem dX0_hasBid_107 : decode cX0_hasBid 107 = .ok (.getfield 27, 3) := by decide +kernel
theorem dX0_hasBid_110 : decode cX0_hasBid 110 = .ok (.getfield 77, 3) := by decide +kernel
theorem dX0_hasBid_113 : decode cX0_hasBid 113 = .ok (.iload_n 2, 1) := by decide +kernel
theorem dX0_hasBid_114 : decode cX0_hasBid 114 = .ok (.iaload, 1) := by decide +kernel
theorem dX0_hasBid_115 : decode cX0_hasBid 115 = .ok (.ifCond .ne 5, 3) := by decide +kernel
theorem dX0_hasBid_118 : decode cX0_hasBid 118 = .ok (.iconst 0, 1) := by decide +kernel
theorem dX0_hasBid_119 : decode cX0_hasBid 119 = .ok (.ireturn, 1) := by decide +kernel
theorem dX0_hasBid_120 : decode cX0_hasBid 120 = .ok (.aload_n 0, 1) := by decide +kernel
theorem dX0_hasBid_121 : decode cX0_hasBid 121 = .ok (.iload 6, 2) := by decide +kernel
theorem dX0_hasBid_123 : decode cX0_hasBid 123 = .ok (.putfield 15, 3) := by decide +kernel
theorem dX0_hasBid_126 : decode cX0_hasBid 126 = .ok (.aload_n 0, 1) := by decide +kernel
theorem dX0_hasBid_127 : decode cX0_hasBid 127 = .ok (.iload_n 2, 1) := by decide +kernel
theorem dX0_hasBid_128 : decode cX0_hasBid 128 = .ok (.putfield 9, 3) := by decide +kernel
theorem dX0_hasBid_131 : decode cX0_hasBid 131 = .ok (.aload_n 0, 1) := by decide +kernel
theorem dX0_hasBid_132 : decode cX0_hasBid 132 = .ok (.iconst 0, 1) := by decide +kernel
theorem dX0_hasBid_133 : decode cX0_hasBid 133 = .ok (.iload_n 2, 1) := by decide +kernel
theorem dX0_hasBid_134 : decode cX0_hasBid 134 = .ok (.iload 6, 2) := by decide +kernel
theorem dX0_hasBid_136 : decode cX0_hasBid 136 = .ok (.invokevirtual 126, 3) := by decide +kernel
theorem dX0_hasBid_139 : decode cX0_hasBid 139 = .ok (.iconst 1, 1) := by decide +kernel
theorem dX0_hasBid_140 : decode cX0_hasBid 140 = .ok (.ireturn, 1) := by decide +kernel
def T_X0_hasBid_120 (o : Nat) (x2 : Int32) (x6 : Int32) (M : Mm) (K : Int32 → Mm → Prop) : Prop := (∀ M1 : Mm, M1 = m_up M o 7 x6 → (∀ M2 : Mm, M2 = m_up M1 o 6 x2 → (T_X0_note o (0 : Int32) x2 x6 M2 (fun M4 => (K (1 : Int32) M4)))))
set_option maxHeartbeats 4000000 in
set_option maxRecDepth 100000 in
theorem w_X0_hasBid_120 {p : Program} {l : Launch} {e : Env} {s : State} {m : MethodId} {args : Array Value} {below : List Frame} {meth : Method} {c : Code} {G : fx_G} {K : Int32 → Mm → Prop} {o : Nat} (ho : o ∈ id_Auction) (X : fx_C G p s m c args cX0_hasBid 7 RX0) (hr : meth.sig.returnType = (some .boolean)) (hk : meth.locks = false) : ∀ (x2 : Int32) (x6 : Int32) (M : Mm) (H : Heap) (locs : List Loc) (ls : Array Slot), T_X0_hasBid_120 o x2 x6 M K → fx_H G SH M s H locs → lv_has ls 7 [(0, .ref (G.2.2.2 + o)), (2, .int x2), (6, .int x6)] → W p l e (fx_rm (3)) s m args below meth c H locs 0 0 (MQ below (va_Qi K (fx_R G SH) (fx_A G)) args s 0 0 (fx_A G)) (F0 m 120 ls []) := by
  obtain ⟨⟨hx, hb, hml, hown, hts⟩, hK, hQ⟩ := id X
  intro x2 x6 M H locs ls hT h hl
  unfold T_X0_hasBid_120 at hT
  refine lv_aload_n hx hb dX0_hasBid_120 rfl (lv_at hl 0 rfl) ?_
  refine lv_iload hx hb dX0_hasBid_121 (lv_at hl 2 rfl) ?_
  refine fx_putI X h (k := o) (j := 7) (sc_Auction o ho) rfl fl_RX0_15 dX0_hasBid_123 (fun H locs h => ?_)
  obtain ⟨M1, eM1⟩ : ∃ z : Mm, z = m_up M o 7 x6 := ⟨_, rfl⟩
  have hT := hT M1 eM1
  rw [← eM1] at h
  refine lv_aload_n hx hb dX0_hasBid_126 rfl (lv_at hl 0 rfl) ?_
  refine lv_iload_n hx hb dX0_hasBid_127 rfl (lv_at hl 1 rfl) ?_
  refine fx_putI X h (k := o) (j := 6) (sc_Auction o ho) rfl fl_RX0_9 dX0_hasBid_128 (fun H locs h => ?_)
  obtain ⟨M2, eM2⟩ : ∃ z : Mm, z = m_up M1 o 6 x2 := ⟨_, rfl⟩
  have hT := hT M2 eM2
  rw [← eM2] at h
  refine lv_aload_n hx hb dX0_hasBid_131 rfl (lv_at hl 0 rfl) ?_
  refine lv_iconst (v := 0) hx hb dX0_hasBid_132 (by decide) ?_
  refine lv_iload_n hx hb dX0_hasBid_133 rfl (lv_at hl 1 rfl) ?_
  refine lv_iload hx hb dX0_hasBid_134 (lv_at hl 2 rfl) ?_
  refine fx_vv X h ym_X0_note yi_X0_note ys_X0_note (fx_s3 (List.mem_of_getElem? (i := 177) rfl) rfl) (sc_Auction o ho) rfl (c_X0_note l G ho hT) (As := [.int (0 : Int32), .int x2, .int x6]) (rest := []) rfl rfl ⟨Nat.le_of_ble_eq_true rfl, Nat.le_of_ble_eq_true rfl⟩ ⟨Nat.le_refl _, Nat.le_refl _⟩ hl.1 (Nat.le_of_ble_eq_true rfl) dX0_hasBid_136 (fun M4 H locs hT h => ?_)
  refine lv_iconst (v := 1) hx hb dX0_hasBid_139 (by decide) ?_
  exact fx_zret X hr hk h (Or.inr rfl) hT dX0_hasBid_140
def T_X0_hasBid_66 (o : Nat) (x2 : Int32) (s0 : Int32) (M : Mm) (K : Int32 → Mm → Prop) : Prop := ((s0 = 0 → (K (0 : Int32) M)) ∧ (¬ s0 = 0 → (T_X2_tell (rf o 1) (257 : Int32) M (fun r8 M7 => (∀ y9 : Int32, y9 = ((M o 7) + r8) → (vp_in x2 8 ∧ ((y9 ≤ (M7 (rf (rf o 4) 3) (x2).toNatClampNeg) → (T_X0_hasBid_120 o x2 y9 M7 K)) ∧ (¬ y9 ≤ (M7 (rf (rf o 4) 3) (x2).toNatClampNeg) → (vp_in x2 8 ∧ (((M7 (rf (rf o 0) 6) (x2).toNatClampNeg) = 0 → (K (0 : Int32) M7)) ∧ (¬ (M7 (rf (rf o 0) 6) (x2).toNatClampNeg) = 0 → (T_X0_hasBid_120 o x2 y9 M7 K))))))))))))
set_option maxHeartbeats 4000000 in
set_option maxRecDepth 100000 in
theorem w_X0_hasBid_66 {p : Program} {l : Launch} {e : Env} {s : State} {m : MethodId} {args : Array Value} {below : List Frame} {meth : Method} {c : Code} {G : fx_G} {K : Int32 → Mm → Prop} {o : Nat} (ho : o ∈ id_Auction) (X : fx_C G p s m c args cX0_hasBid 7 RX0) (hr : meth.sig.returnType = (some .boolean)) (hk : meth.locks = false) : ∀ (x2 : Int32) (s0 : Int32) (M : Mm) (H : Heap) (locs : List Loc) (ls : Array Slot), T_X0_hasBid_66 o x2 s0 M K → fx_H G SH M s H locs → lv_has ls 7 [(0, .ref (G.2.2.2 + o)), (2, .int x2)] → W p l e (fx_rm (3)) s m args below meth c H locs 0 0 (MQ below (va_Qi K (fx_R G SH) (fx_A G)) args s 0 0 (fx_A G)) (F0 m 66 ls [.int s0]) := by
  obtain ⟨⟨hx, hb, hml, hown, hts⟩, hK, hQ⟩ := id X
  intro x2 s0 M H locs ls hT h hl
  unfold T_X0_hasBid_66 at hT
  refine lv_istore (lv' := [(5, .int s0), (0, .ref (G.2.2.2 + o)), (2, .int x2)]) hx hb dX0_hasBid_66 hl (by decide) rfl (fun ls hl => ?_)
  refine lv_iload hx hb dX0_hasBid_68 (lv_at hl 0 rfl) ?_
  refine lv_if_ne (tgt := 75) hx hb dX0_hasBid_70 (by decide) (fun hc5 => ?_) (fun hc5 => ?_)
  · have hT := hT.2 hc5
    refine lv_aload_n hx hb dX0_hasBid_75 rfl (lv_at hl 1 rfl) ?_
    refine fx_getI X h (k := o) (j := 7) (sc_Auction o ho) rfl fl_RX0_15 dX0_hasBid_76 ?_
    refine lv_aload_n hx hb dX0_hasBid_79 rfl (lv_at hl 1 rfl) ?_
    refine fx_getR X h (k := o) (j := 1) (r := (rf o 1)) (sc_Auction o ho) rfl fl_RX0_32 dX0_hasBid_80 ?_
    refine lv_sipush (v := 257) hx hb dX0_hasBid_83 (by decide) ?_
    refine fx_vi X h ym_X2_tell yi_X2_tell ys_X2_tell (fx_s3 (List.mem_of_getElem? (i := 141) rfl) rfl) (sc_Law (rf o 1) (sm_Auction_1 o ho)) rfl (c_X2_tell l G (sm_Auction_1 o ho) hT) (As := [.int (257 : Int32)]) (rest := [.int (M o 7)]) rfl rfl ⟨Nat.le_of_ble_eq_true rfl, Nat.le_of_ble_eq_true rfl⟩ ⟨Nat.le_refl _, Nat.le_refl _⟩ hl.1 (Nat.le_of_ble_eq_true rfl) dX0_hasBid_86 (fun r8 M7 H locs hT h => ?_)
    refine lv_iadd hx hb dX0_hasBid_89 ?_
    refine lv_topi (fun y9 ey9 => ?_)
    have hT := hT y9 ey9
    refine lv_istore (lv' := [(6, .int y9), (5, .int s0), (0, .ref (G.2.2.2 + o)), (2, .int x2)]) hx hb dX0_hasBid_90 hl (by decide) rfl (fun ls hl => ?_)
    refine lv_iload hx hb dX0_hasBid_92 (lv_at hl 0 rfl) ?_
    refine lv_aload_n hx hb dX0_hasBid_94 rfl (lv_at hl 2 rfl) ?_
    refine fx_getR X h (k := o) (j := 4) (r := (rf o 4)) (sc_Auction o ho) rfl fl_RX0_43 dX0_hasBid_95 ?_
    refine fx_getR X h (k := (rf o 4)) (j := 3) (r := (rf (rf o 4) 3)) (sc_Quay (rf o 4) (sm_Auction_4 o ho)) rfl fl_RX0_80 dX0_hasBid_98 ?_
    refine lv_iload_n hx hb dX0_hasBid_101 rfl (lv_at hl 3 rfl) ?_
    obtain ⟨hi10, hT⟩ := hT
    refine fx_iald X h (k := (rf (rf o 4) 3)) (sa_Quay_3 (rf o 4) (sm_Auction_4 o ho)) hi10 dX0_hasBid_102 ?_
    refine lv_icmp_le (tgt := 120) hx hb dX0_hasBid_103 (by decide) (fun hc11 => ?_) (fun hc11 => ?_)
    · have hT := hT.1 hc11
      exact w_X0_hasBid_120 ho X hr hk x2 y9 M7 _ _ ls hT h (lv_sub hl [2, 3, 0] rfl)
    · have hT := hT.2 hc11
      refine lv_aload_n hx hb dX0_hasBid_106 rfl (lv_at hl 2 rfl) ?_
      refine fx_getR X h (k := o) (j := 0) (r := (rf o 0)) (sc_Auction o ho) rfl fl_RX0_27 dX0_hasBid_107 ?_
      refine fx_getR X h (k := (rf o 0)) (j := 6) (r := (rf (rf o 0) 6)) (sc_Cast (rf o 0) (sm_Auction_0 o ho)) rfl fl_RX0_77 dX0_hasBid_110 ?_
      refine lv_iload_n hx hb dX0_hasBid_113 rfl (lv_at hl 3 rfl) ?_
      obtain ⟨hi12, hT⟩ := hT
      refine fx_iald X h (k := (rf (rf o 0) 6)) (sa_Cast_6 (rf o 0) (sm_Auction_0 o ho)) hi12 dX0_hasBid_114 ?_
      refine lv_if_ne (tgt := 120) hx hb dX0_hasBid_115 (by decide) (fun hc13 => ?_) (fun hc13 => ?_)
      · have hT := hT.2 hc13
        exact w_X0_hasBid_120 ho X hr hk x2 y9 M7 _ _ ls hT h (lv_sub hl [2, 3, 0] rfl)
      · have hT := hT.1 hc13
        refine lv_iconst (v := 0) hx hb dX0_hasBid_118 (by decide) ?_
        exact fx_zret X hr hk h (Or.inl rfl) hT dX0_hasBid_119
  · have hT := hT.1 hc5
    refine lv_iconst (v := 0) hx hb dX0_hasBid_73 (by decide) ?_
    exact fx_zret X hr hk h (Or.inl rfl) hT dX0_hasBid_74
def T_X0_hasBid (o : Nat) (x1 : Int32) (x2 : Int32) (x3 : Int32) (M : Mm) (K : Int32 → Mm → Prop) : Prop := (T_X0_setScene o x1 x2 (M o 7) x3 M (fun M15 => (T_X2_tell (rf o 1) (256 : Int32) M15 (fun r18 M17 => (((M17 o 5) = 0 → (T_X6_draw (rf o 4) (1000 : Int32) M17 (fun r22 M21 => ((r18 ≤ r22 → (T_X0_hasBid_66 o x2 (0 : Int32) M21 K)) ∧ (¬ r18 ≤ r22 → (T_X0_hasBid_66 o x2 (1 : Int32) M21 K)))))) ∧ (¬ (M17 o 5) = 0 → ((r18 < (500 : Int32) → (T_X0_hasBid_66 o x2 (0 : Int32) M17 K)) ∧ (¬ r18 < (500 : Int32) → (T_X0_hasBid_66 o x2 (1 : Int32) M17 K)))))))))
set_option maxHeartbeats 4000000 in
set_option maxRecDepth 100000 in
theorem c_X0_hasBid (l : Launch) (G : fx_G) {o : Nat} (ho : o ∈ id_Auction) {x1 : Int32} {x2 : Int32} {x3 : Int32} {M : Mm} {K : Int32 → Mm → Prop} (hT : T_X0_hasBid o x1 x2 x3 M K) : Met l yX0_hasBid (fx_ws yX0_hasBid cX0_hasBid 7 (some .boolean)) (fx_rm (3)) (va_Pc [.ref (G.2.2.2 + o), .int x1, .int x2, .int x3] (fx_P G SH M)) (va_Qi K (fx_R G SH) (fx_A G)) 0 0 (fx_A G) := by
  refine fx_met (own := RX0) (by decide +kernel) rfl (Nat.le_of_ble_eq_true rfl) (fun p e s m below meth c X hr hk h ls hl => ?_)
  obtain ⟨⟨hx, hb, hml, hown, hts⟩, hK, hQ⟩ := id X
  have hl : lv_has ls 7 [(0, .ref (G.2.2.2 + o)), (1, .int x1), (2, .int x2), (3, .int x3)] := hl
  unfold T_X0_hasBid at hT
  refine lv_aload_n hx hb dX0_hasBid_0 rfl (lv_at hl 0 rfl) ?_
  refine lv_iload_n hx hb dX0_hasBid_1 rfl (lv_at hl 1 rfl) ?_
  refine lv_iload_n hx hb dX0_hasBid_2 rfl (lv_at hl 2 rfl) ?_
  refine lv_aload_n hx hb dX0_hasBid_3 rfl (lv_at hl 0 rfl) ?_
  refine fx_getI X h (k := o) (j := 7) (sc_Auction o ho) rfl fl_RX0_15 dX0_hasBid_4 ?_
  refine lv_iload_n hx hb dX0_hasBid_7 rfl (lv_at hl 3 rfl) ?_
  refine fx_vv X h ym_X0_setScene yi_X0_setScene ys_X0_setScene (fx_s3 (List.mem_of_getElem? (i := 132) rfl) rfl) (sc_Auction o ho) rfl (c_X0_setScene l G ho hT) (As := [.int x1, .int x2, .int (M o 7), .int x3]) (rest := []) rfl rfl ⟨Nat.le_of_ble_eq_true rfl, Nat.le_of_ble_eq_true rfl⟩ ⟨Nat.le_refl _, Nat.le_refl _⟩ hl.1 (Nat.le_of_ble_eq_true rfl) dX0_hasBid_8 (fun M15 H locs hT h => ?_)
  refine lv_aload_n hx hb dX0_hasBid_11 rfl (lv_at hl 0 rfl) ?_
  refine fx_getR X h (k := o) (j := 1) (r := (rf o 1)) (sc_Auction o ho) rfl fl_RX0_32 dX0_hasBid_12 ?_
  refine lv_sipush (v := 256) hx hb dX0_hasBid_15 (by decide) ?_
  refine fx_vi X h ym_X2_tell yi_X2_tell ys_X2_tell (fx_s3 (List.mem_of_getElem? (i := 141) rfl) rfl) (sc_Law (rf o 1) (sm_Auction_1 o ho)) rfl (c_X2_tell l G (sm_Auction_1 o ho) hT) (As := [.int (256 : Int32)]) (rest := []) rfl rfl ⟨Nat.le_of_ble_eq_true rfl, Nat.le_of_ble_eq_true rfl⟩ ⟨Nat.le_refl _, Nat.le_refl _⟩ hl.1 (Nat.le_of_ble_eq_true rfl) dX0_hasBid_18 (fun r18 M17 H locs hT h => ?_)
  refine lv_istore (lv' := [(4, .int r18), (0, .ref (G.2.2.2 + o)), (1, .int x1), (2, .int x2), (3, .int x3)]) hx hb dX0_hasBid_21 hl (by decide) rfl (fun ls hl => ?_)
  refine lv_aload_n hx hb dX0_hasBid_23 rfl (lv_at hl 1 rfl) ?_
  refine fx_getI X h (k := o) (j := 5) (sc_Auction o ho) rfl fl_RX0_47 dX0_hasBid_24 ?_
  refine lv_if_eq (tgt := 46) hx hb dX0_hasBid_27 (by decide) (fun hc19 => ?_) (fun hc19 => ?_)
  · have hT := hT.1 hc19
    refine lv_aload_n hx hb dX0_hasBid_46 rfl (lv_at hl 1 rfl) ?_
    refine fx_getR X h (k := o) (j := 4) (r := (rf o 4)) (sc_Auction o ho) rfl fl_RX0_43 dX0_hasBid_47 ?_
    refine lv_sipush (v := 1000) hx hb dX0_hasBid_50 (by decide) ?_
    refine fx_vi X h ym_X6_draw yi_X6_draw ys_X6_draw (fx_s3 (List.mem_of_getElem? (i := 171) rfl) rfl) (sc_Quay (rf o 4) (sm_Auction_4 o ho)) rfl (c_X6_draw l G (sm_Auction_4 o ho) hT) (As := [.int (1000 : Int32)]) (rest := []) rfl rfl ⟨Nat.le_of_ble_eq_true rfl, Nat.le_of_ble_eq_true rfl⟩ ⟨Nat.le_refl _, Nat.le_refl _⟩ hl.1 (Nat.le_of_ble_eq_true rfl) dX0_hasBid_53 (fun r22 M21 H locs hT h => ?_)
    refine lv_iload hx hb dX0_hasBid_56 (lv_at hl 0 rfl) ?_
    refine lv_icmp_ge (tgt := 65) hx hb dX0_hasBid_58 (by decide) (fun hc23 => ?_) (fun hc23 => ?_)
    · have hT := hT.1 hc23
      refine lv_iconst (v := 0) hx hb dX0_hasBid_65 (by decide) ?_
      exact w_X0_hasBid_66 ho X hr hk x2 (0 : Int32) M21 _ _ ls hT h (lv_sub hl [1, 3] rfl)
    · have hT := hT.2 hc23
      refine lv_iconst (v := 1) hx hb dX0_hasBid_61 (by decide) ?_
      refine lv_goto (tgt := 66) hx hb dX0_hasBid_62 (by decide) ?_
      exact w_X0_hasBid_66 ho X hr hk x2 (1 : Int32) M21 _ _ ls hT h (lv_sub hl [1, 3] rfl)
  · have hT := hT.2 hc19
    refine lv_iload hx hb dX0_hasBid_30 (lv_at hl 0 rfl) ?_
    refine lv_sipush (v := 500) hx hb dX0_hasBid_32 (by decide) ?_
    refine lv_icmp_lt (tgt := 42) hx hb dX0_hasBid_35 (by decide) (fun hc24 => ?_) (fun hc24 => ?_)
    · have hT := hT.1 hc24
      refine lv_iconst (v := 0) hx hb dX0_hasBid_42 (by decide) ?_
      refine lv_goto (tgt := 66) hx hb dX0_hasBid_43 (by decide) ?_
      exact w_X0_hasBid_66 ho X hr hk x2 (0 : Int32) M17 _ _ ls hT h (lv_sub hl [1, 3] rfl)
    · have hT := hT.2 hc24
      refine lv_iconst (v := 1) hx hb dX0_hasBid_38 (by decide) ?_
      refine lv_goto (tgt := 66) hx hb dX0_hasBid_39 (by decide) ?_
      exact w_X0_hasBid_66 ho X hr hk x2 (1 : Int32) M17 _ _ ls hT h (lv_sub hl [1, 3] rfl)
/-! MockParcels$Auction.callBids(I)V -/
theorem dX0_callBids_0 : decode cX0_callBids 0 = .ok (.aload_n 0, 1) := by decide +kernel
theorem dX0_callBids_1 : decode cX0_callBids 1 = .ok (.iconst (-1), 1) := by decide +kernel
theorem dX0_callBids_2 : decode cX0_callBids 2 = .ok (.putfield 9, 3) := by decide +kernel
theorem dX0_callBids_5 : decode cX0_callBids 5 = .ok (.aload_n 0, 1) := by decide +kernel
theorem dX0_callBids_6 : decode cX0_callBids 6 = .ok (.iconst 0, 1) := by decide +kernel
theorem dX0_callBids_7 : decode cX0_callBids 7 = .ok (.putfield 15, 3) := by decide +kernel
theorem dX0_callBids_10 : decode cX0_callBids 10 = .ok (.aload_n 0, 1) := by decide +kernel
theorem dX0_callBids_11 : decode cX0_callBids 11 = .ok (.iconst 0, 1) := by decide +kernel
theorem dX0_callBids_12 : decode cX0_callBids 12 = .ok (.putfield 18, 3) := by decide +kernel
theorem dX0_callBids_15 : decode cX0_callBids 15 = .ok (.iconst 1, 1) := by decide +kernel
theorem dX0_callBids_16 : decode cX0_callBids 16 = .ok (.istore_n 2, 1) := by decide +kernel
theorem dX0_callBids_17 : decode cX0_callBids 17 = .ok (.iconst 0, 1) := by decide +kernel
theorem dX0_callBids_18 : decode cX0_callBids 18 = .ok (.istore_n 3, 1) := by decide +kernel
theorem dX0_callBids_19 : decode cX0_callBids 19 = .ok (.iload_n 3, 1) := by decide +kernel
theorem dX0_callBids_20 : decode cX0_callBids 20 = .ok (.bipush 30, 2) := by decide +kernel
theorem dX0_callBids_22 : decode cX0_callBids 22 = .ok (.if_icmp .ge 84, 3) := by decide +kernel
theorem dX0_callBids_25 : decode cX0_callBids 25 = .ok (.iload_n 2, 1) := by decide +kernel
theorem dX0_callBids_26 : decode cX0_callBids 26 = .ok (.ifCond .eq 80, 3) := by decide +kernel
theorem dX0_callBids_29 : decode cX0_callBids 29 = .ok (.iconst 0, 1) := by decide +kernel
theorem dX0_callBids_30 : decode cX0_callBids 30 = .ok (.istore_n 2, 1) := by decide +kernel
theorem dX0_callBids_31 : decode cX0_callBids 31 = .ok (.iconst 0, 1) := by decide +kernel
theorem dX0_callBids_32 : decode cX0_callBids 32 = .ok (.istore 4, 2) := by decide +kernel
theorem dX0_callBids_34 : decode cX0_callBids 34 = .ok (.iload 4, 2) := by decide +kernel
theorem dX0_callBids_36 : decode cX0_callBids 36 = .ok (.aload_n 0, 1) := by decide +kernel
theorem dX0_callBids_37 : decode cX0_callBids 37 = .ok (.getfield 27, 3) := by decide +kernel
theorem dX0_callBids_40 : decode cX0_callBids 40 = .ok (.getfield 101, 3) := by decide +kernel
theorem dX0_callBids_43 : decode cX0_callBids 43 = .ok (.if_icmp .ge 47, 3) := by decide +kernel
theorem dX0_callBids_46 : decode cX0_callBids 46 = .ok (.iload 4, 2) := by decide +kernel
theorem dX0_callBids_48 : decode cX0_callBids 48 = .ok (.bipush 8, 2) := by decide +kernel
theorem dX0_callBids_50 : decode cX0_callBids 50 = .ok (.if_icmp .ge 40, 3) := by decide +kernel
theorem dX0_callBids_53 : decode cX0_callBids 53 = .ok (.iload 4, 2) := by decide +kernel
theorem dX0_callBids_55 : decode cX0_callBids 55 = .ok (.aload_n 0, 1) := by decide +kernel
theorem dX0_callBids_56 : decode cX0_callBids 56 = .ok (.getfield 9, 3) := by decide +kernel
theorem dX0_callBids_59 : decode cX0_callBids 59 = .ok (.if_icmp .eq 25, 3) := by decide +kernel
theorem dX0_callBids_62 : decode cX0_callBids 62 = .ok (.aload_n 0, 1) := by decide +kernel
theorem dX0_callBids_63 : decode cX0_callBids 63 = .ok (.iload 4, 2) := by decide +kernel
theorem dX0_callBids_65 : decode cX0_callBids 65 = .ok (.invokevirtual 104, 3) := by decide +kernel
theorem dX0_callBids_68 : decode cX0_callBids 68 = .ok (.ifCond .ne 16, 3) := by decide +kernel
theorem dX0_callBids_71 : decode cX0_callBids 71 = .ok (.aload_n 0, 1) := by decide +kernel
theorem dX0_callBids_72 : decode cX0_callBids 72 = .ok (.iload_n 1, 1) := by decide +kernel
theorem dX0_callBids_73 : decode cX0_callBids 73 = .ok (.iload 4, 2) := by decide +kernel
theorem dX0_callBids_75 : decode cX0_callBids 75 = .ok (.iload_n 3, 1) := by decide +kernel
theorem dX0_callBids_76 : decode cX0_callBids 76 = .ok (.invokevirtual 107, 3) := by decide +kernel
theorem dX0_callBids_79 : decode cX0_callBids 79 = .ok (.ifCond .eq 5, 3) := by decide +kernel
theorem dX0_callBids_82 : decode cX0_callBids 82 = .ok (.iconst 1, 1) := by decide +kernel
theorem dX0_callBids_83 : decode cX0_callBids 83 = .ok (.istore_n 2, 1) := by decide +kernel
theorem dX0_callBids_84 : decode cX0_callBids 84 = .ok (.iinc 4 1, 3) := by decide +kernel
theorem dX0_callBids_87 : decode cX0_callBids 87 = .ok (.goto (-53), 3) := by decide +kernel
theorem dX0_callBids_90 : decode cX0_callBids 90 = .ok (.aload_n 0, 1) := by decide +kernel
theorem dX0_callBids_91 : decode cX0_callBids 91 = .ok (.dup, 1) := by decide +kernel
theorem dX0_callBids_92 : decode cX0_callBids 92 = .ok (.getfield 18, 3) := by decide +kernel
theorem dX0_callBids_95 : decode cX0_callBids 95 = .ok (.iconst 1, 1) := by decide +kernel
theorem dX0_callBids_96 : decode cX0_callBids 96 = .ok (.iadd, 1) := by decide +kernel
theorem dX0_callBids_97 : decode cX0_callBids 97 = .ok (.putfield 18, 3) := by decide +kernel
theorem dX0_callBids_100 : decode cX0_callBids 100 = .ok (.iinc 3 1, 3) := by decide +kernel
theorem dX0_callBids_103 : decode cX0_callBids 103 = .ok (.goto (-84), 3) := by decide +kernel
theorem dX0_callBids_106 : decode cX0_callBids 106 = .ok (.return_, 1) := by decide +kernel
def T_X0_callBids_90 (B19 : Int32 → Int32 → Int32 → Mm → Prop) (o : Nat) (x1 : Int32) (x2 : Int32) (x3 : Int32) (M : Mm) (K : Mm → Prop) : Prop := (∀ M1 : Mm, M1 = m_up M o 8 ((M o 8) + (1 : Int32)) → (∀ y2 : Int32, y2 = x3 + (1 : Int32) → (B19 x1 x2 y2 M1)))
set_option maxHeartbeats 4000000 in
set_option maxRecDepth 100000 in
theorem w_X0_callBids_90 {p : Program} {l : Launch} {e : Env} {s : State} {m : MethodId} {args : Array Value} {below : List Frame} {meth : Method} {c : Code} {G : fx_G} {K : Mm → Prop} {B19 : Int32 → Int32 → Int32 → Mm → Prop} {o : Nat} (ho : o ∈ id_Auction) (X : fx_C G p s m c args cX0_callBids 5 RX0) (hr : meth.sig.returnType = none) (hk : meth.locks = false) (hB19 : ∀ (x1 : Int32) (x2 : Int32) (x3 : Int32) (M : Mm) (H : Heap) (locs : List Loc) (ls : Array Slot), B19 x1 x2 x3 M → fx_H G SH M s H locs → lv_has ls 5 [(0, .ref (G.2.2.2 + o)), (1, .int x1), (2, .int x2), (3, .int x3)] → W p l e (fx_rm (4)) s m args below meth c H locs 0 0 (MQ below (va_Qv K (fx_R G SH) (fx_A G)) args s 0 0 (fx_A G)) (F0 m 19 ls [])) : ∀ (x1 : Int32) (x2 : Int32) (x3 : Int32) (M : Mm) (H : Heap) (locs : List Loc) (ls : Array Slot), T_X0_callBids_90 B19 o x1 x2 x3 M K → fx_H G SH M s H locs → lv_has ls 5 [(0, .ref (G.2.2.2 + o)), (1, .int x1), (2, .int x2), (3, .int x3)] → W p l e (fx_rm (4)) s m args below meth c H locs 0 0 (MQ below (va_Qv K (fx_R G SH) (fx_A G)) args s 0 0 (fx_A G)) (F0 m 90 ls []) := by
  obtain ⟨⟨hx, hb, hml, hown, hts⟩, hK, hQ⟩ := id X
  intro x1 x2 x3 M H locs ls hT h hl
  unfold T_X0_callBids_90 at hT
  refine lv_aload_n hx hb dX0_callBids_90 rfl (lv_at hl 0 rfl) ?_
  refine lv_dup hx hb dX0_callBids_91 rfl ?_
  refine fx_getI X h (k := o) (j := 8) (sc_Auction o ho) rfl fl_RX0_18 dX0_callBids_92 ?_
  refine lv_iconst (v := 1) hx hb dX0_callBids_95 (by decide) ?_
  refine lv_iadd hx hb dX0_callBids_96 ?_
  refine fx_putI X h (k := o) (j := 8) (sc_Auction o ho) rfl fl_RX0_18 dX0_callBids_97 (fun H locs h => ?_)
  obtain ⟨M1, eM1⟩ : ∃ z : Mm, z = m_up M o 8 ((M o 8) + (1 : Int32)) := ⟨_, rfl⟩
  have hT := hT M1 eM1
  rw [← eM1] at h
  obtain ⟨y2, ey2⟩ : ∃ z : Int32, z = x3 + (1 : Int32) := ⟨_, rfl⟩
  have hT := hT y2 ey2
  refine lv_iinc (v := y2) (lv' := [(3, .int y2), (0, .ref (G.2.2.2 + o)), (1, .int x1), (2, .int x2)]) hx hb dX0_callBids_100 hl (k := 3) rfl (by rw [ey2]; rfl) (by decide) rfl (fun ls hl => ?_)
  refine lv_goto (tgt := 19) hx hb dX0_callBids_103 (by decide) ?_
  exact hB19 x1 x2 y2 M1 _ _ ls hT h (lv_sub hl [1, 2, 3, 0] rfl)
def T_X0_callBids_84 (B19 : Int32 → Int32 → Int32 → Mm → Prop) (B34 : Int32 → Int32 → Int32 → Int32 → Mm → Prop) (o : Nat) (x1 : Int32) (x2 : Int32) (x3 : Int32) (x4 : Int32) (M : Mm) (K : Mm → Prop) : Prop := (∀ y3 : Int32, y3 = x4 + (1 : Int32) → (B34 x1 x2 x3 y3 M))
set_option maxHeartbeats 4000000 in
set_option maxRecDepth 100000 in
theorem w_X0_callBids_84 {p : Program} {l : Launch} {e : Env} {s : State} {m : MethodId} {args : Array Value} {below : List Frame} {meth : Method} {c : Code} {G : fx_G} {K : Mm → Prop} {B19 : Int32 → Int32 → Int32 → Mm → Prop} {B34 : Int32 → Int32 → Int32 → Int32 → Mm → Prop} {o : Nat} (ho : o ∈ id_Auction) (X : fx_C G p s m c args cX0_callBids 5 RX0) (hr : meth.sig.returnType = none) (hk : meth.locks = false) (hB19 : ∀ (x1 : Int32) (x2 : Int32) (x3 : Int32) (M : Mm) (H : Heap) (locs : List Loc) (ls : Array Slot), B19 x1 x2 x3 M → fx_H G SH M s H locs → lv_has ls 5 [(0, .ref (G.2.2.2 + o)), (1, .int x1), (2, .int x2), (3, .int x3)] → W p l e (fx_rm (4)) s m args below meth c H locs 0 0 (MQ below (va_Qv K (fx_R G SH) (fx_A G)) args s 0 0 (fx_A G)) (F0 m 19 ls [])) (hB34 : ∀ (x1 : Int32) (x2 : Int32) (x3 : Int32) (x4 : Int32) (M : Mm) (H : Heap) (locs : List Loc) (ls : Array Slot), B34 x1 x2 x3 x4 M → fx_H G SH M s H locs → lv_has ls 5 [(0, .ref (G.2.2.2 + o)), (1, .int x1), (2, .int x2), (3, .int x3), (4, .int x4)] → W p l e (fx_rm (4)) s m args below meth c H locs 0 0 (MQ below (va_Qv K (fx_R G SH) (fx_A G)) args s 0 0 (fx_A G)) (F0 m 34 ls [])) : ∀ (x1 : Int32) (x2 : Int32) (x3 : Int32) (x4 : Int32) (M : Mm) (H : Heap) (locs : List Loc) (ls : Array Slot), T_X0_callBids_84 B19 B34 o x1 x2 x3 x4 M K → fx_H G SH M s H locs → lv_has ls 5 [(0, .ref (G.2.2.2 + o)), (1, .int x1), (2, .int x2), (3, .int x3), (4, .int x4)] → W p l e (fx_rm (4)) s m args below meth c H locs 0 0 (MQ below (va_Qv K (fx_R G SH) (fx_A G)) args s 0 0 (fx_A G)) (F0 m 84 ls []) := by
  obtain ⟨⟨hx, hb, hml, hown, hts⟩, hK, hQ⟩ := id X
  intro x1 x2 x3 x4 M H locs ls hT h hl
  unfold T_X0_callBids_84 at hT
  obtain ⟨y3, ey3⟩ : ∃ z : Int32, z = x4 + (1 : Int32) := ⟨_, rfl⟩
  have hT := hT y3 ey3
  refine lv_iinc (v := y3) (lv' := [(4, .int y3), (0, .ref (G.2.2.2 + o)), (1, .int x1), (2, .int x2), (3, .int x3)]) hx hb dX0_callBids_84 hl (k := 4) rfl (by rw [ey3]; rfl) (by decide) rfl (fun ls hl => ?_)
  refine lv_goto (tgt := 34) hx hb dX0_callBids_87 (by decide) ?_
  exact hB34 x1 x2 x3 y3 M _ _ ls hT h (lv_sub hl [1, 2, 3, 4, 0] rfl)
def T_X0_callBids_34 (B19 : Int32 → Int32 → Int32 → Mm → Prop) (o : Nat) : Nat → Int32 → Int32 → Int32 → Int32 → Mm → (Mm → Prop) → Prop
  | 0, _, _, _, _, _, _ => False
  | n + 1, x1, x2, x3, x4, M, K => (((M (rf o 0) 1) ≤ x4 → (T_X0_callBids_90 B19 o x1 x2 x3 M K)) ∧ (¬ (M (rf o 0) 1) ≤ x4 → (((8 : Int32) ≤ x4 → (T_X0_callBids_90 B19 o x1 x2 x3 M K)) ∧ (¬ (8 : Int32) ≤ x4 → ((x4 = (M o 6) → (T_X0_callBids_84 B19 (fun x1 x2 x3 x4 M => T_X0_callBids_34 B19 o n x1 x2 x3 x4 M K) o x1 x2 x3 x4 M K)) ∧ (¬ x4 = (M o 6) → (T_X0_isHeldBack o x4 M (fun r9 M8 => ((r9 = 0 → (T_X0_hasBid o x1 x4 x3 M8 (fun r13 M12 => ((r13 = 0 → (T_X0_callBids_84 B19 (fun x1 x2 x3 x4 M => T_X0_callBids_34 B19 o n x1 x2 x3 x4 M K) o x1 x2 x3 x4 M12 K)) ∧ (¬ r13 = 0 → (T_X0_callBids_84 B19 (fun x1 x2 x3 x4 M => T_X0_callBids_34 B19 o n x1 x2 x3 x4 M K) o x1 (1 : Int32) x3 x4 M12 K)))))) ∧ (¬ r9 = 0 → (T_X0_callBids_84 B19 (fun x1 x2 x3 x4 M => T_X0_callBids_34 B19 o n x1 x2 x3 x4 M K) o x1 x2 x3 x4 M8 K)))))))))))
set_option maxHeartbeats 4000000 in
set_option maxRecDepth 100000 in
theorem w_X0_callBids_34 {p : Program} {l : Launch} {e : Env} {s : State} {m : MethodId} {args : Array Value} {below : List Frame} {meth : Method} {c : Code} {G : fx_G} {K : Mm → Prop} {B19 : Int32 → Int32 → Int32 → Mm → Prop} {o : Nat} (ho : o ∈ id_Auction) (X : fx_C G p s m c args cX0_callBids 5 RX0) (hr : meth.sig.returnType = none) (hk : meth.locks = false) (hB19 : ∀ (x1 : Int32) (x2 : Int32) (x3 : Int32) (M : Mm) (H : Heap) (locs : List Loc) (ls : Array Slot), B19 x1 x2 x3 M → fx_H G SH M s H locs → lv_has ls 5 [(0, .ref (G.2.2.2 + o)), (1, .int x1), (2, .int x2), (3, .int x3)] → W p l e (fx_rm (4)) s m args below meth c H locs 0 0 (MQ below (va_Qv K (fx_R G SH) (fx_A G)) args s 0 0 (fx_A G)) (F0 m 19 ls [])) : ∀ (n : Nat) (x1 : Int32) (x2 : Int32) (x3 : Int32) (x4 : Int32) (M : Mm) (H : Heap) (locs : List Loc) (ls : Array Slot), T_X0_callBids_34 B19 o n x1 x2 x3 x4 M K → fx_H G SH M s H locs → lv_has ls 5 [(0, .ref (G.2.2.2 + o)), (1, .int x1), (2, .int x2), (3, .int x3), (4, .int x4)] → W p l e (fx_rm (4)) s m args below meth c H locs 0 0 (MQ below (va_Qv K (fx_R G SH) (fx_A G)) args s 0 0 (fx_A G)) (F0 m 34 ls []) := by
  obtain ⟨⟨hx, hb, hml, hown, hts⟩, hK, hQ⟩ := id X
  intro n
  induction n with
  | zero =>
    intro x1 x2 x3 x4 M H locs ls hT
    exact hT.elim
  | succ n ih =>
    intro x1 x2 x3 x4 M H locs ls hT h hl
    rw [T_X0_callBids_34] at hT
    refine lv_iload hx hb dX0_callBids_34 (lv_at hl 4 rfl) ?_
    refine lv_aload_n hx hb dX0_callBids_36 rfl (lv_at hl 0 rfl) ?_
    refine fx_getR X h (k := o) (j := 0) (r := (rf o 0)) (sc_Auction o ho) rfl fl_RX0_27 dX0_callBids_37 ?_
    refine fx_getI X h (k := (rf o 0)) (j := 1) (sc_Cast (rf o 0) (sm_Auction_0 o ho)) rfl fl_RX0_101 dX0_callBids_40 ?_
    refine lv_icmp_ge (tgt := 90) hx hb dX0_callBids_43 (by decide) (fun hc4 => ?_) (fun hc4 => ?_)
    · have hT := hT.1 hc4
      exact w_X0_callBids_90 ho X hr hk (B19 := B19) hB19 x1 x2 x3 M _ _ ls hT h (lv_sub hl [0, 1, 2, 3] rfl)
    · have hT := hT.2 hc4
      refine lv_iload hx hb dX0_callBids_46 (lv_at hl 4 rfl) ?_
      refine lv_bipush (v := 8) hx hb dX0_callBids_48 (by decide) ?_
      refine lv_icmp_ge (tgt := 90) hx hb dX0_callBids_50 (by decide) (fun hc5 => ?_) (fun hc5 => ?_)
      · have hT := hT.1 hc5
        exact w_X0_callBids_90 ho X hr hk (B19 := B19) hB19 x1 x2 x3 M _ _ ls hT h (lv_sub hl [0, 1, 2, 3] rfl)
      · have hT := hT.2 hc5
        refine lv_iload hx hb dX0_callBids_53 (lv_at hl 4 rfl) ?_
        refine lv_aload_n hx hb dX0_callBids_55 rfl (lv_at hl 0 rfl) ?_
        refine fx_getI X h (k := o) (j := 6) (sc_Auction o ho) rfl fl_RX0_9 dX0_callBids_56 ?_
        refine lv_icmp_eq (tgt := 84) hx hb dX0_callBids_59 (by decide) (fun hc6 => ?_) (fun hc6 => ?_)
        · have hT := hT.1 hc6
          exact w_X0_callBids_84 ho X hr hk (B19 := B19) hB19 (B34 := (fun x1 x2 x3 x4 M => T_X0_callBids_34 B19 o n x1 x2 x3 x4 M K)) ih x1 x2 x3 x4 M _ _ ls hT h (lv_sub hl [0, 1, 2, 3, 4] rfl)
        · have hT := hT.2 hc6
          refine lv_aload_n hx hb dX0_callBids_62 rfl (lv_at hl 0 rfl) ?_
          refine lv_iload hx hb dX0_callBids_63 (lv_at hl 4 rfl) ?_
          refine fx_vi X h ym_X0_isHeldBack yi_X0_isHeldBack ys_X0_isHeldBack (fx_s3 (List.mem_of_getElem? (i := 124) rfl) rfl) (sc_Auction o ho) rfl (c_X0_isHeldBack l G ho hT) (As := [.int x4]) (rest := []) rfl rfl ⟨Nat.le_of_ble_eq_true rfl, Nat.le_of_ble_eq_true rfl⟩ ⟨Nat.le_refl _, Nat.le_refl _⟩ hl.1 (Nat.le_of_ble_eq_true rfl) dX0_callBids_65 (fun r9 M8 H locs hT h => ?_)
          refine lv_if_ne (tgt := 84) hx hb dX0_callBids_68 (by decide) (fun hc10 => ?_) (fun hc10 => ?_)
          · have hT := hT.2 hc10
            exact w_X0_callBids_84 ho X hr hk (B19 := B19) hB19 (B34 := (fun x1 x2 x3 x4 M => T_X0_callBids_34 B19 o n x1 x2 x3 x4 M K)) ih x1 x2 x3 x4 M8 _ _ ls hT h (lv_sub hl [0, 1, 2, 3, 4] rfl)
          · have hT := hT.1 hc10
            refine lv_aload_n hx hb dX0_callBids_71 rfl (lv_at hl 0 rfl) ?_
            refine lv_iload_n hx hb dX0_callBids_72 rfl (lv_at hl 1 rfl) ?_
            refine lv_iload hx hb dX0_callBids_73 (lv_at hl 4 rfl) ?_
            refine lv_iload_n hx hb dX0_callBids_75 rfl (lv_at hl 3 rfl) ?_
            refine fx_vi X h ym_X0_hasBid yi_X0_hasBid ys_X0_hasBid (fx_s3 (List.mem_of_getElem? (i := 128) rfl) rfl) (sc_Auction o ho) rfl (c_X0_hasBid l G ho hT) (As := [.int x1, .int x4, .int x3]) (rest := []) rfl rfl ⟨Nat.le_of_ble_eq_true rfl, Nat.le_of_ble_eq_true rfl⟩ ⟨Nat.le_refl _, Nat.le_refl _⟩ hl.1 (Nat.le_of_ble_eq_true rfl) dX0_callBids_76 (fun r13 M12 H locs hT h => ?_)
            refine lv_if_eq (tgt := 84) hx hb dX0_callBids_79 (by decide) (fun hc14 => ?_) (fun hc14 => ?_)
            · have hT := hT.1 hc14
              exact w_X0_callBids_84 ho X hr hk (B19 := B19) hB19 (B34 := (fun x1 x2 x3 x4 M => T_X0_callBids_34 B19 o n x1 x2 x3 x4 M K)) ih x1 x2 x3 x4 M12 _ _ ls hT h (lv_sub hl [0, 1, 2, 3, 4] rfl)
            · have hT := hT.2 hc14
              refine lv_iconst (v := 1) hx hb dX0_callBids_82 (by decide) ?_
              refine lv_istore_n (lv' := [(2, .int (1 : Int32)), (0, .ref (G.2.2.2 + o)), (1, .int x1), (3, .int x3), (4, .int x4)]) hx hb dX0_callBids_83 rfl hl (by decide) rfl (fun ls hl => ?_)
              exact w_X0_callBids_84 ho X hr hk (B19 := B19) hB19 (B34 := (fun x1 x2 x3 x4 M => T_X0_callBids_34 B19 o n x1 x2 x3 x4 M K)) ih x1 (1 : Int32) x3 x4 M12 _ _ ls hT h (lv_sub hl [1, 2, 0, 3, 4] rfl)
def T_X0_callBids_19 (o : Nat) : Nat → Int32 → Int32 → Int32 → Mm → (Mm → Prop) → Prop
  | 0, _, _, _, _, _ => False
  | n + 1, x1, x2, x3, M, K => (((30 : Int32) ≤ x3 → (K M)) ∧ (¬ (30 : Int32) ≤ x3 → ((x2 = 0 → (K M)) ∧ (¬ x2 = 0 → (T_X0_callBids_34 (fun x1 x2 x3 M => T_X0_callBids_19 o n x1 x2 x3 M K) o 5000 x1 (0 : Int32) x3 (0 : Int32) M K)))))
set_option maxHeartbeats 4000000 in
set_option maxRecDepth 100000 in
theorem w_X0_callBids_19 {p : Program} {l : Launch} {e : Env} {s : State} {m : MethodId} {args : Array Value} {below : List Frame} {meth : Method} {c : Code} {G : fx_G} {K : Mm → Prop} {o : Nat} (ho : o ∈ id_Auction) (X : fx_C G p s m c args cX0_callBids 5 RX0) (hr : meth.sig.returnType = none) (hk : meth.locks = false) : ∀ (n : Nat) (x1 : Int32) (x2 : Int32) (x3 : Int32) (M : Mm) (H : Heap) (locs : List Loc) (ls : Array Slot), T_X0_callBids_19 o n x1 x2 x3 M K → fx_H G SH M s H locs → lv_has ls 5 [(0, .ref (G.2.2.2 + o)), (1, .int x1), (2, .int x2), (3, .int x3)] → W p l e (fx_rm (4)) s m args below meth c H locs 0 0 (MQ below (va_Qv K (fx_R G SH) (fx_A G)) args s 0 0 (fx_A G)) (F0 m 19 ls []) := by
  obtain ⟨⟨hx, hb, hml, hown, hts⟩, hK, hQ⟩ := id X
  intro n
  induction n with
  | zero =>
    intro x1 x2 x3 M H locs ls hT
    exact hT.elim
  | succ n ih =>
    intro x1 x2 x3 M H locs ls hT h hl
    rw [T_X0_callBids_19] at hT
    refine lv_iload_n hx hb dX0_callBids_19 rfl (lv_at hl 3 rfl) ?_
    refine lv_bipush (v := 30) hx hb dX0_callBids_20 (by decide) ?_
    refine lv_icmp_ge (tgt := 106) hx hb dX0_callBids_22 (by decide) (fun hc15 => ?_) (fun hc15 => ?_)
    · have hT := hT.1 hc15
      exact fx_vret X hr hk h hT dX0_callBids_106
    · have hT := hT.2 hc15
      refine lv_iload_n hx hb dX0_callBids_25 rfl (lv_at hl 2 rfl) ?_
      refine lv_if_eq (tgt := 106) hx hb dX0_callBids_26 (by decide) (fun hc16 => ?_) (fun hc16 => ?_)
      · have hT := hT.1 hc16
        exact fx_vret X hr hk h hT dX0_callBids_106
      · have hT := hT.2 hc16
        refine lv_iconst (v := 0) hx hb dX0_callBids_29 (by decide) ?_
        refine lv_istore_n (lv' := [(2, .int (0 : Int32)), (0, .ref (G.2.2.2 + o)), (1, .int x1), (3, .int x3)]) hx hb dX0_callBids_30 rfl hl (by decide) rfl (fun ls hl => ?_)
        refine lv_iconst (v := 0) hx hb dX0_callBids_31 (by decide) ?_
        refine lv_istore (lv' := [(4, .int (0 : Int32)), (2, .int (0 : Int32)), (0, .ref (G.2.2.2 + o)), (1, .int x1), (3, .int x3)]) hx hb dX0_callBids_32 hl (by decide) rfl (fun ls hl => ?_)
        exact w_X0_callBids_34 ho X hr hk (B19 := (fun x1 x2 x3 M => T_X0_callBids_19 o n x1 x2 x3 M K)) ih 5000 x1 (0 : Int32) x3 (0 : Int32) M _ _ ls hT h (lv_sub hl [2, 3, 1, 4, 0] rfl)
def T_X0_callBids (o : Nat) (x1 : Int32) (M : Mm) (K : Mm → Prop) : Prop := (∀ M17 : Mm, M17 = m_up M o 6 (-1 : Int32) → (∀ M18 : Mm, M18 = m_up M17 o 7 (0 : Int32) → (∀ M19 : Mm, M19 = m_up M18 o 8 (0 : Int32) → (T_X0_callBids_19 o 5000 x1 (1 : Int32) (0 : Int32) M19 K))))
set_option maxHeartbeats 4000000 in
set_option maxRecDepth 100000 in
theorem c_X0_callBids (l : Launch) (G : fx_G) {o : Nat} (ho : o ∈ id_Auction) {x1 : Int32} {M : Mm} {K : Mm → Prop} (hT : T_X0_callBids o x1 M K) : Met l yX0_callBids (fx_ws yX0_callBids cX0_callBids 5 none) (fx_rm (4)) (va_Pc [.ref (G.2.2.2 + o), .int x1] (fx_P G SH M)) (va_Qv K (fx_R G SH) (fx_A G)) 0 0 (fx_A G) := by
  refine fx_met (own := RX0) (by decide +kernel) rfl (Nat.le_of_ble_eq_true rfl) (fun p e s m below meth c X hr hk h ls hl => ?_)
  obtain ⟨⟨hx, hb, hml, hown, hts⟩, hK, hQ⟩ := id X
  have hl : lv_has ls 5 [(0, .ref (G.2.2.2 + o)), (1, .int x1)] := hl
  unfold T_X0_callBids at hT
  refine lv_aload_n hx hb dX0_callBids_0 rfl (lv_at hl 0 rfl) ?_
  refine lv_iconst (v := -1) hx hb dX0_callBids_1 (by decide) ?_
  refine fx_putI X h (k := o) (j := 6) (sc_Auction o ho) rfl fl_RX0_9 dX0_callBids_2 (fun H locs h => ?_)
  obtain ⟨M17, eM17⟩ : ∃ z : Mm, z = m_up M o 6 (-1 : Int32) := ⟨_, rfl⟩
  have hT := hT M17 eM17
  rw [← eM17] at h
  refine lv_aload_n hx hb dX0_callBids_5 rfl (lv_at hl 0 rfl) ?_
  refine lv_iconst (v := 0) hx hb dX0_callBids_6 (by decide) ?_
  refine fx_putI X h (k := o) (j := 7) (sc_Auction o ho) rfl fl_RX0_15 dX0_callBids_7 (fun H locs h => ?_)
  obtain ⟨M18, eM18⟩ : ∃ z : Mm, z = m_up M17 o 7 (0 : Int32) := ⟨_, rfl⟩
  have hT := hT M18 eM18
  rw [← eM18] at h
  refine lv_aload_n hx hb dX0_callBids_10 rfl (lv_at hl 0 rfl) ?_
  refine lv_iconst (v := 0) hx hb dX0_callBids_11 (by decide) ?_
  refine fx_putI X h (k := o) (j := 8) (sc_Auction o ho) rfl fl_RX0_18 dX0_callBids_12 (fun H locs h => ?_)
  obtain ⟨M19, eM19⟩ : ∃ z : Mm, z = m_up M18 o 8 (0 : Int32) := ⟨_, rfl⟩
  have hT := hT M19 eM19
  rw [← eM19] at h
  refine lv_iconst (v := 1) hx hb dX0_callBids_15 (by decide) ?_
  refine lv_istore_n (lv' := [(2, .int (1 : Int32)), (0, .ref (G.2.2.2 + o)), (1, .int x1)]) hx hb dX0_callBids_16 rfl hl (by decide) rfl (fun ls hl => ?_)
  refine lv_iconst (v := 0) hx hb dX0_callBids_17 (by decide) ?_
  refine lv_istore_n (lv' := [(3, .int (0 : Int32)), (2, .int (1 : Int32)), (0, .ref (G.2.2.2 + o)), (1, .int x1)]) hx hb dX0_callBids_18 rfl hl (by decide) rfl (fun ls hl => ?_)
  exact w_X0_callBids_19 ho X hr hk 5000 x1 (1 : Int32) (0 : Int32) M19 _ _ ls hT h (lv_sub hl [2, 3, 1, 0] rfl)
/-! MockParcels$Auction.found(I)I -/
theorem dX0_found_0 : decode cX0_found 0 = .ok (.aload_n 0, 1) := by decide +kernel
theorem dX0_found_1 : decode cX0_found 1 = .ok (.getfield 47, 3) := by decide +kernel
theorem dX0_found_4 : decode cX0_found 4 = .ok (.ifCond .eq 16, 3) := by decide +kernel
theorem dX0_found_7 : decode cX0_found 7 = .ok (.iload_n 1, 1) := by decide +kernel
theorem dX0_found_8 : decode cX0_found 8 = .ok (.sipush 500, 3) := by decide +kernel
theorem dX0_found_11 : decode cX0_found 11 = .ok (.if_icmp .lt 7, 3) := by decide +kernel
theorem dX0_found_14 : decode cX0_found 14 = .ok (.iconst 1, 1) := by decide +kernel
theorem dX0_found_15 : decode cX0_found 15 = .ok (.goto 4, 3) := by decide +kernel
theorem dX0_found_18 : decode cX0_found 18 = .ok (.iconst 0, 1) := by decide +kernel
theorem dX0_found_19 : decode cX0_found 19 = .ok (.ireturn, 1) := by decide +kernel
theorem dX0_found_20 : decode cX0_found 20 = .ok (.aload_n 0, 1) := by decide +kernel
theorem dX0_found_21 : decode cX0_found 21 = .ok (.getfield 43, 3) := by decide +kernel
theorem dX0_found_24 : decode cX0_found 24 = .ok (.sipush 1000, 3) := by decide +kernel
theorem dX0_found_27 : decode cX0_found 27 = .ok (.invokevirtual 123, 3) := by decide +kernel
theorem dX0_found_30 : decode cX0_found 30 = .ok (.iload_n 1, 1) := by decide +kernel
theorem dX0_found_31 : decode cX0_found 31 = .ok (.if_icmp .ge 17, 3) := by decide +kernel
theorem dX0_found_34 : decode cX0_found 34 = .ok (.aload_n 0, 1) := by decide +kernel
theorem dX0_found_35 : decode cX0_found 35 = .ok (.getfield 43, 3) := by decide +kernel
theorem dX0_found_38 : decode cX0_found 38 = .ok (.bipush 7, 2) := by decide +kernel
theorem dX0_found_40 : decode cX0_found 40 = .ok (.invokevirtual 123, 3) := by decide +kernel
theorem dX0_found_43 : decode cX0_found 43 = .ok (.iconst 1, 1) := by decide +kernel
theorem dX0_found_44 : decode cX0_found 44 = .ok (.iadd, 1) := by decide +kernel
theorem dX0_found_45 : decode cX0_found 45 = .ok (.goto 4, 3) := by decide +kernel
theorem dX0_found_48 : decode cX0_found 48 = .ok (.iconst 0, 1) := by decide +kernel
theorem dX0_found_49 : decode cX0_found 49 = .ok (.ireturn, 1) := by decide +kernel
def T_X0_found (o : Nat) (x1 : Int32) (M : Mm) (K : Int32 → Mm → Prop) : Prop := (((M o 5) = 0 → (T_X6_draw (rf o 4) (1000 : Int32) M (fun r4 M3 => ((x1 ≤ r4 → (K (0 : Int32) M3)) ∧ (¬ x1 ≤ r4 → (T_X6_draw (rf o 4) (7 : Int32) M3 (fun r8 M7 => (K (r8 + (1 : Int32)) M7)))))))) ∧ (¬ (M o 5) = 0 → ((x1 < (500 : Int32) → (K (0 : Int32) M)) ∧ (¬ x1 < (500 : Int32) → (K (1 : Int32) M)))))
set_option maxHeartbeats 4000000 in
set_option maxRecDepth 100000 in
theorem c_X0_found (l : Launch) (G : fx_G) {o : Nat} (ho : o ∈ id_Auction) {x1 : Int32} {M : Mm} {K : Int32 → Mm → Prop} (hT : T_X0_found o x1 M K) : Met l yX0_found (fx_ws yX0_found cX0_found 2 (some .int)) (fx_rm (1)) (va_Pc [.ref (G.2.2.2 + o), .int x1] (fx_P G SH M)) (va_Qi K (fx_R G SH) (fx_A G)) 0 0 (fx_A G) := by
  refine fx_met (own := RX0) (by decide +kernel) rfl (Nat.le_of_ble_eq_true rfl) (fun p e s m below meth c X hr hk h ls hl => ?_)
  obtain ⟨⟨hx, hb, hml, hown, hts⟩, hK, hQ⟩ := id X
  have hl : lv_has ls 2 [(0, .ref (G.2.2.2 + o)), (1, .int x1)] := hl
  unfold T_X0_found at hT
  refine lv_aload_n hx hb dX0_found_0 rfl (lv_at hl 0 rfl) ?_
  refine fx_getI X h (k := o) (j := 5) (sc_Auction o ho) rfl fl_RX0_47 dX0_found_1 ?_
  refine lv_if_eq (tgt := 20) hx hb dX0_found_4 (by decide) (fun hc1 => ?_) (fun hc1 => ?_)
  · have hT := hT.1 hc1
    refine lv_aload_n hx hb dX0_found_20 rfl (lv_at hl 0 rfl) ?_
    refine fx_getR X h (k := o) (j := 4) (r := (rf o 4)) (sc_Auction o ho) rfl fl_RX0_43 dX0_found_21 ?_
    refine lv_sipush (v := 1000) hx hb dX0_found_24 (by decide) ?_
    refine fx_vi X h ym_X6_draw yi_X6_draw ys_X6_draw (fx_s3 (List.mem_of_getElem? (i := 171) rfl) rfl) (sc_Quay (rf o 4) (sm_Auction_4 o ho)) rfl (c_X6_draw l G (sm_Auction_4 o ho) hT) (As := [.int (1000 : Int32)]) (rest := []) rfl rfl ⟨Nat.le_of_ble_eq_true rfl, Nat.le_of_ble_eq_true rfl⟩ ⟨Nat.le_refl _, Nat.le_refl _⟩ hl.1 (Nat.le_of_ble_eq_true rfl) dX0_found_27 (fun r4 M3 H locs hT h => ?_)
    refine lv_iload_n hx hb dX0_found_30 rfl (lv_at hl 1 rfl) ?_
    refine lv_icmp_ge (tgt := 48) hx hb dX0_found_31 (by decide) (fun hc5 => ?_) (fun hc5 => ?_)
    · have hT := hT.1 hc5
      refine lv_iconst (v := 0) hx hb dX0_found_48 (by decide) ?_
      exact fx_iret X hr hk h hT dX0_found_49
    · have hT := hT.2 hc5
      refine lv_aload_n hx hb dX0_found_34 rfl (lv_at hl 0 rfl) ?_
      refine fx_getR X h (k := o) (j := 4) (r := (rf o 4)) (sc_Auction o ho) rfl fl_RX0_43 dX0_found_35 ?_
      refine lv_bipush (v := 7) hx hb dX0_found_38 (by decide) ?_
      refine fx_vi X h ym_X6_draw yi_X6_draw ys_X6_draw (fx_s3 (List.mem_of_getElem? (i := 171) rfl) rfl) (sc_Quay (rf o 4) (sm_Auction_4 o ho)) rfl (c_X6_draw l G (sm_Auction_4 o ho) hT) (As := [.int (7 : Int32)]) (rest := []) rfl rfl ⟨Nat.le_of_ble_eq_true rfl, Nat.le_of_ble_eq_true rfl⟩ ⟨Nat.le_refl _, Nat.le_refl _⟩ hl.1 (Nat.le_of_ble_eq_true rfl) dX0_found_40 (fun r8 M7 H locs hT h => ?_)
      refine lv_iconst (v := 1) hx hb dX0_found_43 (by decide) ?_
      refine lv_iadd hx hb dX0_found_44 ?_
      refine lv_goto (tgt := 49) hx hb dX0_found_45 (by decide) ?_
      exact fx_iret X hr hk h hT dX0_found_49
  · have hT := hT.2 hc1
    refine lv_iload_n hx hb dX0_found_7 rfl (lv_at hl 1 rfl) ?_
    refine lv_sipush (v := 500) hx hb dX0_found_8 (by decide) ?_
    refine lv_icmp_lt (tgt := 18) hx hb dX0_found_11 (by decide) (fun hc9 => ?_) (fun hc9 => ?_)
    · have hT := hT.1 hc9
      refine lv_iconst (v := 0) hx hb dX0_found_18 (by decide) ?_
      exact fx_iret X hr hk h hT dX0_found_19
    · have hT := hT.2 hc9
      refine lv_iconst (v := 1) hx hb dX0_found_14 (by decide) ?_
      refine lv_goto (tgt := 19) hx hb dX0_found_15 (by decide) ?_
      exact fx_iret X hr hk h hT dX0_found_19
/-! MockParcels$Auction.open(II)V -/
theorem dX0_open_0 : decode cX0_open 0 = .ok (.aload_n 0, 1) := by decide +kernel
theorem dX0_open_1 : decode cX0_open 1 = .ok (.iload_n 1, 1) := by decide +kernel
theorem dX0_open_2 : decode cX0_open 2 = .ok (.iload_n 2, 1) := by decide +kernel
theorem dX0_open_3 : decode cX0_open 3 = .ok (.aload_n 0, 1) := by decide +kernel
theorem dX0_open_4 : decode cX0_open 4 = .ok (.getfield 15, 3) := by decide +kernel
theorem dX0_open_7 : decode cX0_open 7 = .ok (.aload_n 0, 1) := by decide +kernel
theorem dX0_open_8 : decode cX0_open 8 = .ok (.getfield 18, 3) := by decide +kernel
theorem dX0_open_11 : decode cX0_open 11 = .ok (.invokevirtual 116, 3) := by decide +kernel
theorem dX0_open_14 : decode cX0_open 14 = .ok (.aload_n 0, 1) := by decide +kernel
theorem dX0_open_15 : decode cX0_open 15 = .ok (.aload_n 0, 1) := by decide +kernel
theorem dX0_open_16 : decode cX0_open 16 = .ok (.getfield 32, 3) := by decide +kernel
theorem dX0_open_19 : decode cX0_open 19 = .ok (.sipush 258, 3) := by decide +kernel
theorem dX0_open_22 : decode cX0_open 22 = .ok (.invokevirtual 120, 3) := by decide +kernel
theorem dX0_open_25 : decode cX0_open 25 = .ok (.invokevirtual 144, 3) := by decide +kernel
theorem dX0_open_28 : decode cX0_open 28 = .ok (.istore_n 3, 1) := by decide +kernel
theorem dX0_open_29 : decode cX0_open 29 = .ok (.aload_n 0, 1) := by decide +kernel
theorem dX0_open_30 : decode cX0_open 30 = .ok (.getfield 43, 3) := by decide +kernel
theorem dX0_open_33 : decode cX0_open 33 = .ok (.getfield 147, 3) := by decide +kernel
theorem dX0_open_36 : decode cX0_open 36 = .ok (.iload_n 1, 1) := by decide +kernel
theorem dX0_open_37 : decode cX0_open 37 = .ok (.iload_n 3, 1) := by decide +kernel
theorem dX0_open_38 : decode cX0_open 38 = .ok (.iastore, 1) := by decide +kernel
theorem dX0_open_39 : decode cX0_open 39 = .ok (.aload_n 0, 1) := by decide +kernel
theorem dX0_open_40 : decode cX0_open 40 = .ok (.iconst 2, 1) := by decide +kernel
theorem dX0_open_41 : decode cX0_open 41 = .ok (.iload_n 2, 1) := by decide +kernel
theorem dX0_open_42 : decode cX0_open 42 = .ok (.iload_n 3, 1) := by decide +kernel
theorem dX0_open_43 : decode cX0_open 43 = .ok (.invokevirtual 126, 3) := by decide +kernel
theorem dX0_open_46 : decode cX0_open 46 = .ok (.aload_n 0, 1) := by decide +kernel
theorem dX0_open_47 : decode cX0_open 47 = .ok (.getfield 43, 3) := by decide +kernel
theorem dX0_open_50 : decode cX0_open 50 = .ok (.getfield 150, 3) := by decide +kernel
theorem dX0_open_53 : decode cX0_open 53 = .ok (.iload_n 2, 1) := by decide +kernel
theorem dX0_open_54 : decode cX0_open 54 = .ok (.dup2, 1) := by decide +kernel
theorem dX0_open_55 : decode cX0_open 55 = .ok (.iaload, 1) := by decide +kernel
theorem dX0_open_56 : decode cX0_open 56 = .ok (.aload_n 0, 1) := by decide +kernel
theorem dX0_open_57 : decode cX0_open 57 = .ok (.getfield 43, 3) := by decide +kernel
theorem dX0_open_60 : decode cX0_open 60 = .ok (.getfield 153, 3) := by decide +kernel
theorem dX0_open_63 : decode cX0_open 63 = .ok (.iload_n 1, 1) := by decide +kernel
theorem dX0_open_64 : decode cX0_open 64 = .ok (.iaload, 1) := by decide +kernel
theorem dX0_open_65 : decode cX0_open 65 = .ok (.iadd, 1) := by decide +kernel
theorem dX0_open_66 : decode cX0_open 66 = .ok (.iastore, 1) := by decide +kernel
theorem dX0_open_67 : decode cX0_open 67 = .ok (.iload_n 3, 1) := by decide +kernel
theorem dX0_open_68 : decode cX0_open 68 = .ok (.ifCond .le 50, 3) := by decide +kernel
theorem dX0_open_71 : decode cX0_open 71 = .ok (.aload_n 0, 1) := by decide +kernel
theorem dX0_open_72 : decode cX0_open 72 = .ok (.getfield 43, 3) := by decide +kernel
theorem dX0_open_75 : decode cX0_open 75 = .ok (.getfield 156, 3) := by decide +kernel
theorem dX0_open_78 : decode cX0_open 78 = .ok (.iload_n 2, 1) := by decide +kernel
theorem dX0_open_79 : decode cX0_open 79 = .ok (.bipush 8, 2) := by decide +kernel
theorem dX0_open_81 : decode cX0_open 81 = .ok (.imul, 1) := by decide +kernel
theorem dX0_open_82 : decode cX0_open 82 = .ok (.iload_n 3, 1) := by decide +kernel
theorem dX0_open_83 : decode cX0_open 83 = .ok (.iadd, 1) := by decide +kernel
theorem dX0_open_84 : decode cX0_open 84 = .ok (.dup2, 1) := by decide +kernel
theorem dX0_open_85 : decode cX0_open 85 = .ok (.iaload, 1) := by decide +kernel
theorem dX0_open_86 : decode cX0_open 86 = .ok (.iconst 1, 1) := by decide +kernel
theorem dX0_open_87 : decode cX0_open 87 = .ok (.iadd, 1) := by decide +kernel
theorem dX0_open_88 : decode cX0_open 88 = .ok (.iastore, 1) := by decide +kernel
theorem dX0_open_89 : decode cX0_open 89 = .ok (.aload_n 0, 1) := by decide +kernel
theorem dX0_open_90 : decode cX0_open 90 = .ok (.getfield 43, 3) := by decide +kernel
theorem dX0_open_93 : decode cX0_open 93 = .ok (.bipush 99, 2) := by decide +kernel
theorem dX0_open_95 : decode cX0_open 95 = .ok (.aload_n 0, 1) := by decide +kernel
theorem dX0_open_96 : decode cX0_open 96 = .ok (.getfield 43, 3) := by decide +kernel
theorem dX0_open_99 : decode cX0_open 99 = .ok (.getfield 85, 3) := by decide +kernel
theorem dX0_open_102 : decode cX0_open 102 = .ok (.iconst 2, 1) := by decide +kernel
theorem dX0_open_103 : decode cX0_open 103 = .ok (.aload_n 0, 1) := by decide +kernel
theorem dX0_open_104 : decode cX0_open 104 = .ok (.getfield 18, 3) := by decide +kernel
theorem dX0_open_107 : decode cX0_open 107 = .ok (.imul, 1) := by decide +kernel
theorem dX0_open_108 : decode cX0_open 108 = .ok (.iadd, 1) := by decide +kernel
theorem dX0_open_109 : decode cX0_open 109 = .ok (.invokestatic 159, 3) := by decide +kernel
theorem dX0_open_112 : decode cX0_open 112 = .ok (.putfield 85, 3) := by decide +kernel
theorem dX0_open_115 : decode cX0_open 115 = .ok (.goto 23, 3) := by decide +kernel
theorem dX0_open_118 : decode cX0_open 118 = .ok (.aload_n 0, 1) := by decide +kernel
theorem dX0_open_119 : decode cX0_open 119 = .ok (.getfield 43, 3) := by decide +kernel
theorem dX0_open_122 : decode cX0_open 122 = .ok (.iconst 0, 1) := by decide +kernel
theorem dX0_open_123 : decode cX0_open 123 = .ok (.aload_n 0, 1) := by decide +kernel
theorem dX0_open_124 : decode cX0_open 124 = .ok (.getfield 43, 3) := by decide +kernel
theorem dX0_open_127 : decode cX0_open 127 = .ok (.getfield 85, 3) := by decide +kernel
theorem dX0_open_130 : decode cX0_open 130 = .ok (.iconst 3, 1) := by decide +kernel
theorem dX0_open_131 : decode cX0_open 131 = .ok (.isub, 1) := by decide +kernel
theorem dX0_open_132 : decode cX0_open 132 = .ok (.invokestatic 165, 3) := by decide +kernel
theorem dX0_open_135 : decode cX0_open 135 = .ok (.putfield 85, 3) := by decide +kernel
theorem dX0_open_138 : decode cX0_open 138 = .ok (.return_, 1) := by decide +kernel
def T_X0_open (o : Nat) (x1 : Int32) (x2 : Int32) (M : Mm) (K : Mm → Prop) : Prop := (T_X0_setScene o x1 x2 (M o 7) (M o 8) M (fun M2 => (T_X2_tell (rf o 1) (258 : Int32) M2 (fun r5 M4 => (T_X0_found o r5 M4 (fun r8 M7 => (vp_in x1 16 ∧ (∀ M9 : Mm, M9 = m_up M7 (rf (rf o 4) 1) (x1).toNatClampNeg r8 → (T_X0_note o (2 : Int32) x2 r8 M9 (fun M12 => (vp_in x2 8 ∧ (vp_in x1 16 ∧ (vp_in x2 8 ∧ (∀ M15 : Mm, M15 = m_up M12 (rf (rf o 4) 4) (x2).toNatClampNeg ((M12 (rf (rf o 4) 4) (x2).toNatClampNeg) + (M12 (rf (rf o 4) 2) (x1).toNatClampNeg)) → ((r8 ≤ 0 → (∀ M18 : Mm, M18 = m_up M15 (rf o 4) 8 (if (0 : Int32) < ((M15 (rf o 4) 8) - (3 : Int32)) then ((M15 (rf o 4) 8) - (3 : Int32)) else (0 : Int32)) → (K M18))) ∧ (¬ r8 ≤ 0 → (vp_in ((x2 * (8 : Int32)) + r8) 64 ∧ (vp_in ((x2 * (8 : Int32)) + r8) 64 ∧ (∀ M20 : Mm, M20 = m_up M15 (rf (rf o 4) 5) (((x2 * (8 : Int32)) + r8)).toNatClampNeg ((M15 (rf (rf o 4) 5) (((x2 * (8 : Int32)) + r8)).toNatClampNeg) + (1 : Int32)) → (∀ M22 : Mm, M22 = m_up M20 (rf o 4) 8 (if ((M20 (rf o 4) 8) + ((2 : Int32) * (M20 o 8))) < (99 : Int32) then ((M20 (rf o 4) 8) + ((2 : Int32) * (M20 o 8))) else (99 : Int32)) → (K M22)))))))))))))))))))))
set_option maxHeartbeats 4000000 in
set_option maxRecDepth 100000 in
theorem c_X0_open (l : Launch) (G : fx_G) {o : Nat} (ho : o ∈ id_Auction) {x1 : Int32} {x2 : Int32} {M : Mm} {K : Mm → Prop} (hT : T_X0_open o x1 x2 M K) : Met l yX0_open (fx_ws yX0_open cX0_open 4 none) (fx_rm (3)) (va_Pc [.ref (G.2.2.2 + o), .int x1, .int x2] (fx_P G SH M)) (va_Qv K (fx_R G SH) (fx_A G)) 0 0 (fx_A G) := by
  refine fx_met (own := RX0) (by decide +kernel) rfl (Nat.le_of_ble_eq_true rfl) (fun p e s m below meth c X hr hk h ls hl => ?_)
  obtain ⟨⟨hx, hb, hml, hown, hts⟩, hK, hQ⟩ := id X
  have hl : lv_has ls 4 [(0, .ref (G.2.2.2 + o)), (1, .int x1), (2, .int x2)] := hl
  unfold T_X0_open at hT
  refine lv_aload_n hx hb dX0_open_0 rfl (lv_at hl 0 rfl) ?_
  refine lv_iload_n hx hb dX0_open_1 rfl (lv_at hl 1 rfl) ?_
  refine lv_iload_n hx hb dX0_open_2 rfl (lv_at hl 2 rfl) ?_
  refine lv_aload_n hx hb dX0_open_3 rfl (lv_at hl 0 rfl) ?_
  refine fx_getI X h (k := o) (j := 7) (sc_Auction o ho) rfl fl_RX0_15 dX0_open_4 ?_
  refine lv_aload_n hx hb dX0_open_7 rfl (lv_at hl 0 rfl) ?_
  refine fx_getI X h (k := o) (j := 8) (sc_Auction o ho) rfl fl_RX0_18 dX0_open_8 ?_
  refine fx_vv X h ym_X0_setScene yi_X0_setScene ys_X0_setScene (fx_s3 (List.mem_of_getElem? (i := 132) rfl) rfl) (sc_Auction o ho) rfl (c_X0_setScene l G ho hT) (As := [.int x1, .int x2, .int (M o 7), .int (M o 8)]) (rest := []) rfl rfl ⟨Nat.le_of_ble_eq_true rfl, Nat.le_of_ble_eq_true rfl⟩ ⟨Nat.le_refl _, Nat.le_refl _⟩ hl.1 (Nat.le_of_ble_eq_true rfl) dX0_open_11 (fun M2 H locs hT h => ?_)
  refine lv_aload_n hx hb dX0_open_14 rfl (lv_at hl 0 rfl) ?_
  refine lv_aload_n hx hb dX0_open_15 rfl (lv_at hl 0 rfl) ?_
  refine fx_getR X h (k := o) (j := 1) (r := (rf o 1)) (sc_Auction o ho) rfl fl_RX0_32 dX0_open_16 ?_
  refine lv_sipush (v := 258) hx hb dX0_open_19 (by decide) ?_
  refine fx_vi X h ym_X2_tell yi_X2_tell ys_X2_tell (fx_s3 (List.mem_of_getElem? (i := 141) rfl) rfl) (sc_Law (rf o 1) (sm_Auction_1 o ho)) rfl (c_X2_tell l G (sm_Auction_1 o ho) hT) (As := [.int (258 : Int32)]) (rest := [.ref (G.2.2.2 + o)]) rfl rfl ⟨Nat.le_of_ble_eq_true rfl, Nat.le_of_ble_eq_true rfl⟩ ⟨Nat.le_refl _, Nat.le_refl _⟩ hl.1 (Nat.le_of_ble_eq_true rfl) dX0_open_22 (fun r5 M4 H locs hT h => ?_)
  refine fx_vi X h ym_X0_found yi_X0_found ys_X0_found (fx_s3 (List.mem_of_getElem? (i := 185) rfl) rfl) (sc_Auction o ho) rfl (c_X0_found l G ho hT) (As := [.int r5]) (rest := []) rfl rfl ⟨Nat.le_of_ble_eq_true rfl, Nat.le_of_ble_eq_true rfl⟩ ⟨Nat.le_refl _, Nat.le_refl _⟩ hl.1 (Nat.le_of_ble_eq_true rfl) dX0_open_25 (fun r8 M7 H locs hT h => ?_)
  refine lv_istore_n (lv' := [(3, .int r8), (0, .ref (G.2.2.2 + o)), (1, .int x1), (2, .int x2)]) hx hb dX0_open_28 rfl hl (by decide) rfl (fun ls hl => ?_)
  refine lv_aload_n hx hb dX0_open_29 rfl (lv_at hl 1 rfl) ?_
  refine fx_getR X h (k := o) (j := 4) (r := (rf o 4)) (sc_Auction o ho) rfl fl_RX0_43 dX0_open_30 ?_
  refine fx_getR X h (k := (rf o 4)) (j := 1) (r := (rf (rf o 4) 1)) (sc_Quay (rf o 4) (sm_Auction_4 o ho)) rfl fl_RX0_147 dX0_open_33 ?_
  refine lv_iload_n hx hb dX0_open_36 rfl (lv_at hl 2 rfl) ?_
  refine lv_iload_n hx hb dX0_open_37 rfl (lv_at hl 0 rfl) ?_
  obtain ⟨hi10, hT⟩ := hT
  refine fx_iast X h (k := (rf (rf o 4) 1)) (sa_Quay_1 (rf o 4) (sm_Auction_4 o ho)) hi10 dX0_open_38 (fun H locs h => ?_)
  obtain ⟨M9, eM9⟩ : ∃ z : Mm, z = m_up M7 (rf (rf o 4) 1) (x1).toNatClampNeg r8 := ⟨_, rfl⟩
  have hT := hT M9 eM9
  rw [← eM9] at h
  refine lv_aload_n hx hb dX0_open_39 rfl (lv_at hl 1 rfl) ?_
  refine lv_iconst (v := 2) hx hb dX0_open_40 (by decide) ?_
  refine lv_iload_n hx hb dX0_open_41 rfl (lv_at hl 3 rfl) ?_
  refine lv_iload_n hx hb dX0_open_42 rfl (lv_at hl 0 rfl) ?_
  refine fx_vv X h ym_X0_note yi_X0_note ys_X0_note (fx_s3 (List.mem_of_getElem? (i := 177) rfl) rfl) (sc_Auction o ho) rfl (c_X0_note l G ho hT) (As := [.int (2 : Int32), .int x2, .int r8]) (rest := []) rfl rfl ⟨Nat.le_of_ble_eq_true rfl, Nat.le_of_ble_eq_true rfl⟩ ⟨Nat.le_refl _, Nat.le_refl _⟩ hl.1 (Nat.le_of_ble_eq_true rfl) dX0_open_43 (fun M12 H locs hT h => ?_)
  refine lv_aload_n hx hb dX0_open_46 rfl (lv_at hl 1 rfl) ?_
  refine fx_getR X h (k := o) (j := 4) (r := (rf o 4)) (sc_Auction o ho) rfl fl_RX0_43 dX0_open_47 ?_
  refine fx_getR X h (k := (rf o 4)) (j := 4) (r := (rf (rf o 4) 4)) (sc_Quay (rf o 4) (sm_Auction_4 o ho)) rfl fl_RX0_150 dX0_open_50 ?_
  refine lv_iload_n hx hb dX0_open_53 rfl (lv_at hl 3 rfl) ?_
  refine lv_dup2_11 hx hb dX0_open_54 rfl rfl ?_
  obtain ⟨hi13, hT⟩ := hT
  refine fx_iald X h (k := (rf (rf o 4) 4)) (sa_Quay_4 (rf o 4) (sm_Auction_4 o ho)) hi13 dX0_open_55 ?_
  refine lv_aload_n hx hb dX0_open_56 rfl (lv_at hl 1 rfl) ?_
  refine fx_getR X h (k := o) (j := 4) (r := (rf o 4)) (sc_Auction o ho) rfl fl_RX0_43 dX0_open_57 ?_
  refine fx_getR X h (k := (rf o 4)) (j := 2) (r := (rf (rf o 4) 2)) (sc_Quay (rf o 4) (sm_Auction_4 o ho)) rfl fl_RX0_153 dX0_open_60 ?_
  refine lv_iload_n hx hb dX0_open_63 rfl (lv_at hl 2 rfl) ?_
  obtain ⟨hi14, hT⟩ := hT
  refine fx_iald X h (k := (rf (rf o 4) 2)) (sa_Quay_2 (rf o 4) (sm_Auction_4 o ho)) hi14 dX0_open_64 ?_
  refine lv_iadd hx hb dX0_open_65 ?_
  obtain ⟨hi16, hT⟩ := hT
  refine fx_iast X h (k := (rf (rf o 4) 4)) (sa_Quay_4 (rf o 4) (sm_Auction_4 o ho)) hi16 dX0_open_66 (fun H locs h => ?_)
  obtain ⟨M15, eM15⟩ : ∃ z : Mm, z = m_up M12 (rf (rf o 4) 4) (x2).toNatClampNeg ((M12 (rf (rf o 4) 4) (x2).toNatClampNeg) + (M12 (rf (rf o 4) 2) (x1).toNatClampNeg)) := ⟨_, rfl⟩
  have hT := hT M15 eM15
  rw [← eM15] at h
  refine lv_iload_n hx hb dX0_open_67 rfl (lv_at hl 0 rfl) ?_
  refine lv_if_le (tgt := 118) hx hb dX0_open_68 (by decide) (fun hc17 => ?_) (fun hc17 => ?_)
  · have hT := hT.1 hc17
    refine lv_aload_n hx hb dX0_open_118 rfl (lv_at hl 1 rfl) ?_
    refine fx_getR X h (k := o) (j := 4) (r := (rf o 4)) (sc_Auction o ho) rfl fl_RX0_43 dX0_open_119 ?_
    refine lv_iconst (v := 0) hx hb dX0_open_122 (by decide) ?_
    refine lv_aload_n hx hb dX0_open_123 rfl (lv_at hl 1 rfl) ?_
    refine fx_getR X h (k := o) (j := 4) (r := (rf o 4)) (sc_Auction o ho) rfl fl_RX0_43 dX0_open_124 ?_
    refine fx_getI X h (k := (rf o 4)) (j := 8) (sc_Quay (rf o 4) (sm_Auction_4 o ho)) rfl fl_RX0_85 dX0_open_127 ?_
    refine lv_iconst (v := 3) hx hb dX0_open_130 (by decide) ?_
    refine lv_isub hx hb dX0_open_131 ?_
    refine va_mmax hx hb (hml.trans hl.1.symm) hown (hts _ (fx_s3 (List.mem_of_getElem? (i := 190) rfl) rfl)) (hts _ mt_max_s) (hts _ mt_i) (hts _ mt_max_c) (Nat.le_of_ble_eq_true rfl) (Nat.le_of_ble_eq_true rfl) (Nat.le_refl _) (Nat.le_refl _) dX0_open_132 ?_
    refine fx_putI X h (k := (rf o 4)) (j := 8) (sc_Quay (rf o 4) (sm_Auction_4 o ho)) rfl fl_RX0_85 dX0_open_135 (fun H locs h => ?_)
    obtain ⟨M18, eM18⟩ : ∃ z : Mm, z = m_up M15 (rf o 4) 8 (if (0 : Int32) < ((M15 (rf o 4) 8) - (3 : Int32)) then ((M15 (rf o 4) 8) - (3 : Int32)) else (0 : Int32)) := ⟨_, rfl⟩
    have hT := hT M18 eM18
    rw [← eM18] at h
    exact fx_vret X hr hk h hT dX0_open_138
  · have hT := hT.2 hc17
    refine lv_aload_n hx hb dX0_open_71 rfl (lv_at hl 1 rfl) ?_
    refine fx_getR X h (k := o) (j := 4) (r := (rf o 4)) (sc_Auction o ho) rfl fl_RX0_43 dX0_open_72 ?_
    refine fx_getR X h (k := (rf o 4)) (j := 5) (r := (rf (rf o 4) 5)) (sc_Quay (rf o 4) (sm_Auction_4 o ho)) rfl fl_RX0_156 dX0_open_75 ?_
    refine lv_iload_n hx hb dX0_open_78 rfl (lv_at hl 3 rfl) ?_
    refine lv_bipush (v := 8) hx hb dX0_open_79 (by decide) ?_
    refine lv_imul hx hb dX0_open_81 ?_
    refine lv_iload_n hx hb dX0_open_82 rfl (lv_at hl 0 rfl) ?_
    refine lv_iadd hx hb dX0_open_83 ?_
    refine lv_dup2_11 hx hb dX0_open_84 rfl rfl ?_
    obtain ⟨hi19, hT⟩ := hT
    refine fx_iald X h (k := (rf (rf o 4) 5)) (sa_Quay_5 (rf o 4) (sm_Auction_4 o ho)) hi19 dX0_open_85 ?_
    refine lv_iconst (v := 1) hx hb dX0_open_86 (by decide) ?_
    refine lv_iadd hx hb dX0_open_87 ?_
    obtain ⟨hi21, hT⟩ := hT
    refine fx_iast X h (k := (rf (rf o 4) 5)) (sa_Quay_5 (rf o 4) (sm_Auction_4 o ho)) hi21 dX0_open_88 (fun H locs h => ?_)
    obtain ⟨M20, eM20⟩ : ∃ z : Mm, z = m_up M15 (rf (rf o 4) 5) (((x2 * (8 : Int32)) + r8)).toNatClampNeg ((M15 (rf (rf o 4) 5) (((x2 * (8 : Int32)) + r8)).toNatClampNeg) + (1 : Int32)) := ⟨_, rfl⟩
    have hT := hT M20 eM20
    rw [← eM20] at h
    refine lv_aload_n hx hb dX0_open_89 rfl (lv_at hl 1 rfl) ?_
    refine fx_getR X h (k := o) (j := 4) (r := (rf o 4)) (sc_Auction o ho) rfl fl_RX0_43 dX0_open_90 ?_
    refine lv_bipush (v := 99) hx hb dX0_open_93 (by decide) ?_
    refine lv_aload_n hx hb dX0_open_95 rfl (lv_at hl 1 rfl) ?_
    refine fx_getR X h (k := o) (j := 4) (r := (rf o 4)) (sc_Auction o ho) rfl fl_RX0_43 dX0_open_96 ?_
    refine fx_getI X h (k := (rf o 4)) (j := 8) (sc_Quay (rf o 4) (sm_Auction_4 o ho)) rfl fl_RX0_85 dX0_open_99 ?_
    refine lv_iconst (v := 2) hx hb dX0_open_102 (by decide) ?_
    refine lv_aload_n hx hb dX0_open_103 rfl (lv_at hl 1 rfl) ?_
    refine fx_getI X h (k := o) (j := 8) (sc_Auction o ho) rfl fl_RX0_18 dX0_open_104 ?_
    refine lv_imul hx hb dX0_open_107 ?_
    refine lv_iadd hx hb dX0_open_108 ?_
    refine va_mmin hx hb (hml.trans hl.1.symm) hown (hts _ (fx_s3 (List.mem_of_getElem? (i := 189) rfl) rfl)) (hts _ mt_min_s) (hts _ mt_i) (hts _ mt_min_c) (Nat.le_of_ble_eq_true rfl) (Nat.le_of_ble_eq_true rfl) (Nat.le_refl _) (Nat.le_refl _) dX0_open_109 ?_
    refine fx_putI X h (k := (rf o 4)) (j := 8) (sc_Quay (rf o 4) (sm_Auction_4 o ho)) rfl fl_RX0_85 dX0_open_112 (fun H locs h => ?_)
    obtain ⟨M22, eM22⟩ : ∃ z : Mm, z = m_up M20 (rf o 4) 8 (if ((M20 (rf o 4) 8) + ((2 : Int32) * (M20 o 8))) < (99 : Int32) then ((M20 (rf o 4) 8) + ((2 : Int32) * (M20 o 8))) else (99 : Int32)) := ⟨_, rfl⟩
    have hT := hT M22 eM22
    rw [← eM22] at h
    refine lv_goto (tgt := 138) hx hb dX0_open_115 (by decide) ?_
    exact fx_vret X hr hk h hT dX0_open_138
/-! MockParcels$Auction.sellOff(I)Z -/
theorem dX0_sellOff_0 : decode cX0_sellOff 0 = .ok (.aload_n 0, 1) := by decide +kernel
theorem dX0_sellOff_1 : decode cX0_sellOff 1 = .ok (.iload_n 1, 1) := by decide +kernel
theorem dX0_sellOff_2 : decode cX0_sellOff 2 = .ok (.invokevirtual 130, 3) := by decide +kernel
theorem dX0_sellOff_5 : decode cX0_sellOff 5 = .ok (.ifCond .ne 5, 3) := by decide +kernel
theorem dX0_sellOff_8 : decode cX0_sellOff 8 = .ok (.iconst 0, 1) := by decide +kernel
theorem dX0_sellOff_9 : decode cX0_sellOff 9 = .ok (.ireturn, 1) := by decide +kernel
theorem dX0_sellOff_10 : decode cX0_sellOff 10 = .ok (.aload_n 0, 1) := by decide +kernel
theorem dX0_sellOff_11 : decode cX0_sellOff 11 = .ok (.iload_n 1, 1) := by decide +kernel
theorem dX0_sellOff_12 : decode cX0_sellOff 12 = .ok (.invokevirtual 133, 3) := by decide +kernel
theorem dX0_sellOff_15 : decode cX0_sellOff 15 = .ok (.aload_n 0, 1) := by decide +kernel
theorem dX0_sellOff_16 : decode cX0_sellOff 16 = .ok (.getfield 27, 3) := by decide +kernel
theorem dX0_sellOff_19 : decode cX0_sellOff 19 = .ok (.aload_n 0, 1) := by decide +kernel
theorem dX0_sellOff_20 : decode cX0_sellOff 20 = .ok (.getfield 9, 3) := by decide +kernel
theorem dX0_sellOff_23 : decode cX0_sellOff 23 = .ok (.invokevirtual 57, 3) := by decide +kernel
theorem dX0_sellOff_26 : decode cX0_sellOff 26 = .ok (.ifCond .ne 27, 3) := by decide +kernel
theorem dX0_sellOff_29 : decode cX0_sellOff 29 = .ok (.aload_n 0, 1) := by decide +kernel
theorem dX0_sellOff_30 : decode cX0_sellOff 30 = .ok (.getfield 43, 3) := by decide +kernel
theorem dX0_sellOff_33 : decode cX0_sellOff 33 = .ok (.dup, 1) := by decide +kernel
theorem dX0_sellOff_34 : decode cX0_sellOff 34 = .ok (.getfield 85, 3) := by decide +kernel
theorem dX0_sellOff_37 : decode cX0_sellOff 37 = .ok (.aload_n 0, 1) := by decide +kernel
theorem dX0_sellOff_38 : decode cX0_sellOff 38 = .ok (.getfield 43, 3) := by decide +kernel
theorem dX0_sellOff_41 : decode cX0_sellOff 41 = .ok (.getfield 85, 3) := by decide +kernel
theorem dX0_sellOff_44 : decode cX0_sellOff 44 = .ok (.bipush 10, 2) := by decide +kernel
theorem dX0_sellOff_46 : decode cX0_sellOff 46 = .ok (.idiv, 1) := by decide +kernel
theorem dX0_sellOff_47 : decode cX0_sellOff 47 = .ok (.isub, 1) := by decide +kernel
theorem dX0_sellOff_48 : decode cX0_sellOff 48 = .ok (.putfield 85, 3) := by decide +kernel
theorem dX0_sellOff_51 : decode cX0_sellOff 51 = .ok (.iconst 0, 1) := by decide +kernel
theorem dX0_sellOff_52 : decode cX0_sellOff 52 = .ok (.ireturn, 1) := by decide +kernel
theorem dX0_sellOff_53 : decode cX0_sellOff 53 = .ok (.aload_n 0, 1) := by decide +kernel
theorem dX0_sellOff_54 : decode cX0_sellOff 54 = .ok (.getfield 27, 3) := by decide +kernel
theorem dX0_sellOff_57 : decode cX0_sellOff 57 = .ok (.getfield 77, 3) := by decide +kernel
theorem dX0_sellOff_60 : decode cX0_sellOff 60 = .ok (.aload_n 0, 1) := by decide +kernel
theorem dX0_sellOff_61 : decode cX0_sellOff 61 = .ok (.getfield 9, 3) := by decide +kernel
theorem dX0_sellOff_64 : decode cX0_sellOff 64 = .ok (.iaload, 1) := by decide +kernel
theorem dX0_sellOff_65 : decode cX0_sellOff 65 = .ok (.iconst 1, 1) := by decide +kernel
theorem dX0_sellOff_66 : decode cX0_sellOff 66 = .ok (.if_icmp .ne 7, 3) := by decide +kernel
theorem dX0_sellOff_69 : decode cX0_sellOff 69 = .ok (.iconst 0, 1) := by decide +kernel
theorem dX0_sellOff_70 : decode cX0_sellOff 70 = .ok (.goto 7, 3) := by decide +kernel
theorem dX0_sellOff_73 : decode cX0_sellOff 73 = .ok (.aload_n 0, 1) := by decide +kernel
theorem dX0_sellOff_74 : decode cX0_sellOff 74 = .ok (.getfield 15, 3) := by decide +kernel
theorem dX0_sellOff_77 : decode cX0_sellOff 77 = .ok (.istore_n 2, 1) := by decide +kernel
theorem dX0_sellOff_78 : decode cX0_sellOff 78 = .ok (.aload_n 0, 1) := by decide +kernel
theorem dX0_sellOff_79 : decode cX0_sellOff 79 = .ok (.getfield 43, 3) := by decide +kernel
theorem dX0_sellOff_82 : decode cX0_sellOff 82 = .ok (.getfield 80, 3) := by decide +kernel
theorem dX0_sellOff_85 : decode cX0_sellOff 85 = .ok (.aload_n 0, 1) := by decide +kernel
theorem dX0_sellOff_86 : decode cX0_sellOff 86 = .ok (.getfield 9, 3) := by decide +kernel
theorem dX0_sellOff_89 : decode cX0_sellOff 89 = .ok (.dup2, 1) := by decide +kernel
theorem dX0_sellOff_90 : decode cX0_sellOff 90 = .ok (.iaload, 1) := by decide +kernel
theorem dX0_sellOff_91 : decode cX0_sellOff 91 = .ok (.iload_n 2, 1) := by decide +kernel
theorem dX0_sellOff_92 : decode cX0_sellOff 92 = .ok (.isub, 1) := by decide +kernel
theorem dX0_sellOff_93 : decode cX0_sellOff 93 = .ok (.iastore, 1) := by decide +kernel
theorem dX0_sellOff_94 : decode cX0_sellOff 94 = .ok (.aload_n 0, 1) := by decide +kernel
theorem dX0_sellOff_95 : decode cX0_sellOff 95 = .ok (.getfield 43, 3) := by decide +kernel
theorem dX0_sellOff_98 : decode cX0_sellOff 98 = .ok (.dup, 1) := by decide +kernel
theorem dX0_sellOff_99 : decode cX0_sellOff 99 = .ok (.getfield 137, 3) := by decide +kernel
theorem dX0_sellOff_102 : decode cX0_sellOff 102 = .ok (.iload_n 2, 1) := by decide +kernel
theorem dX0_sellOff_103 : decode cX0_sellOff 103 = .ok (.iadd, 1) := by decide +kernel
theorem dX0_sellOff_104 : decode cX0_sellOff 104 = .ok (.putfield 137, 3) := by decide +kernel
theorem dX0_sellOff_107 : decode cX0_sellOff 107 = .ok (.aload_n 0, 1) := by decide +kernel
theorem dX0_sellOff_108 : decode cX0_sellOff 108 = .ok (.getfield 43, 3) := by decide +kernel
theorem dX0_sellOff_111 : decode cX0_sellOff 111 = .ok (.getfield 98, 3) := by decide +kernel
theorem dX0_sellOff_114 : decode cX0_sellOff 114 = .ok (.iload_n 1, 1) := by decide +kernel
theorem dX0_sellOff_115 : decode cX0_sellOff 115 = .ok (.aload_n 0, 1) := by decide +kernel
theorem dX0_sellOff_116 : decode cX0_sellOff 116 = .ok (.getfield 9, 3) := by decide +kernel
theorem dX0_sellOff_119 : decode cX0_sellOff 119 = .ok (.iastore, 1) := by decide +kernel
theorem dX0_sellOff_120 : decode cX0_sellOff 120 = .ok (.aload_n 0, 1) := by decide +kernel
theorem dX0_sellOff_121 : decode cX0_sellOff 121 = .ok (.iconst 1, 1) := by decide +kernel
theorem dX0_sellOff_122 : decode cX0_sellOff 122 = .ok (.aload_n 0, 1) := by decide +kernel
theorem dX0_sellOff_123 : decode cX0_sellOff 123 = .ok (.getfield 9, 3) := by decide +kernel
theorem dX0_sellOff_126 : decode cX0_sellOff 126 = .ok (.iload_n 2, 1) := by decide +kernel
theorem dX0_sellOff_127 : decode cX0_sellOff 127 = .ok (.invokevirtual 126, 3) := by decide +kernel
theorem dX0_sellOff_130 : decode cX0_sellOff 130 = .ok (.aload_n 0, 1) := by decide +kernel
theorem dX0_sellOff_131 : decode cX0_sellOff 131 = .ok (.iload_n 1, 1) := by decide +kernel
theorem dX0_sellOff_132 : decode cX0_sellOff 132 = .ok (.aload_n 0, 1) := by decide +kernel
theorem dX0_sellOff_133 : decode cX0_sellOff 133 = .ok (.getfield 9, 3) := by decide +kernel
theorem dX0_sellOff_136 : decode cX0_sellOff 136 = .ok (.invokevirtual 140, 3) := by decide +kernel
theorem dX0_sellOff_139 : decode cX0_sellOff 139 = .ok (.iconst 1, 1) := by decide +kernel
theorem dX0_sellOff_140 : decode cX0_sellOff 140 = .ok (.ireturn, 1) := by decide +kernel
def T_X0_sellOff_77 (o : Nat) (x1 : Int32) (s0 : Int32) (M : Mm) (K : Int32 → Mm → Prop) : Prop := (vp_in (M o 6) 8 ∧ (vp_in (M o 6) 8 ∧ (∀ M2 : Mm, M2 = m_up M (rf (rf o 4) 3) ((M o 6)).toNatClampNeg ((M (rf (rf o 4) 3) ((M o 6)).toNatClampNeg) - s0) → (∀ M4 : Mm, M4 = m_up M2 (rf o 4) 7 ((M2 (rf o 4) 7) + s0) → (vp_in x1 16 ∧ (∀ M5 : Mm, M5 = m_up M4 (rf (rf o 4) 0) (x1).toNatClampNeg (M4 o 6) → (T_X0_note o (1 : Int32) (M5 o 6) s0 M5 (fun M8 => (T_X0_open o x1 (M8 o 6) M8 (fun M10 => (K (1 : Int32) M10)))))))))))
set_option maxHeartbeats 4000000 in
set_option maxRecDepth 100000 in
theorem w_X0_sellOff_77 {p : Program} {l : Launch} {e : Env} {s : State} {m : MethodId} {args : Array Value} {below : List Frame} {meth : Method} {c : Code} {G : fx_G} {K : Int32 → Mm → Prop} {o : Nat} (ho : o ∈ id_Auction) (X : fx_C G p s m c args cX0_sellOff 3 RX0) (hr : meth.sig.returnType = (some .boolean)) (hk : meth.locks = false) : ∀ (x1 : Int32) (s0 : Int32) (M : Mm) (H : Heap) (locs : List Loc) (ls : Array Slot), T_X0_sellOff_77 o x1 s0 M K → fx_H G SH M s H locs → lv_has ls 3 [(0, .ref (G.2.2.2 + o)), (1, .int x1)] → W p l e (fx_rm (5)) s m args below meth c H locs 0 0 (MQ below (va_Qi K (fx_R G SH) (fx_A G)) args s 0 0 (fx_A G)) (F0 m 77 ls [.int s0]) := by
  obtain ⟨⟨hx, hb, hml, hown, hts⟩, hK, hQ⟩ := id X
  intro x1 s0 M H locs ls hT h hl
  unfold T_X0_sellOff_77 at hT
  refine lv_istore_n (lv' := [(2, .int s0), (0, .ref (G.2.2.2 + o)), (1, .int x1)]) hx hb dX0_sellOff_77 rfl hl (by decide) rfl (fun ls hl => ?_)
  refine lv_aload_n hx hb dX0_sellOff_78 rfl (lv_at hl 1 rfl) ?_
  refine fx_getR X h (k := o) (j := 4) (r := (rf o 4)) (sc_Auction o ho) rfl fl_RX0_43 dX0_sellOff_79 ?_
  refine fx_getR X h (k := (rf o 4)) (j := 3) (r := (rf (rf o 4) 3)) (sc_Quay (rf o 4) (sm_Auction_4 o ho)) rfl fl_RX0_80 dX0_sellOff_82 ?_
  refine lv_aload_n hx hb dX0_sellOff_85 rfl (lv_at hl 1 rfl) ?_
  refine fx_getI X h (k := o) (j := 6) (sc_Auction o ho) rfl fl_RX0_9 dX0_sellOff_86 ?_
  refine lv_dup2_11 hx hb dX0_sellOff_89 rfl rfl ?_
  obtain ⟨hi1, hT⟩ := hT
  refine fx_iald X h (k := (rf (rf o 4) 3)) (sa_Quay_3 (rf o 4) (sm_Auction_4 o ho)) hi1 dX0_sellOff_90 ?_
  refine lv_iload_n hx hb dX0_sellOff_91 rfl (lv_at hl 0 rfl) ?_
  refine lv_isub hx hb dX0_sellOff_92 ?_
  obtain ⟨hi3, hT⟩ := hT
  refine fx_iast X h (k := (rf (rf o 4) 3)) (sa_Quay_3 (rf o 4) (sm_Auction_4 o ho)) hi3 dX0_sellOff_93 (fun H locs h => ?_)
  obtain ⟨M2, eM2⟩ : ∃ z : Mm, z = m_up M (rf (rf o 4) 3) ((M o 6)).toNatClampNeg ((M (rf (rf o 4) 3) ((M o 6)).toNatClampNeg) - s0) := ⟨_, rfl⟩
  have hT := hT M2 eM2
  rw [← eM2] at h
  refine lv_aload_n hx hb dX0_sellOff_94 rfl (lv_at hl 1 rfl) ?_
  refine fx_getR X h (k := o) (j := 4) (r := (rf o 4)) (sc_Auction o ho) rfl fl_RX0_43 dX0_sellOff_95 ?_
  refine lv_dup hx hb dX0_sellOff_98 rfl ?_
  refine fx_getI X h (k := (rf o 4)) (j := 7) (sc_Quay (rf o 4) (sm_Auction_4 o ho)) rfl fl_RX0_137 dX0_sellOff_99 ?_
  refine lv_iload_n hx hb dX0_sellOff_102 rfl (lv_at hl 0 rfl) ?_
  refine lv_iadd hx hb dX0_sellOff_103 ?_
  refine fx_putI X h (k := (rf o 4)) (j := 7) (sc_Quay (rf o 4) (sm_Auction_4 o ho)) rfl fl_RX0_137 dX0_sellOff_104 (fun H locs h => ?_)
  obtain ⟨M4, eM4⟩ : ∃ z : Mm, z = m_up M2 (rf o 4) 7 ((M2 (rf o 4) 7) + s0) := ⟨_, rfl⟩
  have hT := hT M4 eM4
  rw [← eM4] at h
  refine lv_aload_n hx hb dX0_sellOff_107 rfl (lv_at hl 1 rfl) ?_
  refine fx_getR X h (k := o) (j := 4) (r := (rf o 4)) (sc_Auction o ho) rfl fl_RX0_43 dX0_sellOff_108 ?_
  refine fx_getR X h (k := (rf o 4)) (j := 0) (r := (rf (rf o 4) 0)) (sc_Quay (rf o 4) (sm_Auction_4 o ho)) rfl fl_RX0_98 dX0_sellOff_111 ?_
  refine lv_iload_n hx hb dX0_sellOff_114 rfl (lv_at hl 2 rfl) ?_
  refine lv_aload_n hx hb dX0_sellOff_115 rfl (lv_at hl 1 rfl) ?_
  refine fx_getI X h (k := o) (j := 6) (sc_Auction o ho) rfl fl_RX0_9 dX0_sellOff_116 ?_
  obtain ⟨hi6, hT⟩ := hT
  refine fx_iast X h (k := (rf (rf o 4) 0)) (sa_Quay_0 (rf o 4) (sm_Auction_4 o ho)) hi6 dX0_sellOff_119 (fun H locs h => ?_)
  obtain ⟨M5, eM5⟩ : ∃ z : Mm, z = m_up M4 (rf (rf o 4) 0) (x1).toNatClampNeg (M4 o 6) := ⟨_, rfl⟩
  have hT := hT M5 eM5
  rw [← eM5] at h
  refine lv_aload_n hx hb dX0_sellOff_120 rfl (lv_at hl 1 rfl) ?_
  refine lv_iconst (v := 1) hx hb dX0_sellOff_121 (by decide) ?_
  refine lv_aload_n hx hb dX0_sellOff_122 rfl (lv_at hl 1 rfl) ?_
  refine fx_getI X h (k := o) (j := 6) (sc_Auction o ho) rfl fl_RX0_9 dX0_sellOff_123 ?_
  refine lv_iload_n hx hb dX0_sellOff_126 rfl (lv_at hl 0 rfl) ?_
  refine fx_vv X h ym_X0_note yi_X0_note ys_X0_note (fx_s3 (List.mem_of_getElem? (i := 177) rfl) rfl) (sc_Auction o ho) rfl (c_X0_note l G ho hT) (As := [.int (1 : Int32), .int (M5 o 6), .int s0]) (rest := []) rfl rfl ⟨Nat.le_of_ble_eq_true rfl, Nat.le_of_ble_eq_true rfl⟩ ⟨Nat.le_refl _, Nat.le_refl _⟩ hl.1 (Nat.le_of_ble_eq_true rfl) dX0_sellOff_127 (fun M8 H locs hT h => ?_)
  refine lv_aload_n hx hb dX0_sellOff_130 rfl (lv_at hl 1 rfl) ?_
  refine lv_iload_n hx hb dX0_sellOff_131 rfl (lv_at hl 2 rfl) ?_
  refine lv_aload_n hx hb dX0_sellOff_132 rfl (lv_at hl 1 rfl) ?_
  refine fx_getI X h (k := o) (j := 6) (sc_Auction o ho) rfl fl_RX0_9 dX0_sellOff_133 ?_
  refine fx_vv X h ym_X0_open yi_X0_open ys_X0_open (fx_s3 (List.mem_of_getElem? (i := 181) rfl) rfl) (sc_Auction o ho) rfl (c_X0_open l G ho hT) (As := [.int x1, .int (M8 o 6)]) (rest := []) rfl rfl ⟨Nat.le_of_ble_eq_true rfl, Nat.le_of_ble_eq_true rfl⟩ ⟨Nat.le_refl _, Nat.le_refl _⟩ hl.1 (Nat.le_of_ble_eq_true rfl) dX0_sellOff_136 (fun M10 H locs hT h => ?_)
  refine lv_iconst (v := 1) hx hb dX0_sellOff_139 (by decide) ?_
  exact fx_zret X hr hk h (Or.inr rfl) hT dX0_sellOff_140
def T_X0_sellOff (o : Nat) (x1 : Int32) (M : Mm) (K : Int32 → Mm → Prop) : Prop := (T_X0_canSell o x1 M (fun r13 M12 => ((r13 = 0 → (K (0 : Int32) M12)) ∧ (¬ r13 = 0 → (T_X0_callBids o x1 M12 (fun M16 => (T_X1_hasBidder (rf o 0) (M16 o 6) M16 (fun r19 M18 => ((r19 = 0 → (∀ M23 : Mm, M23 = m_up M18 (rf o 4) 8 ((M18 (rf o 4) 8) - ((M18 (rf o 4) 8) / (10 : Int32))) → (K (0 : Int32) M23))) ∧ (¬ r19 = 0 → (vp_in (M18 o 6) 8 ∧ (((M18 (rf (rf o 0) 6) ((M18 o 6)).toNatClampNeg) = (1 : Int32) → (T_X0_sellOff_77 o x1 (0 : Int32) M18 K)) ∧ (¬ (M18 (rf (rf o 0) 6) ((M18 o 6)).toNatClampNeg) = (1 : Int32) → (T_X0_sellOff_77 o x1 (M18 o 7) M18 K))))))))))))))
set_option maxHeartbeats 4000000 in
set_option maxRecDepth 100000 in
theorem c_X0_sellOff (l : Launch) (G : fx_G) {o : Nat} (ho : o ∈ id_Auction) {x1 : Int32} {M : Mm} {K : Int32 → Mm → Prop} (hT : T_X0_sellOff o x1 M K) : Met l yX0_sellOff (fx_ws yX0_sellOff cX0_sellOff 3 (some .boolean)) (fx_rm (5)) (va_Pc [.ref (G.2.2.2 + o), .int x1] (fx_P G SH M)) (va_Qi K (fx_R G SH) (fx_A G)) 0 0 (fx_A G) := by
  refine fx_met (own := RX0) (by decide +kernel) rfl (Nat.le_of_ble_eq_true rfl) (fun p e s m below meth c X hr hk h ls hl => ?_)
  obtain ⟨⟨hx, hb, hml, hown, hts⟩, hK, hQ⟩ := id X
  have hl : lv_has ls 3 [(0, .ref (G.2.2.2 + o)), (1, .int x1)] := hl
  unfold T_X0_sellOff at hT
  refine lv_aload_n hx hb dX0_sellOff_0 rfl (lv_at hl 0 rfl) ?_
  refine lv_iload_n hx hb dX0_sellOff_1 rfl (lv_at hl 1 rfl) ?_
  refine fx_vi X h ym_X0_canSell yi_X0_canSell ys_X0_canSell (fx_s3 (List.mem_of_getElem? (i := 119) rfl) rfl) (sc_Auction o ho) rfl (c_X0_canSell l G ho hT) (As := [.int x1]) (rest := []) rfl rfl ⟨Nat.le_of_ble_eq_true rfl, Nat.le_of_ble_eq_true rfl⟩ ⟨Nat.le_refl _, Nat.le_refl _⟩ hl.1 (Nat.le_of_ble_eq_true rfl) dX0_sellOff_2 (fun r13 M12 H locs hT h => ?_)
  refine lv_if_ne (tgt := 10) hx hb dX0_sellOff_5 (by decide) (fun hc14 => ?_) (fun hc14 => ?_)
  · have hT := hT.2 hc14
    refine lv_aload_n hx hb dX0_sellOff_10 rfl (lv_at hl 0 rfl) ?_
    refine lv_iload_n hx hb dX0_sellOff_11 rfl (lv_at hl 1 rfl) ?_
    refine fx_vv X h ym_X0_callBids yi_X0_callBids ys_X0_callBids (fx_s3 (List.mem_of_getElem? (i := 120) rfl) rfl) (sc_Auction o ho) rfl (c_X0_callBids l G ho hT) (As := [.int x1]) (rest := []) rfl rfl ⟨Nat.le_of_ble_eq_true rfl, Nat.le_of_ble_eq_true rfl⟩ ⟨Nat.le_refl _, Nat.le_refl _⟩ hl.1 (Nat.le_of_ble_eq_true rfl) dX0_sellOff_12 (fun M16 H locs hT h => ?_)
    refine lv_aload_n hx hb dX0_sellOff_15 rfl (lv_at hl 0 rfl) ?_
    refine fx_getR X h (k := o) (j := 0) (r := (rf o 0)) (sc_Auction o ho) rfl fl_RX0_27 dX0_sellOff_16 ?_
    refine lv_aload_n hx hb dX0_sellOff_19 rfl (lv_at hl 0 rfl) ?_
    refine fx_getI X h (k := o) (j := 6) (sc_Auction o ho) rfl fl_RX0_9 dX0_sellOff_20 ?_
    refine fx_vi X h ym_X1_hasBidder yi_X1_hasBidder ys_X1_hasBidder (fx_s3 (List.mem_of_getElem? (i := 136) rfl) rfl) (sc_Cast (rf o 0) (sm_Auction_0 o ho)) rfl (c_X1_hasBidder l G (sm_Auction_0 o ho) hT) (As := [.int (M16 o 6)]) (rest := []) rfl rfl ⟨Nat.le_of_ble_eq_true rfl, Nat.le_of_ble_eq_true rfl⟩ ⟨Nat.le_refl _, Nat.le_refl _⟩ hl.1 (Nat.le_of_ble_eq_true rfl) dX0_sellOff_23 (fun r19 M18 H locs hT h => ?_)
    refine lv_if_ne (tgt := 53) hx hb dX0_sellOff_26 (by decide) (fun hc20 => ?_) (fun hc20 => ?_)
    · have hT := hT.2 hc20
      refine lv_aload_n hx hb dX0_sellOff_53 rfl (lv_at hl 0 rfl) ?_
      refine fx_getR X h (k := o) (j := 0) (r := (rf o 0)) (sc_Auction o ho) rfl fl_RX0_27 dX0_sellOff_54 ?_
      refine fx_getR X h (k := (rf o 0)) (j := 6) (r := (rf (rf o 0) 6)) (sc_Cast (rf o 0) (sm_Auction_0 o ho)) rfl fl_RX0_77 dX0_sellOff_57 ?_
      refine lv_aload_n hx hb dX0_sellOff_60 rfl (lv_at hl 0 rfl) ?_
      refine fx_getI X h (k := o) (j := 6) (sc_Auction o ho) rfl fl_RX0_9 dX0_sellOff_61 ?_
      obtain ⟨hi21, hT⟩ := hT
      refine fx_iald X h (k := (rf (rf o 0) 6)) (sa_Cast_6 (rf o 0) (sm_Auction_0 o ho)) hi21 dX0_sellOff_64 ?_
      refine lv_iconst (v := 1) hx hb dX0_sellOff_65 (by decide) ?_
      refine lv_icmp_ne (tgt := 73) hx hb dX0_sellOff_66 (by decide) (fun hc22 => ?_) (fun hc22 => ?_)
      · have hT := hT.2 hc22
        refine lv_aload_n hx hb dX0_sellOff_73 rfl (lv_at hl 0 rfl) ?_
        refine fx_getI X h (k := o) (j := 7) (sc_Auction o ho) rfl fl_RX0_15 dX0_sellOff_74 ?_
        exact w_X0_sellOff_77 ho X hr hk x1 (M18 o 7) M18 _ _ ls hT h (lv_sub hl [0, 1] rfl)
      · have hT := hT.1 hc22
        refine lv_iconst (v := 0) hx hb dX0_sellOff_69 (by decide) ?_
        refine lv_goto (tgt := 77) hx hb dX0_sellOff_70 (by decide) ?_
        exact w_X0_sellOff_77 ho X hr hk x1 (0 : Int32) M18 _ _ ls hT h (lv_sub hl [0, 1] rfl)
    · have hT := hT.1 hc20
      refine lv_aload_n hx hb dX0_sellOff_29 rfl (lv_at hl 0 rfl) ?_
      refine fx_getR X h (k := o) (j := 4) (r := (rf o 4)) (sc_Auction o ho) rfl fl_RX0_43 dX0_sellOff_30 ?_
      refine lv_dup hx hb dX0_sellOff_33 rfl ?_
      refine fx_getI X h (k := (rf o 4)) (j := 8) (sc_Quay (rf o 4) (sm_Auction_4 o ho)) rfl fl_RX0_85 dX0_sellOff_34 ?_
      refine lv_aload_n hx hb dX0_sellOff_37 rfl (lv_at hl 0 rfl) ?_
      refine fx_getR X h (k := o) (j := 4) (r := (rf o 4)) (sc_Auction o ho) rfl fl_RX0_43 dX0_sellOff_38 ?_
      refine fx_getI X h (k := (rf o 4)) (j := 8) (sc_Quay (rf o 4) (sm_Auction_4 o ho)) rfl fl_RX0_85 dX0_sellOff_41 ?_
      refine lv_bipush (v := 10) hx hb dX0_sellOff_44 (by decide) ?_
      refine lv_idiv hx hb dX0_sellOff_46 (by decide) ?_
      refine lv_isub hx hb dX0_sellOff_47 ?_
      refine fx_putI X h (k := (rf o 4)) (j := 8) (sc_Quay (rf o 4) (sm_Auction_4 o ho)) rfl fl_RX0_85 dX0_sellOff_48 (fun H locs h => ?_)
      obtain ⟨M23, eM23⟩ : ∃ z : Mm, z = m_up M18 (rf o 4) 8 ((M18 (rf o 4) 8) - ((M18 (rf o 4) 8) / (10 : Int32))) := ⟨_, rfl⟩
      have hT := hT M23 eM23
      rw [← eM23] at h
      refine lv_iconst (v := 0) hx hb dX0_sellOff_51 (by decide) ?_
      exact fx_zret X hr hk h (Or.inl rfl) hT dX0_sellOff_52
  · have hT := hT.1 hc14
    refine lv_iconst (v := 0) hx hb dX0_sellOff_8 (by decide) ?_
    exact fx_zret X hr hk h (Or.inl rfl) hT dX0_sellOff_9
/-! MockParcels$Auction.seize(I)V -/
theorem dX0_seize_0 : decode cX0_seize 0 = .ok (.iconst 1, 1) := by decide +kernel
theorem dX0_seize_1 : decode cX0_seize 1 = .ok (.istore_n 2, 1) := by decide +kernel
theorem dX0_seize_2 : decode cX0_seize 2 = .ok (.iload_n 2, 1) := by decide +kernel
theorem dX0_seize_3 : decode cX0_seize 3 = .ok (.bipush 7, 2) := by decide +kernel
theorem dX0_seize_5 : decode cX0_seize 5 = .ok (.if_icmp .gt 65, 3) := by decide +kernel
theorem dX0_seize_8 : decode cX0_seize 8 = .ok (.aload_n 0, 1) := by decide +kernel
theorem dX0_seize_9 : decode cX0_seize 9 = .ok (.getfield 43, 3) := by decide +kernel
theorem dX0_seize_12 : decode cX0_seize 12 = .ok (.getfield 156, 3) := by decide +kernel
theorem dX0_seize_15 : decode cX0_seize 15 = .ok (.iload_n 1, 1) := by decide +kernel
theorem dX0_seize_16 : decode cX0_seize 16 = .ok (.bipush 8, 2) := by decide +kernel
theorem dX0_seize_18 : decode cX0_seize 18 = .ok (.imul, 1) := by decide +kernel
theorem dX0_seize_19 : decode cX0_seize 19 = .ok (.iload_n 2, 1) := by decide +kernel
theorem dX0_seize_20 : decode cX0_seize 20 = .ok (.iadd, 1) := by decide +kernel
theorem dX0_seize_21 : decode cX0_seize 21 = .ok (.iaload, 1) := by decide +kernel
theorem dX0_seize_22 : decode cX0_seize 22 = .ok (.ifCond .le 42, 3) := by decide +kernel
theorem dX0_seize_25 : decode cX0_seize 25 = .ok (.aload_n 0, 1) := by decide +kernel
theorem dX0_seize_26 : decode cX0_seize 26 = .ok (.getfield 43, 3) := by decide +kernel
theorem dX0_seize_29 : decode cX0_seize 29 = .ok (.getfield 156, 3) := by decide +kernel
theorem dX0_seize_32 : decode cX0_seize 32 = .ok (.iload_n 1, 1) := by decide +kernel
theorem dX0_seize_33 : decode cX0_seize 33 = .ok (.bipush 8, 2) := by decide +kernel
theorem dX0_seize_35 : decode cX0_seize 35 = .ok (.imul, 1) := by decide +kernel
theorem dX0_seize_36 : decode cX0_seize 36 = .ok (.iload_n 2, 1) := by decide +kernel
theorem dX0_seize_37 : decode cX0_seize 37 = .ok (.iadd, 1) := by decide +kernel
theorem dX0_seize_38 : decode cX0_seize 38 = .ok (.dup2, 1) := by decide +kernel
theorem dX0_seize_39 : decode cX0_seize 39 = .ok (.iaload, 1) := by decide +kernel
theorem dX0_seize_40 : decode cX0_seize 40 = .ok (.iconst 1, 1) := by decide +kernel
theorem dX0_seize_41 : decode cX0_seize 41 = .ok (.isub, 1) := by decide +kernel
theorem dX0_seize_42 : decode cX0_seize 42 = .ok (.iastore, 1) := by decide +kernel
theorem dX0_seize_43 : decode cX0_seize 43 = .ok (.aload_n 0, 1) := by decide +kernel
theorem dX0_seize_44 : decode cX0_seize 44 = .ok (.getfield 43, 3) := by decide +kernel
theorem dX0_seize_47 : decode cX0_seize 47 = .ok (.dup, 1) := by decide +kernel
theorem dX0_seize_48 : decode cX0_seize 48 = .ok (.getfield 198, 3) := by decide +kernel
theorem dX0_seize_51 : decode cX0_seize 51 = .ok (.iconst 1, 1) := by decide +kernel
theorem dX0_seize_52 : decode cX0_seize 52 = .ok (.iadd, 1) := by decide +kernel
theorem dX0_seize_53 : decode cX0_seize 53 = .ok (.putfield 198, 3) := by decide +kernel
theorem dX0_seize_56 : decode cX0_seize 56 = .ok (.aload_n 0, 1) := by decide +kernel
theorem dX0_seize_57 : decode cX0_seize 57 = .ok (.iconst 3, 1) := by decide +kernel
theorem dX0_seize_58 : decode cX0_seize 58 = .ok (.iload_n 1, 1) := by decide +kernel
theorem dX0_seize_59 : decode cX0_seize 59 = .ok (.iload_n 2, 1) := by decide +kernel
theorem dX0_seize_60 : decode cX0_seize 60 = .ok (.invokevirtual 126, 3) := by decide +kernel
theorem dX0_seize_63 : decode cX0_seize 63 = .ok (.return_, 1) := by decide +kernel
theorem dX0_seize_64 : decode cX0_seize 64 = .ok (.iinc 2 1, 3) := by decide +kernel
theorem dX0_seize_67 : decode cX0_seize 67 = .ok (.goto (-65), 3) := by decide +kernel
theorem dX0_seize_70 : decode cX0_seize 70 = .ok (.return_, 1) := by decide +kernel
def T_X0_seize_2 (o : Nat) : Nat → Int32 → Int32 → Mm → (Mm → Prop) → Prop
  | 0, _, _, _, _ => False
  | n + 1, x1, x2, M, K => (((7 : Int32) < x2 → (K M)) ∧ (¬ (7 : Int32) < x2 → (vp_in ((x1 * (8 : Int32)) + x2) 64 ∧ (((M (rf (rf o 4) 5) (((x1 * (8 : Int32)) + x2)).toNatClampNeg) ≤ 0 → (∀ y4 : Int32, y4 = x2 + (1 : Int32) → (T_X0_seize_2 o n x1 y4 M K))) ∧ (¬ (M (rf (rf o 4) 5) (((x1 * (8 : Int32)) + x2)).toNatClampNeg) ≤ 0 → (vp_in ((x1 * (8 : Int32)) + x2) 64 ∧ (vp_in ((x1 * (8 : Int32)) + x2) 64 ∧ (∀ M6 : Mm, M6 = m_up M (rf (rf o 4) 5) (((x1 * (8 : Int32)) + x2)).toNatClampNeg ((M (rf (rf o 4) 5) (((x1 * (8 : Int32)) + x2)).toNatClampNeg) - (1 : Int32)) → (∀ M8 : Mm, M8 = m_up M6 (rf o 4) 11 ((M6 (rf o 4) 11) + (1 : Int32)) → (T_X0_note o (3 : Int32) x1 x2 M8 (fun M10 => (K M10))))))))))))
set_option maxHeartbeats 4000000 in
set_option maxRecDepth 100000 in
theorem w_X0_seize_2 {p : Program} {l : Launch} {e : Env} {s : State} {m : MethodId} {args : Array Value} {below : List Frame} {meth : Method} {c : Code} {G : fx_G} {K : Mm → Prop} {o : Nat} (ho : o ∈ id_Auction) (X : fx_C G p s m c args cX0_seize 3 RX0) (hr : meth.sig.returnType = none) (hk : meth.locks = false) : ∀ (n : Nat) (x1 : Int32) (x2 : Int32) (M : Mm) (H : Heap) (locs : List Loc) (ls : Array Slot), T_X0_seize_2 o n x1 x2 M K → fx_H G SH M s H locs → lv_has ls 3 [(0, .ref (G.2.2.2 + o)), (1, .int x1), (2, .int x2)] → W p l e (fx_rm (1)) s m args below meth c H locs 0 0 (MQ below (va_Qv K (fx_R G SH) (fx_A G)) args s 0 0 (fx_A G)) (F0 m 2 ls []) := by
  obtain ⟨⟨hx, hb, hml, hown, hts⟩, hK, hQ⟩ := id X
  intro n
  induction n with
  | zero =>
    intro x1 x2 M H locs ls hT
    exact hT.elim
  | succ n ih =>
    intro x1 x2 M H locs ls hT h hl
    rw [T_X0_seize_2] at hT
    refine lv_iload_n hx hb dX0_seize_2 rfl (lv_at hl 2 rfl) ?_
    refine lv_bipush (v := 7) hx hb dX0_seize_3 (by decide) ?_
    refine lv_icmp_gt (tgt := 70) hx hb dX0_seize_5 (by decide) (fun hc1 => ?_) (fun hc1 => ?_)
    · have hT := hT.1 hc1
      exact fx_vret X hr hk h hT dX0_seize_70
    · have hT := hT.2 hc1
      refine lv_aload_n hx hb dX0_seize_8 rfl (lv_at hl 0 rfl) ?_
      refine fx_getR X h (k := o) (j := 4) (r := (rf o 4)) (sc_Auction o ho) rfl fl_RX0_43 dX0_seize_9 ?_
      refine fx_getR X h (k := (rf o 4)) (j := 5) (r := (rf (rf o 4) 5)) (sc_Quay (rf o 4) (sm_Auction_4 o ho)) rfl fl_RX0_156 dX0_seize_12 ?_
      refine lv_iload_n hx hb dX0_seize_15 rfl (lv_at hl 1 rfl) ?_
      refine lv_bipush (v := 8) hx hb dX0_seize_16 (by decide) ?_
      refine lv_imul hx hb dX0_seize_18 ?_
      refine lv_iload_n hx hb dX0_seize_19 rfl (lv_at hl 2 rfl) ?_
      refine lv_iadd hx hb dX0_seize_20 ?_
      obtain ⟨hi2, hT⟩ := hT
      refine fx_iald X h (k := (rf (rf o 4) 5)) (sa_Quay_5 (rf o 4) (sm_Auction_4 o ho)) hi2 dX0_seize_21 ?_
      refine lv_if_le (tgt := 64) hx hb dX0_seize_22 (by decide) (fun hc3 => ?_) (fun hc3 => ?_)
      · have hT := hT.1 hc3
        obtain ⟨y4, ey4⟩ : ∃ z : Int32, z = x2 + (1 : Int32) := ⟨_, rfl⟩
        have hT := hT y4 ey4
        refine lv_iinc (v := y4) (lv' := [(2, .int y4), (0, .ref (G.2.2.2 + o)), (1, .int x1)]) hx hb dX0_seize_64 hl (k := 2) rfl (by rw [ey4]; rfl) (by decide) rfl (fun ls hl => ?_)
        refine lv_goto (tgt := 2) hx hb dX0_seize_67 (by decide) ?_
        exact ih x1 y4 M _ _ ls hT h (lv_sub hl [1, 2, 0] rfl)
      · have hT := hT.2 hc3
        refine lv_aload_n hx hb dX0_seize_25 rfl (lv_at hl 0 rfl) ?_
        refine fx_getR X h (k := o) (j := 4) (r := (rf o 4)) (sc_Auction o ho) rfl fl_RX0_43 dX0_seize_26 ?_
        refine fx_getR X h (k := (rf o 4)) (j := 5) (r := (rf (rf o 4) 5)) (sc_Quay (rf o 4) (sm_Auction_4 o ho)) rfl fl_RX0_156 dX0_seize_29 ?_
        refine lv_iload_n hx hb dX0_seize_32 rfl (lv_at hl 1 rfl) ?_
        refine lv_bipush (v := 8) hx hb dX0_seize_33 (by decide) ?_
        refine lv_imul hx hb dX0_seize_35 ?_
        refine lv_iload_n hx hb dX0_seize_36 rfl (lv_at hl 2 rfl) ?_
        refine lv_iadd hx hb dX0_seize_37 ?_
        refine lv_dup2_11 hx hb dX0_seize_38 rfl rfl ?_
        obtain ⟨hi5, hT⟩ := hT
        refine fx_iald X h (k := (rf (rf o 4) 5)) (sa_Quay_5 (rf o 4) (sm_Auction_4 o ho)) hi5 dX0_seize_39 ?_
        refine lv_iconst (v := 1) hx hb dX0_seize_40 (by decide) ?_
        refine lv_isub hx hb dX0_seize_41 ?_
        obtain ⟨hi7, hT⟩ := hT
        refine fx_iast X h (k := (rf (rf o 4) 5)) (sa_Quay_5 (rf o 4) (sm_Auction_4 o ho)) hi7 dX0_seize_42 (fun H locs h => ?_)
        obtain ⟨M6, eM6⟩ : ∃ z : Mm, z = m_up M (rf (rf o 4) 5) (((x1 * (8 : Int32)) + x2)).toNatClampNeg ((M (rf (rf o 4) 5) (((x1 * (8 : Int32)) + x2)).toNatClampNeg) - (1 : Int32)) := ⟨_, rfl⟩
        have hT := hT M6 eM6
        rw [← eM6] at h
        refine lv_aload_n hx hb dX0_seize_43 rfl (lv_at hl 0 rfl) ?_
        refine fx_getR X h (k := o) (j := 4) (r := (rf o 4)) (sc_Auction o ho) rfl fl_RX0_43 dX0_seize_44 ?_
        refine lv_dup hx hb dX0_seize_47 rfl ?_
        refine fx_getI X h (k := (rf o 4)) (j := 11) (sc_Quay (rf o 4) (sm_Auction_4 o ho)) rfl fl_RX0_198 dX0_seize_48 ?_
        refine lv_iconst (v := 1) hx hb dX0_seize_51 (by decide) ?_
        refine lv_iadd hx hb dX0_seize_52 ?_
        refine fx_putI X h (k := (rf o 4)) (j := 11) (sc_Quay (rf o 4) (sm_Auction_4 o ho)) rfl fl_RX0_198 dX0_seize_53 (fun H locs h => ?_)
        obtain ⟨M8, eM8⟩ : ∃ z : Mm, z = m_up M6 (rf o 4) 11 ((M6 (rf o 4) 11) + (1 : Int32)) := ⟨_, rfl⟩
        have hT := hT M8 eM8
        rw [← eM8] at h
        refine lv_aload_n hx hb dX0_seize_56 rfl (lv_at hl 0 rfl) ?_
        refine lv_iconst (v := 3) hx hb dX0_seize_57 (by decide) ?_
        refine lv_iload_n hx hb dX0_seize_58 rfl (lv_at hl 1 rfl) ?_
        refine lv_iload_n hx hb dX0_seize_59 rfl (lv_at hl 2 rfl) ?_
        refine fx_vv X h ym_X0_note yi_X0_note ys_X0_note (fx_s3 (List.mem_of_getElem? (i := 177) rfl) rfl) (sc_Auction o ho) rfl (c_X0_note l G ho hT) (As := [.int (3 : Int32), .int x1, .int x2]) (rest := []) rfl rfl ⟨Nat.le_of_ble_eq_true rfl, Nat.le_of_ble_eq_true rfl⟩ ⟨Nat.le_refl _, Nat.le_refl _⟩ hl.1 (Nat.le_of_ble_eq_true rfl) dX0_seize_60 (fun M10 H locs hT h => ?_)
        exact fx_vret X hr hk h hT dX0_seize_63
def T_X0_seize (o : Nat) (x1 : Int32) (M : Mm) (K : Mm → Prop) : Prop := (T_X0_seize_2 o 5000 x1 (1 : Int32) M K)
set_option maxHeartbeats 4000000 in
set_option maxRecDepth 100000 in
theorem c_X0_seize (l : Launch) (G : fx_G) {o : Nat} (ho : o ∈ id_Auction) {x1 : Int32} {M : Mm} {K : Mm → Prop} (hT : T_X0_seize o x1 M K) : Met l yX0_seize (fx_ws yX0_seize cX0_seize 3 none) (fx_rm (1)) (va_Pc [.ref (G.2.2.2 + o), .int x1] (fx_P G SH M)) (va_Qv K (fx_R G SH) (fx_A G)) 0 0 (fx_A G) := by
  refine fx_met (own := RX0) (by decide +kernel) rfl (Nat.le_of_ble_eq_true rfl) (fun p e s m below meth c X hr hk h ls hl => ?_)
  obtain ⟨⟨hx, hb, hml, hown, hts⟩, hK, hQ⟩ := id X
  have hl : lv_has ls 3 [(0, .ref (G.2.2.2 + o)), (1, .int x1)] := hl
  unfold T_X0_seize at hT
  refine lv_iconst (v := 1) hx hb dX0_seize_0 (by decide) ?_
  refine lv_istore_n (lv' := [(2, .int (1 : Int32)), (0, .ref (G.2.2.2 + o)), (1, .int x1)]) hx hb dX0_seize_1 rfl hl (by decide) rfl (fun ls hl => ?_)
  exact w_X0_seize_2 ho X hr hk 5000 x1 (1 : Int32) M _ _ ls hT h (lv_sub hl [1, 2, 0] rfl)
/-! MockParcels$Auction.raid()V -/
theorem dX0_raid_0 : decode cX0_raid 0 = .ok (.iconst (-1), 1) := by decide +kernel
theorem dX0_raid_1 : decode cX0_raid 1 = .ok (.istore_n 1, 1) := by decide +kernel
theorem dX0_raid_2 : decode cX0_raid 2 = .ok (.iconst 0, 1) := by decide +kernel
theorem dX0_raid_3 : decode cX0_raid 3 = .ok (.istore_n 2, 1) := by decide +kernel
theorem dX0_raid_4 : decode cX0_raid 4 = .ok (.iconst 0, 1) := by decide +kernel
theorem dX0_raid_5 : decode cX0_raid 5 = .ok (.istore_n 3, 1) := by decide +kernel
theorem dX0_raid_6 : decode cX0_raid 6 = .ok (.iload_n 3, 1) := by decide +kernel
theorem dX0_raid_7 : decode cX0_raid 7 = .ok (.aload_n 0, 1) := by decide +kernel
theorem dX0_raid_8 : decode cX0_raid 8 = .ok (.getfield 27, 3) := by decide +kernel
theorem dX0_raid_11 : decode cX0_raid 11 = .ok (.getfield 101, 3) := by decide +kernel
theorem dX0_raid_14 : decode cX0_raid 14 = .ok (.if_icmp .ge 48, 3) := by decide +kernel
theorem dX0_raid_17 : decode cX0_raid 17 = .ok (.iload_n 3, 1) := by decide +kernel
theorem dX0_raid_18 : decode cX0_raid 18 = .ok (.bipush 8, 2) := by decide +kernel
theorem dX0_raid_20 : decode cX0_raid 20 = .ok (.if_icmp .ge 42, 3) := by decide +kernel
theorem dX0_raid_23 : decode cX0_raid 23 = .ok (.aload_n 0, 1) := by decide +kernel
theorem dX0_raid_24 : decode cX0_raid 24 = .ok (.getfield 43, 3) := by decide +kernel
theorem dX0_raid_27 : decode cX0_raid 27 = .ok (.iload_n 3, 1) := by decide +kernel
theorem dX0_raid_28 : decode cX0_raid 28 = .ok (.invokevirtual 91, 3) := by decide +kernel
theorem dX0_raid_31 : decode cX0_raid 31 = .ok (.istore 4, 2) := by decide +kernel
theorem dX0_raid_33 : decode cX0_raid 33 = .ok (.aload_n 0, 1) := by decide +kernel
theorem dX0_raid_34 : decode cX0_raid 34 = .ok (.getfield 27, 3) := by decide +kernel
theorem dX0_raid_37 : decode cX0_raid 37 = .ok (.getfield 77, 3) := by decide +kernel
theorem dX0_raid_40 : decode cX0_raid 40 = .ok (.iload_n 3, 1) := by decide +kernel
theorem dX0_raid_41 : decode cX0_raid 41 = .ok (.iaload, 1) := by decide +kernel
theorem dX0_raid_42 : decode cX0_raid 42 = .ok (.ifCond .ne 14, 3) := by decide +kernel
theorem dX0_raid_45 : decode cX0_raid 45 = .ok (.iload 4, 2) := by decide +kernel
theorem dX0_raid_47 : decode cX0_raid 47 = .ok (.iload_n 2, 1) := by decide +kernel
theorem dX0_raid_48 : decode cX0_raid 48 = .ok (.if_icmp .le 8, 3) := by decide +kernel
theorem dX0_raid_51 : decode cX0_raid 51 = .ok (.iload_n 3, 1) := by decide +kernel
theorem dX0_raid_52 : decode cX0_raid 52 = .ok (.istore_n 1, 1) := by decide +kernel
theorem dX0_raid_53 : decode cX0_raid 53 = .ok (.iload 4, 2) := by decide +kernel
theorem dX0_raid_55 : decode cX0_raid 55 = .ok (.istore_n 2, 1) := by decide +kernel
theorem dX0_raid_56 : decode cX0_raid 56 = .ok (.iinc 3 1, 3) := by decide +kernel
theorem dX0_raid_59 : decode cX0_raid 59 = .ok (.goto (-53), 3) := by decide +kernel
theorem dX0_raid_62 : decode cX0_raid 62 = .ok (.iload_n 1, 1) := by decide +kernel
theorem dX0_raid_63 : decode cX0_raid 63 = .ok (.iconst (-1), 1) := by decide +kernel
theorem dX0_raid_64 : decode cX0_raid 64 = .ok (.if_icmp .eq 8, 3) := by decide +kernel
theorem dX0_raid_67 : decode cX0_raid 67 = .ok (.aload_n 0, 1) := by decide +kernel
theorem dX0_raid_68 : decode cX0_raid 68 = .ok (.iload_n 1, 1) := by decide +kernel
theorem dX0_raid_69 : decode cX0_raid 69 = .ok (.invokevirtual 195, 3) := by decide +kernel
theorem dX0_raid_72 : decode cX0_raid 72 = .ok (.return_, 1) := by decide +kernel
def T_X0_raid_62 (o : Nat) (x1 : Int32) (M : Mm) (K : Mm → Prop) : Prop := ((x1 = (-1 : Int32) → (K M)) ∧ (¬ x1 = (-1 : Int32) → (T_X0_seize o x1 M (fun M3 => (K M3)))))
set_option maxHeartbeats 4000000 in
set_option maxRecDepth 100000 in
theorem w_X0_raid_62 {p : Program} {l : Launch} {e : Env} {s : State} {m : MethodId} {args : Array Value} {below : List Frame} {meth : Method} {c : Code} {G : fx_G} {K : Mm → Prop} {o : Nat} (ho : o ∈ id_Auction) (X : fx_C G p s m c args cX0_raid 5 RX0) (hr : meth.sig.returnType = none) (hk : meth.locks = false) : ∀ (x1 : Int32) (M : Mm) (H : Heap) (locs : List Loc) (ls : Array Slot), T_X0_raid_62 o x1 M K → fx_H G SH M s H locs → lv_has ls 5 [(0, .ref (G.2.2.2 + o)), (1, .int x1)] → W p l e (fx_rm (2)) s m args below meth c H locs 0 0 (MQ below (va_Qv K (fx_R G SH) (fx_A G)) args s 0 0 (fx_A G)) (F0 m 62 ls []) := by
  obtain ⟨⟨hx, hb, hml, hown, hts⟩, hK, hQ⟩ := id X
  intro x1 M H locs ls hT h hl
  unfold T_X0_raid_62 at hT
  refine lv_iload_n hx hb dX0_raid_62 rfl (lv_at hl 1 rfl) ?_
  refine lv_iconst (v := -1) hx hb dX0_raid_63 (by decide) ?_
  refine lv_icmp_eq (tgt := 72) hx hb dX0_raid_64 (by decide) (fun hc1 => ?_) (fun hc1 => ?_)
  · have hT := hT.1 hc1
    exact fx_vret X hr hk h hT dX0_raid_72
  · have hT := hT.2 hc1
    refine lv_aload_n hx hb dX0_raid_67 rfl (lv_at hl 0 rfl) ?_
    refine lv_iload_n hx hb dX0_raid_68 rfl (lv_at hl 1 rfl) ?_
    refine fx_vv X h ym_X0_seize yi_X0_seize ys_X0_seize (fx_s3 (List.mem_of_getElem? (i := 232) rfl) rfl) (sc_Auction o ho) rfl (c_X0_seize l G ho hT) (As := [.int x1]) (rest := []) rfl rfl ⟨Nat.le_of_ble_eq_true rfl, Nat.le_of_ble_eq_true rfl⟩ ⟨Nat.le_refl _, Nat.le_refl _⟩ hl.1 (Nat.le_of_ble_eq_true rfl) dX0_raid_69 (fun M3 H locs hT h => ?_)
    exact fx_vret X hr hk h hT dX0_raid_72
def T_X0_raid_56 (B6 : Int32 → Int32 → Int32 → Mm → Prop) (o : Nat) (x1 : Int32) (x2 : Int32) (x3 : Int32) (M : Mm) (K : Mm → Prop) : Prop := (∀ y4 : Int32, y4 = x3 + (1 : Int32) → (B6 x1 x2 y4 M))
set_option maxHeartbeats 4000000 in
set_option maxRecDepth 100000 in
theorem w_X0_raid_56 {p : Program} {l : Launch} {e : Env} {s : State} {m : MethodId} {args : Array Value} {below : List Frame} {meth : Method} {c : Code} {G : fx_G} {K : Mm → Prop} {B6 : Int32 → Int32 → Int32 → Mm → Prop} {o : Nat} (ho : o ∈ id_Auction) (X : fx_C G p s m c args cX0_raid 5 RX0) (hr : meth.sig.returnType = none) (hk : meth.locks = false) (hB6 : ∀ (x1 : Int32) (x2 : Int32) (x3 : Int32) (M : Mm) (H : Heap) (locs : List Loc) (ls : Array Slot), B6 x1 x2 x3 M → fx_H G SH M s H locs → lv_has ls 5 [(0, .ref (G.2.2.2 + o)), (1, .int x1), (2, .int x2), (3, .int x3)] → W p l e (fx_rm (2)) s m args below meth c H locs 0 0 (MQ below (va_Qv K (fx_R G SH) (fx_A G)) args s 0 0 (fx_A G)) (F0 m 6 ls [])) : ∀ (x1 : Int32) (x2 : Int32) (x3 : Int32) (M : Mm) (H : Heap) (locs : List Loc) (ls : Array Slot), T_X0_raid_56 B6 o x1 x2 x3 M K → fx_H G SH M s H locs → lv_has ls 5 [(0, .ref (G.2.2.2 + o)), (1, .int x1), (2, .int x2), (3, .int x3)] → W p l e (fx_rm (2)) s m args below meth c H locs 0 0 (MQ below (va_Qv K (fx_R G SH) (fx_A G)) args s 0 0 (fx_A G)) (F0 m 56 ls []) := by
  obtain ⟨⟨hx, hb, hml, hown, hts⟩, hK, hQ⟩ := id X
  intro x1 x2 x3 M H locs ls hT h hl
  unfold T_X0_raid_56 at hT
  obtain ⟨y4, ey4⟩ : ∃ z : Int32, z = x3 + (1 : Int32) := ⟨_, rfl⟩
  have hT := hT y4 ey4
  refine lv_iinc (v := y4) (lv' := [(3, .int y4), (0, .ref (G.2.2.2 + o)), (1, .int x1), (2, .int x2)]) hx hb dX0_raid_56 hl (k := 3) rfl (by rw [ey4]; rfl) (by decide) rfl (fun ls hl => ?_)
  refine lv_goto (tgt := 6) hx hb dX0_raid_59 (by decide) ?_
  exact hB6 x1 x2 y4 M _ _ ls hT h (lv_sub hl [1, 2, 3, 0] rfl)
def T_X0_raid_6 (o : Nat) : Nat → Int32 → Int32 → Int32 → Mm → (Mm → Prop) → Prop
  | 0, _, _, _, _, _ => False
  | n + 1, x1, x2, x3, M, K => (((M (rf o 0) 1) ≤ x3 → (T_X0_raid_62 o x1 M K)) ∧ (¬ (M (rf o 0) 1) ≤ x3 → (((8 : Int32) ≤ x3 → (T_X0_raid_62 o x1 M K)) ∧ (¬ (8 : Int32) ≤ x3 → (T_X6_things (rf o 4) x3 M (fun r9 M8 => (vp_in x3 8 ∧ (((M8 (rf (rf o 0) 6) (x3).toNatClampNeg) = 0 → ((r9 ≤ x2 → (T_X0_raid_56 (fun x1 x2 x3 M => T_X0_raid_6 o n x1 x2 x3 M K) o x1 x2 x3 M8 K)) ∧ (¬ r9 ≤ x2 → (T_X0_raid_56 (fun x1 x2 x3 M => T_X0_raid_6 o n x1 x2 x3 M K) o x3 r9 x3 M8 K)))) ∧ (¬ (M8 (rf (rf o 0) 6) (x3).toNatClampNeg) = 0 → (T_X0_raid_56 (fun x1 x2 x3 M => T_X0_raid_6 o n x1 x2 x3 M K) o x1 x2 x3 M8 K))))))))))
set_option maxHeartbeats 4000000 in
set_option maxRecDepth 100000 in
theorem w_X0_raid_6 {p : Program} {l : Launch} {e : Env} {s : State} {m : MethodId} {args : Array Value} {below : List Frame} {meth : Method} {c : Code} {G : fx_G} {K : Mm → Prop} {o : Nat} (ho : o ∈ id_Auction) (X : fx_C G p s m c args cX0_raid 5 RX0) (hr : meth.sig.returnType = none) (hk : meth.locks = false) : ∀ (n : Nat) (x1 : Int32) (x2 : Int32) (x3 : Int32) (M : Mm) (H : Heap) (locs : List Loc) (ls : Array Slot), T_X0_raid_6 o n x1 x2 x3 M K → fx_H G SH M s H locs → lv_has ls 5 [(0, .ref (G.2.2.2 + o)), (1, .int x1), (2, .int x2), (3, .int x3)] → W p l e (fx_rm (2)) s m args below meth c H locs 0 0 (MQ below (va_Qv K (fx_R G SH) (fx_A G)) args s 0 0 (fx_A G)) (F0 m 6 ls []) := by
  obtain ⟨⟨hx, hb, hml, hown, hts⟩, hK, hQ⟩ := id X
  intro n
  induction n with
  | zero =>
    intro x1 x2 x3 M H locs ls hT
    exact hT.elim
  | succ n ih =>
    intro x1 x2 x3 M H locs ls hT h hl
    rw [T_X0_raid_6] at hT
    refine lv_iload_n hx hb dX0_raid_6 rfl (lv_at hl 3 rfl) ?_
    refine lv_aload_n hx hb dX0_raid_7 rfl (lv_at hl 0 rfl) ?_
    refine fx_getR X h (k := o) (j := 0) (r := (rf o 0)) (sc_Auction o ho) rfl fl_RX0_27 dX0_raid_8 ?_
    refine fx_getI X h (k := (rf o 0)) (j := 1) (sc_Cast (rf o 0) (sm_Auction_0 o ho)) rfl fl_RX0_101 dX0_raid_11 ?_
    refine lv_icmp_ge (tgt := 62) hx hb dX0_raid_14 (by decide) (fun hc5 => ?_) (fun hc5 => ?_)
    · have hT := hT.1 hc5
      exact w_X0_raid_62 ho X hr hk x1 M _ _ ls hT h (lv_sub hl [0, 1] rfl)
    · have hT := hT.2 hc5
      refine lv_iload_n hx hb dX0_raid_17 rfl (lv_at hl 3 rfl) ?_
      refine lv_bipush (v := 8) hx hb dX0_raid_18 (by decide) ?_
      refine lv_icmp_ge (tgt := 62) hx hb dX0_raid_20 (by decide) (fun hc6 => ?_) (fun hc6 => ?_)
      · have hT := hT.1 hc6
        exact w_X0_raid_62 ho X hr hk x1 M _ _ ls hT h (lv_sub hl [0, 1] rfl)
      · have hT := hT.2 hc6
        refine lv_aload_n hx hb dX0_raid_23 rfl (lv_at hl 0 rfl) ?_
        refine fx_getR X h (k := o) (j := 4) (r := (rf o 4)) (sc_Auction o ho) rfl fl_RX0_43 dX0_raid_24 ?_
        refine lv_iload_n hx hb dX0_raid_27 rfl (lv_at hl 3 rfl) ?_
        refine fx_vi X h ym_X6_things yi_X6_things ys_X6_things (fx_s3 (List.mem_of_getElem? (i := 137) rfl) rfl) (sc_Quay (rf o 4) (sm_Auction_4 o ho)) rfl (c_X6_things l G (sm_Auction_4 o ho) hT) (As := [.int x3]) (rest := []) rfl rfl ⟨Nat.le_of_ble_eq_true rfl, Nat.le_of_ble_eq_true rfl⟩ ⟨Nat.le_refl _, Nat.le_refl _⟩ hl.1 (Nat.le_of_ble_eq_true rfl) dX0_raid_28 (fun r9 M8 H locs hT h => ?_)
        refine lv_istore (lv' := [(4, .int r9), (0, .ref (G.2.2.2 + o)), (1, .int x1), (2, .int x2), (3, .int x3)]) hx hb dX0_raid_31 hl (by decide) rfl (fun ls hl => ?_)
        refine lv_aload_n hx hb dX0_raid_33 rfl (lv_at hl 1 rfl) ?_
        refine fx_getR X h (k := o) (j := 0) (r := (rf o 0)) (sc_Auction o ho) rfl fl_RX0_27 dX0_raid_34 ?_
        refine fx_getR X h (k := (rf o 0)) (j := 6) (r := (rf (rf o 0) 6)) (sc_Cast (rf o 0) (sm_Auction_0 o ho)) rfl fl_RX0_77 dX0_raid_37 ?_
        refine lv_iload_n hx hb dX0_raid_40 rfl (lv_at hl 4 rfl) ?_
        obtain ⟨hi10, hT⟩ := hT
        refine fx_iald X h (k := (rf (rf o 0) 6)) (sa_Cast_6 (rf o 0) (sm_Auction_0 o ho)) hi10 dX0_raid_41 ?_
        refine lv_if_ne (tgt := 56) hx hb dX0_raid_42 (by decide) (fun hc11 => ?_) (fun hc11 => ?_)
        · have hT := hT.2 hc11
          exact w_X0_raid_56 ho X hr hk (B6 := (fun x1 x2 x3 M => T_X0_raid_6 o n x1 x2 x3 M K)) ih x1 x2 x3 M8 _ _ ls hT h (lv_sub hl [1, 2, 3, 4] rfl)
        · have hT := hT.1 hc11
          refine lv_iload hx hb dX0_raid_45 (lv_at hl 0 rfl) ?_
          refine lv_iload_n hx hb dX0_raid_47 rfl (lv_at hl 3 rfl) ?_
          refine lv_icmp_le (tgt := 56) hx hb dX0_raid_48 (by decide) (fun hc12 => ?_) (fun hc12 => ?_)
          · have hT := hT.1 hc12
            exact w_X0_raid_56 ho X hr hk (B6 := (fun x1 x2 x3 M => T_X0_raid_6 o n x1 x2 x3 M K)) ih x1 x2 x3 M8 _ _ ls hT h (lv_sub hl [1, 2, 3, 4] rfl)
          · have hT := hT.2 hc12
            refine lv_iload_n hx hb dX0_raid_51 rfl (lv_at hl 4 rfl) ?_
            refine lv_istore_n (lv' := [(1, .int x3), (4, .int r9), (0, .ref (G.2.2.2 + o)), (2, .int x2), (3, .int x3)]) hx hb dX0_raid_52 rfl hl (by decide) rfl (fun ls hl => ?_)
            refine lv_iload hx hb dX0_raid_53 (lv_at hl 1 rfl) ?_
            refine lv_istore_n (lv' := [(2, .int r9), (1, .int x3), (4, .int r9), (0, .ref (G.2.2.2 + o)), (3, .int x3)]) hx hb dX0_raid_55 rfl hl (by decide) rfl (fun ls hl => ?_)
            exact w_X0_raid_56 ho X hr hk (B6 := (fun x1 x2 x3 M => T_X0_raid_6 o n x1 x2 x3 M K)) ih x3 r9 x3 M8 _ _ ls hT h (lv_sub hl [3, 1, 0, 4] rfl)
def T_X0_raid (o : Nat) (M : Mm) (K : Mm → Prop) : Prop := (T_X0_raid_6 o 5000 (-1 : Int32) (0 : Int32) (0 : Int32) M K)
set_option maxHeartbeats 4000000 in
set_option maxRecDepth 100000 in
theorem c_X0_raid (l : Launch) (G : fx_G) {o : Nat} (ho : o ∈ id_Auction) {M : Mm} {K : Mm → Prop} (hT : T_X0_raid o M K) : Met l yX0_raid (fx_ws yX0_raid cX0_raid 5 none) (fx_rm (2)) (va_Pc [.ref (G.2.2.2 + o)] (fx_P G SH M)) (va_Qv K (fx_R G SH) (fx_A G)) 0 0 (fx_A G) := by
  refine fx_met (own := RX0) (by decide +kernel) rfl (Nat.le_of_ble_eq_true rfl) (fun p e s m below meth c X hr hk h ls hl => ?_)
  obtain ⟨⟨hx, hb, hml, hown, hts⟩, hK, hQ⟩ := id X
  have hl : lv_has ls 5 [(0, .ref (G.2.2.2 + o))] := hl
  unfold T_X0_raid at hT
  refine lv_iconst (v := -1) hx hb dX0_raid_0 (by decide) ?_
  refine lv_istore_n (lv' := [(1, .int (-1 : Int32)), (0, .ref (G.2.2.2 + o))]) hx hb dX0_raid_1 rfl hl (by decide) rfl (fun ls hl => ?_)
  refine lv_iconst (v := 0) hx hb dX0_raid_2 (by decide) ?_
  refine lv_istore_n (lv' := [(2, .int (0 : Int32)), (1, .int (-1 : Int32)), (0, .ref (G.2.2.2 + o))]) hx hb dX0_raid_3 rfl hl (by decide) rfl (fun ls hl => ?_)
  refine lv_iconst (v := 0) hx hb dX0_raid_4 (by decide) ?_
  refine lv_istore_n (lv' := [(3, .int (0 : Int32)), (2, .int (0 : Int32)), (1, .int (-1 : Int32)), (0, .ref (G.2.2.2 + o))]) hx hb dX0_raid_5 rfl hl (by decide) rfl (fun ls hl => ?_)
  exact w_X0_raid_6 ho X hr hk 5000 (-1 : Int32) (0 : Int32) (0 : Int32) M _ _ ls hT h (lv_sub hl [3, 2, 1, 0] rfl)
/-! MockParcels$Auction.payOut(II)V -/
theorem dX0_payOut_0 : decode cX0_payOut 0 = .ok (.aload_n 0, 1) := by decide +kernel
theorem dX0_payOut_1 : decode cX0_payOut 1 = .ok (.getfield 27, 3) := by decide +kernel
theorem dX0_payOut_4 : decode cX0_payOut 4 = .ok (.iload_n 1, 1) := by decide +kernel
theorem dX0_payOut_5 : decode cX0_payOut 5 = .ok (.invokevirtual 57, 3) := by decide +kernel
theorem dX0_payOut_8 : decode cX0_payOut 8 = .ok (.ifCond .eq 29, 3) := by decide +kernel
theorem dX0_payOut_11 : decode cX0_payOut 11 = .ok (.aload_n 0, 1) := by decide +kernel
theorem dX0_payOut_12 : decode cX0_payOut 12 = .ok (.getfield 43, 3) := by decide +kernel
theorem dX0_payOut_15 : decode cX0_payOut 15 = .ok (.getfield 80, 3) := by decide +kernel
theorem dX0_payOut_18 : decode cX0_payOut 18 = .ok (.iload_n 1, 1) := by decide +kernel
theorem dX0_payOut_19 : decode cX0_payOut 19 = .ok (.sipush 9999, 3) := by decide +kernel
theorem dX0_payOut_22 : decode cX0_payOut 22 = .ok (.aload_n 0, 1) := by decide +kernel
theorem dX0_payOut_23 : decode cX0_payOut 23 = .ok (.getfield 43, 3) := by decide +kernel
theorem dX0_payOut_26 : decode cX0_payOut 26 = .ok (.getfield 80, 3) := by decide +kernel
theorem dX0_payOut_29 : decode cX0_payOut 29 = .ok (.iload_n 1, 1) := by decide +kernel
theorem dX0_payOut_30 : decode cX0_payOut 30 = .ok (.iaload, 1) := by decide +kernel
theorem dX0_payOut_31 : decode cX0_payOut 31 = .ok (.iload_n 2, 1) := by decide +kernel
theorem dX0_payOut_32 : decode cX0_payOut 32 = .ok (.iadd, 1) := by decide +kernel
theorem dX0_payOut_33 : decode cX0_payOut 33 = .ok (.invokestatic 159, 3) := by decide +kernel
theorem dX0_payOut_36 : decode cX0_payOut 36 = .ok (.iastore, 1) := by decide +kernel
theorem dX0_payOut_37 : decode cX0_payOut 37 = .ok (.return_, 1) := by decide +kernel
def T_X0_payOut (o : Nat) (x1 : Int32) (x2 : Int32) (M : Mm) (K : Mm → Prop) : Prop := (T_X1_hasBidder (rf o 0) x1 M (fun r3 M2 => ((r3 = 0 → (K M2)) ∧ (¬ r3 = 0 → (vp_in x1 8 ∧ (vp_in x1 8 ∧ (∀ M6 : Mm, M6 = m_up M2 (rf (rf o 4) 3) (x1).toNatClampNeg (if ((M2 (rf (rf o 4) 3) (x1).toNatClampNeg) + x2) < (9999 : Int32) then ((M2 (rf (rf o 4) 3) (x1).toNatClampNeg) + x2) else (9999 : Int32)) → (K M6))))))))
set_option maxHeartbeats 4000000 in
set_option maxRecDepth 100000 in
theorem c_X0_payOut (l : Launch) (G : fx_G) {o : Nat} (ho : o ∈ id_Auction) {x1 : Int32} {x2 : Int32} {M : Mm} {K : Mm → Prop} (hT : T_X0_payOut o x1 x2 M K) : Met l yX0_payOut (fx_ws yX0_payOut cX0_payOut 3 none) (fx_rm (1)) (va_Pc [.ref (G.2.2.2 + o), .int x1, .int x2] (fx_P G SH M)) (va_Qv K (fx_R G SH) (fx_A G)) 0 0 (fx_A G) := by
  refine fx_met (own := RX0) (by decide +kernel) rfl (Nat.le_of_ble_eq_true rfl) (fun p e s m below meth c X hr hk h ls hl => ?_)
  obtain ⟨⟨hx, hb, hml, hown, hts⟩, hK, hQ⟩ := id X
  have hl : lv_has ls 3 [(0, .ref (G.2.2.2 + o)), (1, .int x1), (2, .int x2)] := hl
  unfold T_X0_payOut at hT
  refine lv_aload_n hx hb dX0_payOut_0 rfl (lv_at hl 0 rfl) ?_
  refine fx_getR X h (k := o) (j := 0) (r := (rf o 0)) (sc_Auction o ho) rfl fl_RX0_27 dX0_payOut_1 ?_
  refine lv_iload_n hx hb dX0_payOut_4 rfl (lv_at hl 1 rfl) ?_
  refine fx_vi X h ym_X1_hasBidder yi_X1_hasBidder ys_X1_hasBidder (fx_s3 (List.mem_of_getElem? (i := 136) rfl) rfl) (sc_Cast (rf o 0) (sm_Auction_0 o ho)) rfl (c_X1_hasBidder l G (sm_Auction_0 o ho) hT) (As := [.int x1]) (rest := []) rfl rfl ⟨Nat.le_of_ble_eq_true rfl, Nat.le_of_ble_eq_true rfl⟩ ⟨Nat.le_refl _, Nat.le_refl _⟩ hl.1 (Nat.le_of_ble_eq_true rfl) dX0_payOut_5 (fun r3 M2 H locs hT h => ?_)
  refine lv_if_eq (tgt := 37) hx hb dX0_payOut_8 (by decide) (fun hc4 => ?_) (fun hc4 => ?_)
  · have hT := hT.1 hc4
    exact fx_vret X hr hk h hT dX0_payOut_37
  · have hT := hT.2 hc4
    refine lv_aload_n hx hb dX0_payOut_11 rfl (lv_at hl 0 rfl) ?_
    refine fx_getR X h (k := o) (j := 4) (r := (rf o 4)) (sc_Auction o ho) rfl fl_RX0_43 dX0_payOut_12 ?_
    refine fx_getR X h (k := (rf o 4)) (j := 3) (r := (rf (rf o 4) 3)) (sc_Quay (rf o 4) (sm_Auction_4 o ho)) rfl fl_RX0_80 dX0_payOut_15 ?_
    refine lv_iload_n hx hb dX0_payOut_18 rfl (lv_at hl 1 rfl) ?_
    refine lv_sipush (v := 9999) hx hb dX0_payOut_19 (by decide) ?_
    refine lv_aload_n hx hb dX0_payOut_22 rfl (lv_at hl 0 rfl) ?_
    refine fx_getR X h (k := o) (j := 4) (r := (rf o 4)) (sc_Auction o ho) rfl fl_RX0_43 dX0_payOut_23 ?_
    refine fx_getR X h (k := (rf o 4)) (j := 3) (r := (rf (rf o 4) 3)) (sc_Quay (rf o 4) (sm_Auction_4 o ho)) rfl fl_RX0_80 dX0_payOut_26 ?_
    refine lv_iload_n hx hb dX0_payOut_29 rfl (lv_at hl 1 rfl) ?_
    obtain ⟨hi5, hT⟩ := hT
    refine fx_iald X h (k := (rf (rf o 4) 3)) (sa_Quay_3 (rf o 4) (sm_Auction_4 o ho)) hi5 dX0_payOut_30 ?_
    refine lv_iload_n hx hb dX0_payOut_31 rfl (lv_at hl 2 rfl) ?_
    refine lv_iadd hx hb dX0_payOut_32 ?_
    refine va_mmin hx hb (hml.trans hl.1.symm) hown (hts _ (fx_s3 (List.mem_of_getElem? (i := 189) rfl) rfl)) (hts _ mt_min_s) (hts _ mt_i) (hts _ mt_min_c) (Nat.le_of_ble_eq_true rfl) (Nat.le_of_ble_eq_true rfl) (Nat.le_refl _) (Nat.le_refl _) dX0_payOut_33 ?_
    obtain ⟨hi7, hT⟩ := hT
    refine fx_iast X h (k := (rf (rf o 4) 3)) (sa_Quay_3 (rf o 4) (sm_Auction_4 o ho)) hi7 dX0_payOut_36 (fun H locs h => ?_)
    obtain ⟨M6, eM6⟩ : ∃ z : Mm, z = m_up M2 (rf (rf o 4) 3) (x1).toNatClampNeg (if ((M2 (rf (rf o 4) 3) (x1).toNatClampNeg) + x2) < (9999 : Int32) then ((M2 (rf (rf o 4) 3) (x1).toNatClampNeg) + x2) else (9999 : Int32)) := ⟨_, rfl⟩
    have hT := hT M6 eM6
    rw [← eM6] at h
    exact fx_vret X hr hk h hT dX0_payOut_37
/-! MockParcels$Auction.change(III)V -/
theorem dX0_change_0 : decode cX0_change 0 = .ok (.iload_n 1, 1) := by decide +kernel
theorem dX0_change_1 : decode cX0_change 1 = .ok (.tableswitch 105 271 280 #[66, 55, 105, 105, 105, 105, 105, 105, 77, 84], 55) := by decide +kernel
theorem dX0_change_56 : decode cX0_change 56 = .ok (.aload_n 0, 1) := by decide +kernel
theorem dX0_change_57 : decode cX0_change 57 = .ok (.getfield 43, 3) := by decide +kernel
theorem dX0_change_60 : decode cX0_change 60 = .ok (.iload_n 3, 1) := by decide +kernel
theorem dX0_change_61 : decode cX0_change 61 = .ok (.putfield 88, 3) := by decide +kernel
theorem dX0_change_64 : decode cX0_change 64 = .ok (.goto 48, 3) := by decide +kernel
theorem dX0_change_67 : decode cX0_change 67 = .ok (.aload_n 0, 1) := by decide +kernel
theorem dX0_change_68 : decode cX0_change 68 = .ok (.getfield 43, 3) := by decide +kernel
theorem dX0_change_71 : decode cX0_change 71 = .ok (.iload_n 3, 1) := by decide +kernel
theorem dX0_change_72 : decode cX0_change 72 = .ok (.putfield 85, 3) := by decide +kernel
theorem dX0_change_75 : decode cX0_change 75 = .ok (.goto 37, 3) := by decide +kernel
theorem dX0_change_78 : decode cX0_change 78 = .ok (.aload_n 0, 1) := by decide +kernel
theorem dX0_change_79 : decode cX0_change 79 = .ok (.invokevirtual 189, 3) := by decide +kernel
theorem dX0_change_82 : decode cX0_change 82 = .ok (.goto 30, 3) := by decide +kernel
theorem dX0_change_85 : decode cX0_change 85 = .ok (.aload_n 0, 1) := by decide +kernel
theorem dX0_change_86 : decode cX0_change 86 = .ok (.iload_n 2, 1) := by decide +kernel
theorem dX0_change_87 : decode cX0_change 87 = .ok (.invokevirtual 130, 3) := by decide +kernel
theorem dX0_change_90 : decode cX0_change 90 = .ok (.ifCond .eq 22, 3) := by decide +kernel
theorem dX0_change_93 : decode cX0_change 93 = .ok (.aload_n 0, 1) := by decide +kernel
theorem dX0_change_94 : decode cX0_change 94 = .ok (.getfield 43, 3) := by decide +kernel
theorem dX0_change_97 : decode cX0_change 97 = .ok (.getfield 153, 3) := by decide +kernel
theorem dX0_change_100 : decode cX0_change 100 = .ok (.iload_n 2, 1) := by decide +kernel
theorem dX0_change_101 : decode cX0_change 101 = .ok (.iload_n 3, 1) := by decide +kernel
theorem dX0_change_102 : decode cX0_change 102 = .ok (.iastore, 1) := by decide +kernel
theorem dX0_change_103 : decode cX0_change 103 = .ok (.goto 9, 3) := by decide +kernel
theorem dX0_change_106 : decode cX0_change 106 = .ok (.aload_n 0, 1) := by decide +kernel
theorem dX0_change_107 : decode cX0_change 107 = .ok (.iload_n 2, 1) := by decide +kernel
theorem dX0_change_108 : decode cX0_change 108 = .ok (.iload_n 3, 1) := by decide +kernel
theorem dX0_change_109 : decode cX0_change 109 = .ok (.invokevirtual 192, 3) := by decide +kernel
theorem dX0_change_112 : decode cX0_change 112 = .ok (.return_, 1) := by decide +kernel
def T_X0_change_106 (o : Nat) (x2 : Int32) (x3 : Int32) (M : Mm) (K : Mm → Prop) : Prop := (T_X0_payOut o x2 x3 M (fun M2 => (K M2)))
set_option maxHeartbeats 4000000 in
set_option maxRecDepth 100000 in
theorem w_X0_change_106 {p : Program} {l : Launch} {e : Env} {s : State} {m : MethodId} {args : Array Value} {below : List Frame} {meth : Method} {c : Code} {G : fx_G} {K : Mm → Prop} {o : Nat} (ho : o ∈ id_Auction) (X : fx_C G p s m c args cX0_change 4 RX0) (hr : meth.sig.returnType = none) (hk : meth.locks = false) : ∀ (x2 : Int32) (x3 : Int32) (M : Mm) (H : Heap) (locs : List Loc) (ls : Array Slot), T_X0_change_106 o x2 x3 M K → fx_H G SH M s H locs → lv_has ls 4 [(0, .ref (G.2.2.2 + o)), (2, .int x2), (3, .int x3)] → W p l e (fx_rm (3)) s m args below meth c H locs 0 0 (MQ below (va_Qv K (fx_R G SH) (fx_A G)) args s 0 0 (fx_A G)) (F0 m 106 ls []) := by
  obtain ⟨⟨hx, hb, hml, hown, hts⟩, hK, hQ⟩ := id X
  intro x2 x3 M H locs ls hT h hl
  unfold T_X0_change_106 at hT
  refine lv_aload_n hx hb dX0_change_106 rfl (lv_at hl 0 rfl) ?_
  refine lv_iload_n hx hb dX0_change_107 rfl (lv_at hl 1 rfl) ?_
  refine lv_iload_n hx hb dX0_change_108 rfl (lv_at hl 2 rfl) ?_
  refine fx_vv X h ym_X0_payOut yi_X0_payOut ys_X0_payOut (fx_s3 (List.mem_of_getElem? (i := 236) rfl) rfl) (sc_Auction o ho) rfl (c_X0_payOut l G ho hT) (As := [.int x2, .int x3]) (rest := []) rfl rfl ⟨Nat.le_of_ble_eq_true rfl, Nat.le_of_ble_eq_true rfl⟩ ⟨Nat.le_refl _, Nat.le_refl _⟩ hl.1 (Nat.le_of_ble_eq_true rfl) dX0_change_109 (fun M2 H locs hT h => ?_)
  exact fx_vret X hr hk h hT dX0_change_112
def T_X0_change (o : Nat) (x1 : Int32) (x2 : Int32) (x3 : Int32) (M : Mm) (K : Mm → Prop) : Prop := ((x1 = (271 : Int32) → (∀ M4 : Mm, M4 = m_up M (rf o 4) 8 x3 → (K M4))) ∧ (¬ x1 = (271 : Int32) → ((x1 = (272 : Int32) → (∀ M6 : Mm, M6 = m_up M (rf o 4) 9 x3 → (K M6))) ∧ (¬ x1 = (272 : Int32) → ((x1 = (279 : Int32) → (T_X0_raid o M (fun M9 => (K M9)))) ∧ (¬ x1 = (279 : Int32) → ((x1 = (280 : Int32) → (T_X0_canSell o x2 M (fun r13 M12 => ((r13 = 0 → (K M12)) ∧ (¬ r13 = 0 → (vp_in x2 16 ∧ (∀ M15 : Mm, M15 = m_up M12 (rf (rf o 4) 2) (x2).toNatClampNeg x3 → (K M15)))))))) ∧ (¬ x1 = (280 : Int32) → (T_X0_change_106 o x2 x3 M K)))))))))
set_option maxHeartbeats 4000000 in
set_option maxRecDepth 100000 in
theorem c_X0_change (l : Launch) (G : fx_G) {o : Nat} (ho : o ∈ id_Auction) {x1 : Int32} {x2 : Int32} {x3 : Int32} {M : Mm} {K : Mm → Prop} (hT : T_X0_change o x1 x2 x3 M K) : Met l yX0_change (fx_ws yX0_change cX0_change 4 none) (fx_rm (3)) (va_Pc [.ref (G.2.2.2 + o), .int x1, .int x2, .int x3] (fx_P G SH M)) (va_Qv K (fx_R G SH) (fx_A G)) 0 0 (fx_A G) := by
  refine fx_met (own := RX0) (by decide +kernel) rfl (Nat.le_of_ble_eq_true rfl) (fun p e s m below meth c X hr hk h ls hl => ?_)
  obtain ⟨⟨hx, hb, hml, hown, hts⟩, hK, hQ⟩ := id X
  have hl : lv_has ls 4 [(0, .ref (G.2.2.2 + o)), (1, .int x1), (2, .int x2), (3, .int x3)] := hl
  unfold T_X0_change at hT
  refine lv_iload_n hx hb dX0_change_0 rfl (lv_at hl 1 rfl) ?_
  by_cases hc3 : x1 = (271 : Int32)
  · have hT := hT.1 hc3
    refine lv_tableIn (off := 66) (tgt := 67) hx hb dX0_change_1 (by rw [hc3]; decide) (by rw [hc3]; decide) (by rw [hc3]; rfl) (by decide) ?_
    refine lv_aload_n hx hb dX0_change_67 rfl (lv_at hl 0 rfl) ?_
    refine fx_getR X h (k := o) (j := 4) (r := (rf o 4)) (sc_Auction o ho) rfl fl_RX0_43 dX0_change_68 ?_
    refine lv_iload_n hx hb dX0_change_71 rfl (lv_at hl 3 rfl) ?_
    refine fx_putI X h (k := (rf o 4)) (j := 8) (sc_Quay (rf o 4) (sm_Auction_4 o ho)) rfl fl_RX0_85 dX0_change_72 (fun H locs h => ?_)
    obtain ⟨M4, eM4⟩ : ∃ z : Mm, z = m_up M (rf o 4) 8 x3 := ⟨_, rfl⟩
    have hT := hT M4 eM4
    rw [← eM4] at h
    refine lv_goto (tgt := 112) hx hb dX0_change_75 (by decide) ?_
    exact fx_vret X hr hk h hT dX0_change_112
  have hT := hT.2 hc3
  by_cases hc5 : x1 = (272 : Int32)
  · have hT := hT.1 hc5
    refine lv_tableIn (off := 55) (tgt := 56) hx hb dX0_change_1 (by rw [hc5]; decide) (by rw [hc5]; decide) (by rw [hc5]; rfl) (by decide) ?_
    refine lv_aload_n hx hb dX0_change_56 rfl (lv_at hl 0 rfl) ?_
    refine fx_getR X h (k := o) (j := 4) (r := (rf o 4)) (sc_Auction o ho) rfl fl_RX0_43 dX0_change_57 ?_
    refine lv_iload_n hx hb dX0_change_60 rfl (lv_at hl 3 rfl) ?_
    refine fx_putI X h (k := (rf o 4)) (j := 9) (sc_Quay (rf o 4) (sm_Auction_4 o ho)) rfl fl_RX0_88 dX0_change_61 (fun H locs h => ?_)
    obtain ⟨M6, eM6⟩ : ∃ z : Mm, z = m_up M (rf o 4) 9 x3 := ⟨_, rfl⟩
    have hT := hT M6 eM6
    rw [← eM6] at h
    refine lv_goto (tgt := 112) hx hb dX0_change_64 (by decide) ?_
    exact fx_vret X hr hk h hT dX0_change_112
  have hT := hT.2 hc5
  by_cases hc7 : x1 = (279 : Int32)
  · have hT := hT.1 hc7
    refine lv_tableIn (off := 77) (tgt := 78) hx hb dX0_change_1 (by rw [hc7]; decide) (by rw [hc7]; decide) (by rw [hc7]; rfl) (by decide) ?_
    refine lv_aload_n hx hb dX0_change_78 rfl (lv_at hl 0 rfl) ?_
    refine fx_vv X h ym_X0_raid yi_X0_raid ys_X0_raid (fx_s3 (List.mem_of_getElem? (i := 228) rfl) rfl) (sc_Auction o ho) rfl (c_X0_raid l G ho hT) (As := []) (rest := []) rfl rfl ⟨Nat.le_of_ble_eq_true rfl, Nat.le_of_ble_eq_true rfl⟩ ⟨Nat.le_refl _, Nat.le_refl _⟩ hl.1 (Nat.le_of_ble_eq_true rfl) dX0_change_79 (fun M9 H locs hT h => ?_)
    refine lv_goto (tgt := 112) hx hb dX0_change_82 (by decide) ?_
    exact fx_vret X hr hk h hT dX0_change_112
  have hT := hT.2 hc7
  by_cases hc10 : x1 = (280 : Int32)
  · have hT := hT.1 hc10
    refine lv_tableIn (off := 84) (tgt := 85) hx hb dX0_change_1 (by rw [hc10]; decide) (by rw [hc10]; decide) (by rw [hc10]; rfl) (by decide) ?_
    refine lv_aload_n hx hb dX0_change_85 rfl (lv_at hl 0 rfl) ?_
    refine lv_iload_n hx hb dX0_change_86 rfl (lv_at hl 2 rfl) ?_
    refine fx_vi X h ym_X0_canSell yi_X0_canSell ys_X0_canSell (fx_s3 (List.mem_of_getElem? (i := 119) rfl) rfl) (sc_Auction o ho) rfl (c_X0_canSell l G ho hT) (As := [.int x2]) (rest := []) rfl rfl ⟨Nat.le_of_ble_eq_true rfl, Nat.le_of_ble_eq_true rfl⟩ ⟨Nat.le_refl _, Nat.le_refl _⟩ hl.1 (Nat.le_of_ble_eq_true rfl) dX0_change_87 (fun r13 M12 H locs hT h => ?_)
    refine lv_if_eq (tgt := 112) hx hb dX0_change_90 (by decide) (fun hc14 => ?_) (fun hc14 => ?_)
    · have hT := hT.1 hc14
      exact fx_vret X hr hk h hT dX0_change_112
    · have hT := hT.2 hc14
      refine lv_aload_n hx hb dX0_change_93 rfl (lv_at hl 0 rfl) ?_
      refine fx_getR X h (k := o) (j := 4) (r := (rf o 4)) (sc_Auction o ho) rfl fl_RX0_43 dX0_change_94 ?_
      refine fx_getR X h (k := (rf o 4)) (j := 2) (r := (rf (rf o 4) 2)) (sc_Quay (rf o 4) (sm_Auction_4 o ho)) rfl fl_RX0_153 dX0_change_97 ?_
      refine lv_iload_n hx hb dX0_change_100 rfl (lv_at hl 2 rfl) ?_
      refine lv_iload_n hx hb dX0_change_101 rfl (lv_at hl 3 rfl) ?_
      obtain ⟨hi16, hT⟩ := hT
      refine fx_iast X h (k := (rf (rf o 4) 2)) (sa_Quay_2 (rf o 4) (sm_Auction_4 o ho)) hi16 dX0_change_102 (fun H locs h => ?_)
      obtain ⟨M15, eM15⟩ : ∃ z : Mm, z = m_up M12 (rf (rf o 4) 2) (x2).toNatClampNeg x3 := ⟨_, rfl⟩
      have hT := hT M15 eM15
      rw [← eM15] at h
      refine lv_goto (tgt := 112) hx hb dX0_change_103 (by decide) ?_
      exact fx_vret X hr hk h hT dX0_change_112
  have hT := hT.2 hc10
  have khc3 : ¬ (x1).toInt = 271 := fun q => hc3 (Int32.toInt_inj.mp (q.trans (by decide)))
  have khc5 : ¬ (x1).toInt = 272 := fun q => hc5 (Int32.toInt_inj.mp (q.trans (by decide)))
  have khc7 : ¬ (x1).toInt = 279 := fun q => hc7 (Int32.toInt_inj.mp (q.trans (by decide)))
  have khc10 : ¬ (x1).toInt = 280 := fun q => hc10 (Int32.toInt_inj.mp (q.trans (by decide)))
  by_cases g1_273 : (x1).toInt = 273
  · refine lv_tableIn (off := 105) (tgt := 106) hx hb dX0_change_1 (by rw [g1_273]; decide) (by rw [g1_273]; decide) (by rw [g1_273]; rfl) (by decide) ?_
    exact w_X0_change_106 ho X hr hk x2 x3 M _ _ ls hT h (lv_sub hl [0, 2, 3] rfl)
  by_cases g1_274 : (x1).toInt = 274
  · refine lv_tableIn (off := 105) (tgt := 106) hx hb dX0_change_1 (by rw [g1_274]; decide) (by rw [g1_274]; decide) (by rw [g1_274]; rfl) (by decide) ?_
    exact w_X0_change_106 ho X hr hk x2 x3 M _ _ ls hT h (lv_sub hl [0, 2, 3] rfl)
  by_cases g1_275 : (x1).toInt = 275
  · refine lv_tableIn (off := 105) (tgt := 106) hx hb dX0_change_1 (by rw [g1_275]; decide) (by rw [g1_275]; decide) (by rw [g1_275]; rfl) (by decide) ?_
    exact w_X0_change_106 ho X hr hk x2 x3 M _ _ ls hT h (lv_sub hl [0, 2, 3] rfl)
  by_cases g1_276 : (x1).toInt = 276
  · refine lv_tableIn (off := 105) (tgt := 106) hx hb dX0_change_1 (by rw [g1_276]; decide) (by rw [g1_276]; decide) (by rw [g1_276]; rfl) (by decide) ?_
    exact w_X0_change_106 ho X hr hk x2 x3 M _ _ ls hT h (lv_sub hl [0, 2, 3] rfl)
  by_cases g1_277 : (x1).toInt = 277
  · refine lv_tableIn (off := 105) (tgt := 106) hx hb dX0_change_1 (by rw [g1_277]; decide) (by rw [g1_277]; decide) (by rw [g1_277]; rfl) (by decide) ?_
    exact w_X0_change_106 ho X hr hk x2 x3 M _ _ ls hT h (lv_sub hl [0, 2, 3] rfl)
  by_cases g1_278 : (x1).toInt = 278
  · refine lv_tableIn (off := 105) (tgt := 106) hx hb dX0_change_1 (by rw [g1_278]; decide) (by rw [g1_278]; decide) (by rw [g1_278]; rfl) (by decide) ?_
    exact w_X0_change_106 ho X hr hk x2 x3 M _ _ ls hT h (lv_sub hl [0, 2, 3] rfl)
  refine lv_tableOut (tgt := 106) hx hb dX0_change_1 (by omega) (by decide) ?_
  exact w_X0_change_106 ho X hr hk x2 x3 M _ _ ls hT h (lv_sub hl [0, 2, 3] rfl)
/-! MockParcels$Auction.passDay()I -/
theorem dX0_passDay_0 : decode cX0_passDay 0 = .ok (.iconst 0, 1) := by decide +kernel
theorem dX0_passDay_1 : decode cX0_passDay 1 = .ok (.istore_n 1, 1) := by decide +kernel
theorem dX0_passDay_2 : decode cX0_passDay 2 = .ok (.iconst 0, 1) := by decide +kernel
theorem dX0_passDay_3 : decode cX0_passDay 3 = .ok (.istore_n 2, 1) := by decide +kernel
theorem dX0_passDay_4 : decode cX0_passDay 4 = .ok (.iload_n 2, 1) := by decide +kernel
theorem dX0_passDay_5 : decode cX0_passDay 5 = .ok (.aload_n 0, 1) := by decide +kernel
theorem dX0_passDay_6 : decode cX0_passDay 6 = .ok (.getfield 37, 3) := by decide +kernel
theorem dX0_passDay_9 : decode cX0_passDay 9 = .ok (.getfield 168, 3) := by decide +kernel
theorem dX0_passDay_12 : decode cX0_passDay 12 = .ok (.if_icmp .ge 99, 3) := by decide +kernel
theorem dX0_passDay_15 : decode cX0_passDay 15 = .ok (.iload_n 2, 1) := by decide +kernel
theorem dX0_passDay_16 : decode cX0_passDay 16 = .ok (.bipush 16, 2) := by decide +kernel
theorem dX0_passDay_18 : decode cX0_passDay 18 = .ok (.if_icmp .ge 93, 3) := by decide +kernel
theorem dX0_passDay_21 : decode cX0_passDay 21 = .ok (.aload_n 0, 1) := by decide +kernel
theorem dX0_passDay_22 : decode cX0_passDay 22 = .ok (.getfield 37, 3) := by decide +kernel
theorem dX0_passDay_25 : decode cX0_passDay 25 = .ok (.getfield 171, 3) := by decide +kernel
theorem dX0_passDay_28 : decode cX0_passDay 28 = .ok (.iload_n 2, 1) := by decide +kernel
theorem dX0_passDay_29 : decode cX0_passDay 29 = .ok (.iaload, 1) := by decide +kernel
theorem dX0_passDay_30 : decode cX0_passDay 30 = .ok (.aload_n 0, 1) := by decide +kernel
theorem dX0_passDay_31 : decode cX0_passDay 31 = .ok (.getfield 43, 3) := by decide +kernel
theorem dX0_passDay_34 : decode cX0_passDay 34 = .ok (.getfield 95, 3) := by decide +kernel
theorem dX0_passDay_37 : decode cX0_passDay 37 = .ok (.if_icmp .eq 6, 3) := by decide +kernel
theorem dX0_passDay_40 : decode cX0_passDay 40 = .ok (.goto 65, 3) := by decide +kernel
theorem dX0_passDay_43 : decode cX0_passDay 43 = .ok (.aload_n 0, 1) := by decide +kernel
theorem dX0_passDay_44 : decode cX0_passDay 44 = .ok (.getfield 37, 3) := by decide +kernel
theorem dX0_passDay_47 : decode cX0_passDay 47 = .ok (.getfield 174, 3) := by decide +kernel
theorem dX0_passDay_50 : decode cX0_passDay 50 = .ok (.iload_n 2, 1) := by decide +kernel
theorem dX0_passDay_51 : decode cX0_passDay 51 = .ok (.iaload, 1) := by decide +kernel
theorem dX0_passDay_52 : decode cX0_passDay 52 = .ok (.istore_n 3, 1) := by decide +kernel
theorem dX0_passDay_53 : decode cX0_passDay 53 = .ok (.iload_n 3, 1) := by decide +kernel
theorem dX0_passDay_54 : decode cX0_passDay 54 = .ok (.sipush 278, 3) := by decide +kernel
theorem dX0_passDay_57 : decode cX0_passDay 57 = .ok (.if_icmp .eq 29, 3) := by decide +kernel
theorem dX0_passDay_60 : decode cX0_passDay 60 = .ok (.aload_n 0, 1) := by decide +kernel
theorem dX0_passDay_61 : decode cX0_passDay 61 = .ok (.iload_n 3, 1) := by decide +kernel
theorem dX0_passDay_62 : decode cX0_passDay 62 = .ok (.aload_n 0, 1) := by decide +kernel
theorem dX0_passDay_63 : decode cX0_passDay 63 = .ok (.getfield 37, 3) := by decide +kernel
theorem dX0_passDay_66 : decode cX0_passDay 66 = .ok (.getfield 177, 3) := by decide +kernel
theorem dX0_passDay_69 : decode cX0_passDay 69 = .ok (.iload_n 2, 1) := by decide +kernel
theorem dX0_passDay_70 : decode cX0_passDay 70 = .ok (.iaload, 1) := by decide +kernel
theorem dX0_passDay_71 : decode cX0_passDay 71 = .ok (.aload_n 0, 1) := by decide +kernel
theorem dX0_passDay_72 : decode cX0_passDay 72 = .ok (.getfield 37, 3) := by decide +kernel
theorem dX0_passDay_75 : decode cX0_passDay 75 = .ok (.getfield 180, 3) := by decide +kernel
theorem dX0_passDay_78 : decode cX0_passDay 78 = .ok (.iload_n 2, 1) := by decide +kernel
theorem dX0_passDay_79 : decode cX0_passDay 79 = .ok (.iaload, 1) := by decide +kernel
theorem dX0_passDay_80 : decode cX0_passDay 80 = .ok (.invokevirtual 183, 3) := by decide +kernel
theorem dX0_passDay_83 : decode cX0_passDay 83 = .ok (.goto 22, 3) := by decide +kernel
theorem dX0_passDay_86 : decode cX0_passDay 86 = .ok (.aload_n 0, 1) := by decide +kernel
theorem dX0_passDay_87 : decode cX0_passDay 87 = .ok (.aload_n 0, 1) := by decide +kernel
theorem dX0_passDay_88 : decode cX0_passDay 88 = .ok (.getfield 37, 3) := by decide +kernel
theorem dX0_passDay_91 : decode cX0_passDay 91 = .ok (.getfield 177, 3) := by decide +kernel
theorem dX0_passDay_94 : decode cX0_passDay 94 = .ok (.iload_n 2, 1) := by decide +kernel
theorem dX0_passDay_95 : decode cX0_passDay 95 = .ok (.iaload, 1) := by decide +kernel
theorem dX0_passDay_96 : decode cX0_passDay 96 = .ok (.invokevirtual 186, 3) := by decide +kernel
theorem dX0_passDay_99 : decode cX0_passDay 99 = .ok (.ifCond .eq 6, 3) := by decide +kernel
theorem dX0_passDay_102 : decode cX0_passDay 102 = .ok (.iinc 1 1, 3) := by decide +kernel
theorem dX0_passDay_105 : decode cX0_passDay 105 = .ok (.iinc 2 1, 3) := by decide +kernel
theorem dX0_passDay_108 : decode cX0_passDay 108 = .ok (.goto (-104), 3) := by decide +kernel
theorem dX0_passDay_111 : decode cX0_passDay 111 = .ok (.aload_n 0, 1) := by decide +kernel
theorem dX0_passDay_112 : decode cX0_passDay 112 = .ok (.getfield 43, 3) := by decide +kernel
theorem dX0_passDay_115 : decode cX0_passDay 115 = .ok (.iconst 0, 1) := by decide +kernel
theorem dX0_passDay_116 : decode cX0_passDay 116 = .ok (.aload_n 0, 1) := by decide +kernel
theorem dX0_passDay_117 : decode cX0_passDay 117 = .ok (.getfield 43, 3) := by decide +kernel
theorem dX0_passDay_120 : decode cX0_passDay 120 = .ok (.getfield 85, 3) := by decide +kernel
theorem dX0_passDay_123 : decode cX0_passDay 123 = .ok (.aload_n 0, 1) := by decide +kernel
theorem dX0_passDay_124 : decode cX0_passDay 124 = .ok (.getfield 43, 3) := by decide +kernel
theorem dX0_passDay_127 : decode cX0_passDay 127 = .ok (.getfield 88, 3) := by decide +kernel
theorem dX0_passDay_130 : decode cX0_passDay 130 = .ok (.isub, 1) := by decide +kernel
theorem dX0_passDay_131 : decode cX0_passDay 131 = .ok (.invokestatic 165, 3) := by decide +kernel
theorem dX0_passDay_134 : decode cX0_passDay 134 = .ok (.putfield 85, 3) := by decide +kernel
theorem dX0_passDay_137 : decode cX0_passDay 137 = .ok (.aload_n 0, 1) := by decide +kernel
theorem dX0_passDay_138 : decode cX0_passDay 138 = .ok (.getfield 43, 3) := by decide +kernel
theorem dX0_passDay_141 : decode cX0_passDay 141 = .ok (.dup, 1) := by decide +kernel
theorem dX0_passDay_142 : decode cX0_passDay 142 = .ok (.getfield 95, 3) := by decide +kernel
theorem dX0_passDay_145 : decode cX0_passDay 145 = .ok (.iconst 1, 1) := by decide +kernel
theorem dX0_passDay_146 : decode cX0_passDay 146 = .ok (.iadd, 1) := by decide +kernel
theorem dX0_passDay_147 : decode cX0_passDay 147 = .ok (.putfield 95, 3) := by decide +kernel
theorem dX0_passDay_150 : decode cX0_passDay 150 = .ok (.iload_n 1, 1) := by decide +kernel
theorem dX0_passDay_151 : decode cX0_passDay 151 = .ok (.ireturn, 1) := by decide +kernel
def T_X0_passDay_111 (o : Nat) (x1 : Int32) (M : Mm) (K : Int32 → Mm → Prop) : Prop := (∀ M1 : Mm, M1 = m_up M (rf o 4) 8 (if (0 : Int32) < ((M (rf o 4) 8) - (M (rf o 4) 9)) then ((M (rf o 4) 8) - (M (rf o 4) 9)) else (0 : Int32)) → (∀ M2 : Mm, M2 = m_up M1 (rf o 4) 10 ((M1 (rf o 4) 10) + (1 : Int32)) → (K x1 M2)))
set_option maxHeartbeats 4000000 in
set_option maxRecDepth 100000 in
theorem w_X0_passDay_111 {p : Program} {l : Launch} {e : Env} {s : State} {m : MethodId} {args : Array Value} {below : List Frame} {meth : Method} {c : Code} {G : fx_G} {K : Int32 → Mm → Prop} {o : Nat} (ho : o ∈ id_Auction) (X : fx_C G p s m c args cX0_passDay 4 RX0) (hr : meth.sig.returnType = (some .int)) (hk : meth.locks = false) : ∀ (x1 : Int32) (M : Mm) (H : Heap) (locs : List Loc) (ls : Array Slot), T_X0_passDay_111 o x1 M K → fx_H G SH M s H locs → lv_has ls 4 [(0, .ref (G.2.2.2 + o)), (1, .int x1)] → W p l e (fx_rm (6)) s m args below meth c H locs 0 0 (MQ below (va_Qi K (fx_R G SH) (fx_A G)) args s 0 0 (fx_A G)) (F0 m 111 ls []) := by
  obtain ⟨⟨hx, hb, hml, hown, hts⟩, hK, hQ⟩ := id X
  intro x1 M H locs ls hT h hl
  unfold T_X0_passDay_111 at hT
  refine lv_aload_n hx hb dX0_passDay_111 rfl (lv_at hl 0 rfl) ?_
  refine fx_getR X h (k := o) (j := 4) (r := (rf o 4)) (sc_Auction o ho) rfl fl_RX0_43 dX0_passDay_112 ?_
  refine lv_iconst (v := 0) hx hb dX0_passDay_115 (by decide) ?_
  refine lv_aload_n hx hb dX0_passDay_116 rfl (lv_at hl 0 rfl) ?_
  refine fx_getR X h (k := o) (j := 4) (r := (rf o 4)) (sc_Auction o ho) rfl fl_RX0_43 dX0_passDay_117 ?_
  refine fx_getI X h (k := (rf o 4)) (j := 8) (sc_Quay (rf o 4) (sm_Auction_4 o ho)) rfl fl_RX0_85 dX0_passDay_120 ?_
  refine lv_aload_n hx hb dX0_passDay_123 rfl (lv_at hl 0 rfl) ?_
  refine fx_getR X h (k := o) (j := 4) (r := (rf o 4)) (sc_Auction o ho) rfl fl_RX0_43 dX0_passDay_124 ?_
  refine fx_getI X h (k := (rf o 4)) (j := 9) (sc_Quay (rf o 4) (sm_Auction_4 o ho)) rfl fl_RX0_88 dX0_passDay_127 ?_
  refine lv_isub hx hb dX0_passDay_130 ?_
  refine va_mmax hx hb (hml.trans hl.1.symm) hown (hts _ (fx_s3 (List.mem_of_getElem? (i := 190) rfl) rfl)) (hts _ mt_max_s) (hts _ mt_i) (hts _ mt_max_c) (Nat.le_of_ble_eq_true rfl) (Nat.le_of_ble_eq_true rfl) (Nat.le_refl _) (Nat.le_refl _) dX0_passDay_131 ?_
  refine fx_putI X h (k := (rf o 4)) (j := 8) (sc_Quay (rf o 4) (sm_Auction_4 o ho)) rfl fl_RX0_85 dX0_passDay_134 (fun H locs h => ?_)
  obtain ⟨M1, eM1⟩ : ∃ z : Mm, z = m_up M (rf o 4) 8 (if (0 : Int32) < ((M (rf o 4) 8) - (M (rf o 4) 9)) then ((M (rf o 4) 8) - (M (rf o 4) 9)) else (0 : Int32)) := ⟨_, rfl⟩
  have hT := hT M1 eM1
  rw [← eM1] at h
  refine lv_aload_n hx hb dX0_passDay_137 rfl (lv_at hl 0 rfl) ?_
  refine fx_getR X h (k := o) (j := 4) (r := (rf o 4)) (sc_Auction o ho) rfl fl_RX0_43 dX0_passDay_138 ?_
  refine lv_dup hx hb dX0_passDay_141 rfl ?_
  refine fx_getI X h (k := (rf o 4)) (j := 10) (sc_Quay (rf o 4) (sm_Auction_4 o ho)) rfl fl_RX0_95 dX0_passDay_142 ?_
  refine lv_iconst (v := 1) hx hb dX0_passDay_145 (by decide) ?_
  refine lv_iadd hx hb dX0_passDay_146 ?_
  refine fx_putI X h (k := (rf o 4)) (j := 10) (sc_Quay (rf o 4) (sm_Auction_4 o ho)) rfl fl_RX0_95 dX0_passDay_147 (fun H locs h => ?_)
  obtain ⟨M2, eM2⟩ : ∃ z : Mm, z = m_up M1 (rf o 4) 10 ((M1 (rf o 4) 10) + (1 : Int32)) := ⟨_, rfl⟩
  have hT := hT M2 eM2
  rw [← eM2] at h
  refine lv_iload_n hx hb dX0_passDay_150 rfl (lv_at hl 1 rfl) ?_
  exact fx_iret X hr hk h hT dX0_passDay_151
def T_X0_passDay_105 (B4 : Int32 → Int32 → Mm → Prop) (o : Nat) (x1 : Int32) (x2 : Int32) (M : Mm) (K : Int32 → Mm → Prop) : Prop := (∀ y3 : Int32, y3 = x2 + (1 : Int32) → (B4 x1 y3 M))
set_option maxHeartbeats 4000000 in
set_option maxRecDepth 100000 in
theorem w_X0_passDay_105 {p : Program} {l : Launch} {e : Env} {s : State} {m : MethodId} {args : Array Value} {below : List Frame} {meth : Method} {c : Code} {G : fx_G} {K : Int32 → Mm → Prop} {B4 : Int32 → Int32 → Mm → Prop} {o : Nat} (ho : o ∈ id_Auction) (X : fx_C G p s m c args cX0_passDay 4 RX0) (hr : meth.sig.returnType = (some .int)) (hk : meth.locks = false) (hB4 : ∀ (x1 : Int32) (x2 : Int32) (M : Mm) (H : Heap) (locs : List Loc) (ls : Array Slot), B4 x1 x2 M → fx_H G SH M s H locs → lv_has ls 4 [(0, .ref (G.2.2.2 + o)), (1, .int x1), (2, .int x2)] → W p l e (fx_rm (6)) s m args below meth c H locs 0 0 (MQ below (va_Qi K (fx_R G SH) (fx_A G)) args s 0 0 (fx_A G)) (F0 m 4 ls [])) : ∀ (x1 : Int32) (x2 : Int32) (M : Mm) (H : Heap) (locs : List Loc) (ls : Array Slot), T_X0_passDay_105 B4 o x1 x2 M K → fx_H G SH M s H locs → lv_has ls 4 [(0, .ref (G.2.2.2 + o)), (1, .int x1), (2, .int x2)] → W p l e (fx_rm (6)) s m args below meth c H locs 0 0 (MQ below (va_Qi K (fx_R G SH) (fx_A G)) args s 0 0 (fx_A G)) (F0 m 105 ls []) := by
  obtain ⟨⟨hx, hb, hml, hown, hts⟩, hK, hQ⟩ := id X
  intro x1 x2 M H locs ls hT h hl
  unfold T_X0_passDay_105 at hT
  obtain ⟨y3, ey3⟩ : ∃ z : Int32, z = x2 + (1 : Int32) := ⟨_, rfl⟩
  have hT := hT y3 ey3
  refine lv_iinc (v := y3) (lv' := [(2, .int y3), (0, .ref (G.2.2.2 + o)), (1, .int x1)]) hx hb dX0_passDay_105 hl (k := 2) rfl (by rw [ey3]; rfl) (by decide) rfl (fun ls hl => ?_)
  refine lv_goto (tgt := 4) hx hb dX0_passDay_108 (by decide) ?_
  exact hB4 x1 y3 M _ _ ls hT h (lv_sub hl [1, 2, 0] rfl)
def T_X0_passDay_4 (o : Nat) : Nat → Int32 → Int32 → Mm → (Int32 → Mm → Prop) → Prop
  | 0, _, _, _, _ => False
  | n + 1, x1, x2, M, K => (((M (rf o 2) 8) ≤ x2 → (T_X0_passDay_111 o x1 M K)) ∧ (¬ (M (rf o 2) 8) ≤ x2 → (((16 : Int32) ≤ x2 → (T_X0_passDay_111 o x1 M K)) ∧ (¬ (16 : Int32) ≤ x2 → (vp_in x2 16 ∧ (((M (rf (rf o 2) 2) (x2).toNatClampNeg) = (M (rf o 4) 10) → (vp_in x2 16 ∧ (∀ y9 : Int32, y9 = (M (rf (rf o 2) 3) (x2).toNatClampNeg) → ((y9 = (278 : Int32) → (vp_in x2 16 ∧ (T_X0_sellOff o (M (rf (rf o 2) 4) (x2).toNatClampNeg) M (fun r14 M13 => ((r14 = 0 → (T_X0_passDay_105 (fun x1 x2 M => T_X0_passDay_4 o n x1 x2 M K) o x1 x2 M13 K)) ∧ (¬ r14 = 0 → (∀ y16 : Int32, y16 = x1 + (1 : Int32) → (T_X0_passDay_105 (fun x1 x2 M => T_X0_passDay_4 o n x1 x2 M K) o y16 x2 M13 K)))))))) ∧ (¬ y9 = (278 : Int32) → (vp_in x2 16 ∧ (vp_in x2 16 ∧ (T_X0_change o y9 (M (rf (rf o 2) 4) (x2).toNatClampNeg) (M (rf (rf o 2) 5) (x2).toNatClampNeg) M (fun M20 => (T_X0_passDay_105 (fun x1 x2 M => T_X0_passDay_4 o n x1 x2 M K) o x1 x2 M20 K)))))))))) ∧ (¬ (M (rf (rf o 2) 2) (x2).toNatClampNeg) = (M (rf o 4) 10) → (T_X0_passDay_105 (fun x1 x2 M => T_X0_passDay_4 o n x1 x2 M K) o x1 x2 M K))))))))
set_option maxHeartbeats 4000000 in
set_option maxRecDepth 100000 in
theorem w_X0_passDay_4 {p : Program} {l : Launch} {e : Env} {s : State} {m : MethodId} {args : Array Value} {below : List Frame} {meth : Method} {c : Code} {G : fx_G} {K : Int32 → Mm → Prop} {o : Nat} (ho : o ∈ id_Auction) (X : fx_C G p s m c args cX0_passDay 4 RX0) (hr : meth.sig.returnType = (some .int)) (hk : meth.locks = false) : ∀ (n : Nat) (x1 : Int32) (x2 : Int32) (M : Mm) (H : Heap) (locs : List Loc) (ls : Array Slot), T_X0_passDay_4 o n x1 x2 M K → fx_H G SH M s H locs → lv_has ls 4 [(0, .ref (G.2.2.2 + o)), (1, .int x1), (2, .int x2)] → W p l e (fx_rm (6)) s m args below meth c H locs 0 0 (MQ below (va_Qi K (fx_R G SH) (fx_A G)) args s 0 0 (fx_A G)) (F0 m 4 ls []) := by
  obtain ⟨⟨hx, hb, hml, hown, hts⟩, hK, hQ⟩ := id X
  intro n
  induction n with
  | zero =>
    intro x1 x2 M H locs ls hT
    exact hT.elim
  | succ n ih =>
    intro x1 x2 M H locs ls hT h hl
    rw [T_X0_passDay_4] at hT
    refine lv_iload_n hx hb dX0_passDay_4 rfl (lv_at hl 2 rfl) ?_
    refine lv_aload_n hx hb dX0_passDay_5 rfl (lv_at hl 0 rfl) ?_
    refine fx_getR X h (k := o) (j := 2) (r := (rf o 2)) (sc_Auction o ho) rfl fl_RX0_37 dX0_passDay_6 ?_
    refine fx_getI X h (k := (rf o 2)) (j := 8) (sc_Plans (rf o 2) (sm_Auction_2 o ho)) rfl fl_RX0_168 dX0_passDay_9 ?_
    refine lv_icmp_ge (tgt := 111) hx hb dX0_passDay_12 (by decide) (fun hc4 => ?_) (fun hc4 => ?_)
    · have hT := hT.1 hc4
      exact w_X0_passDay_111 ho X hr hk x1 M _ _ ls hT h (lv_sub hl [0, 1] rfl)
    · have hT := hT.2 hc4
      refine lv_iload_n hx hb dX0_passDay_15 rfl (lv_at hl 2 rfl) ?_
      refine lv_bipush (v := 16) hx hb dX0_passDay_16 (by decide) ?_
      refine lv_icmp_ge (tgt := 111) hx hb dX0_passDay_18 (by decide) (fun hc5 => ?_) (fun hc5 => ?_)
      · have hT := hT.1 hc5
        exact w_X0_passDay_111 ho X hr hk x1 M _ _ ls hT h (lv_sub hl [0, 1] rfl)
      · have hT := hT.2 hc5
        refine lv_aload_n hx hb dX0_passDay_21 rfl (lv_at hl 0 rfl) ?_
        refine fx_getR X h (k := o) (j := 2) (r := (rf o 2)) (sc_Auction o ho) rfl fl_RX0_37 dX0_passDay_22 ?_
        refine fx_getR X h (k := (rf o 2)) (j := 2) (r := (rf (rf o 2) 2)) (sc_Plans (rf o 2) (sm_Auction_2 o ho)) rfl fl_RX0_171 dX0_passDay_25 ?_
        refine lv_iload_n hx hb dX0_passDay_28 rfl (lv_at hl 2 rfl) ?_
        obtain ⟨hi6, hT⟩ := hT
        refine fx_iald X h (k := (rf (rf o 2) 2)) (sa_Plans_2 (rf o 2) (sm_Auction_2 o ho)) hi6 dX0_passDay_29 ?_
        refine lv_aload_n hx hb dX0_passDay_30 rfl (lv_at hl 0 rfl) ?_
        refine fx_getR X h (k := o) (j := 4) (r := (rf o 4)) (sc_Auction o ho) rfl fl_RX0_43 dX0_passDay_31 ?_
        refine fx_getI X h (k := (rf o 4)) (j := 10) (sc_Quay (rf o 4) (sm_Auction_4 o ho)) rfl fl_RX0_95 dX0_passDay_34 ?_
        refine lv_icmp_eq (tgt := 43) hx hb dX0_passDay_37 (by decide) (fun hc7 => ?_) (fun hc7 => ?_)
        · have hT := hT.1 hc7
          refine lv_aload_n hx hb dX0_passDay_43 rfl (lv_at hl 0 rfl) ?_
          refine fx_getR X h (k := o) (j := 2) (r := (rf o 2)) (sc_Auction o ho) rfl fl_RX0_37 dX0_passDay_44 ?_
          refine fx_getR X h (k := (rf o 2)) (j := 3) (r := (rf (rf o 2) 3)) (sc_Plans (rf o 2) (sm_Auction_2 o ho)) rfl fl_RX0_174 dX0_passDay_47 ?_
          refine lv_iload_n hx hb dX0_passDay_50 rfl (lv_at hl 2 rfl) ?_
          obtain ⟨hi8, hT⟩ := hT
          refine fx_iald X h (k := (rf (rf o 2) 3)) (sa_Plans_3 (rf o 2) (sm_Auction_2 o ho)) hi8 dX0_passDay_51 ?_
          refine lv_topi (fun y9 ey9 => ?_)
          have hT := hT y9 ey9
          refine lv_istore_n (lv' := [(3, .int y9), (0, .ref (G.2.2.2 + o)), (1, .int x1), (2, .int x2)]) hx hb dX0_passDay_52 rfl hl (by decide) rfl (fun ls hl => ?_)
          refine lv_iload_n hx hb dX0_passDay_53 rfl (lv_at hl 0 rfl) ?_
          refine lv_sipush (v := 278) hx hb dX0_passDay_54 (by decide) ?_
          refine lv_icmp_eq (tgt := 86) hx hb dX0_passDay_57 (by decide) (fun hc10 => ?_) (fun hc10 => ?_)
          · have hT := hT.1 hc10
            refine lv_aload_n hx hb dX0_passDay_86 rfl (lv_at hl 1 rfl) ?_
            refine lv_aload_n hx hb dX0_passDay_87 rfl (lv_at hl 1 rfl) ?_
            refine fx_getR X h (k := o) (j := 2) (r := (rf o 2)) (sc_Auction o ho) rfl fl_RX0_37 dX0_passDay_88 ?_
            refine fx_getR X h (k := (rf o 2)) (j := 4) (r := (rf (rf o 2) 4)) (sc_Plans (rf o 2) (sm_Auction_2 o ho)) rfl fl_RX0_177 dX0_passDay_91 ?_
            refine lv_iload_n hx hb dX0_passDay_94 rfl (lv_at hl 3 rfl) ?_
            obtain ⟨hi11, hT⟩ := hT
            refine fx_iald X h (k := (rf (rf o 2) 4)) (sa_Plans_4 (rf o 2) (sm_Auction_2 o ho)) hi11 dX0_passDay_95 ?_
            refine fx_vi X h ym_X0_sellOff yi_X0_sellOff ys_X0_sellOff (fx_s3 (List.mem_of_getElem? (i := 237) rfl) rfl) (sc_Auction o ho) rfl (c_X0_sellOff l G ho hT) (As := [.int (M (rf (rf o 2) 4) (x2).toNatClampNeg)]) (rest := []) rfl rfl ⟨Nat.le_of_ble_eq_true rfl, Nat.le_of_ble_eq_true rfl⟩ ⟨Nat.le_refl _, Nat.le_refl _⟩ hl.1 (Nat.le_of_ble_eq_true rfl) dX0_passDay_96 (fun r14 M13 H locs hT h => ?_)
            refine lv_if_eq (tgt := 105) hx hb dX0_passDay_99 (by decide) (fun hc15 => ?_) (fun hc15 => ?_)
            · have hT := hT.1 hc15
              exact w_X0_passDay_105 ho X hr hk (B4 := (fun x1 x2 M => T_X0_passDay_4 o n x1 x2 M K)) ih x1 x2 M13 _ _ ls hT h (lv_sub hl [1, 2, 3] rfl)
            · have hT := hT.2 hc15
              obtain ⟨y16, ey16⟩ : ∃ z : Int32, z = x1 + (1 : Int32) := ⟨_, rfl⟩
              have hT := hT y16 ey16
              refine lv_iinc (v := y16) (lv' := [(1, .int y16), (3, .int y9), (0, .ref (G.2.2.2 + o)), (2, .int x2)]) hx hb dX0_passDay_102 hl (k := 2) rfl (by rw [ey16]; rfl) (by decide) rfl (fun ls hl => ?_)
              exact w_X0_passDay_105 ho X hr hk (B4 := (fun x1 x2 M => T_X0_passDay_4 o n x1 x2 M K)) ih y16 x2 M13 _ _ ls hT h (lv_sub hl [2, 0, 3] rfl)
          · have hT := hT.2 hc10
            refine lv_aload_n hx hb dX0_passDay_60 rfl (lv_at hl 1 rfl) ?_
            refine lv_iload_n hx hb dX0_passDay_61 rfl (lv_at hl 0 rfl) ?_
            refine lv_aload_n hx hb dX0_passDay_62 rfl (lv_at hl 1 rfl) ?_
            refine fx_getR X h (k := o) (j := 2) (r := (rf o 2)) (sc_Auction o ho) rfl fl_RX0_37 dX0_passDay_63 ?_
            refine fx_getR X h (k := (rf o 2)) (j := 4) (r := (rf (rf o 2) 4)) (sc_Plans (rf o 2) (sm_Auction_2 o ho)) rfl fl_RX0_177 dX0_passDay_66 ?_
            refine lv_iload_n hx hb dX0_passDay_69 rfl (lv_at hl 3 rfl) ?_
            obtain ⟨hi17, hT⟩ := hT
            refine fx_iald X h (k := (rf (rf o 2) 4)) (sa_Plans_4 (rf o 2) (sm_Auction_2 o ho)) hi17 dX0_passDay_70 ?_
            refine lv_aload_n hx hb dX0_passDay_71 rfl (lv_at hl 1 rfl) ?_
            refine fx_getR X h (k := o) (j := 2) (r := (rf o 2)) (sc_Auction o ho) rfl fl_RX0_37 dX0_passDay_72 ?_
            refine fx_getR X h (k := (rf o 2)) (j := 5) (r := (rf (rf o 2) 5)) (sc_Plans (rf o 2) (sm_Auction_2 o ho)) rfl fl_RX0_180 dX0_passDay_75 ?_
            refine lv_iload_n hx hb dX0_passDay_78 rfl (lv_at hl 3 rfl) ?_
            obtain ⟨hi18, hT⟩ := hT
            refine fx_iald X h (k := (rf (rf o 2) 5)) (sa_Plans_5 (rf o 2) (sm_Auction_2 o ho)) hi18 dX0_passDay_79 ?_
            refine fx_vv X h ym_X0_change yi_X0_change ys_X0_change (fx_s3 (List.mem_of_getElem? (i := 224) rfl) rfl) (sc_Auction o ho) rfl (c_X0_change l G ho hT) (As := [.int y9, .int (M (rf (rf o 2) 4) (x2).toNatClampNeg), .int (M (rf (rf o 2) 5) (x2).toNatClampNeg)]) (rest := []) rfl rfl ⟨Nat.le_of_ble_eq_true rfl, Nat.le_of_ble_eq_true rfl⟩ ⟨Nat.le_refl _, Nat.le_refl _⟩ hl.1 (Nat.le_of_ble_eq_true rfl) dX0_passDay_80 (fun M20 H locs hT h => ?_)
            refine lv_goto (tgt := 105) hx hb dX0_passDay_83 (by decide) ?_
            exact w_X0_passDay_105 ho X hr hk (B4 := (fun x1 x2 M => T_X0_passDay_4 o n x1 x2 M K)) ih x1 x2 M20 _ _ ls hT h (lv_sub hl [1, 2, 3] rfl)
        · have hT := hT.2 hc7
          refine lv_goto (tgt := 105) hx hb dX0_passDay_40 (by decide) ?_
          exact w_X0_passDay_105 ho X hr hk (B4 := (fun x1 x2 M => T_X0_passDay_4 o n x1 x2 M K)) ih x1 x2 M _ _ ls hT h (lv_sub hl [0, 1, 2] rfl)
def T_X0_passDay (o : Nat) (M : Mm) (K : Int32 → Mm → Prop) : Prop := (T_X0_passDay_4 o 5000 (0 : Int32) (0 : Int32) M K)
set_option maxHeartbeats 4000000 in
set_option maxRecDepth 100000 in
theorem c_X0_passDay (l : Launch) (G : fx_G) {o : Nat} (ho : o ∈ id_Auction) {M : Mm} {K : Int32 → Mm → Prop} (hT : T_X0_passDay o M K) : Met l yX0_passDay (fx_ws yX0_passDay cX0_passDay 4 (some .int)) (fx_rm (6)) (va_Pc [.ref (G.2.2.2 + o)] (fx_P G SH M)) (va_Qi K (fx_R G SH) (fx_A G)) 0 0 (fx_A G) := by
  refine fx_met (own := RX0) (by decide +kernel) rfl (Nat.le_of_ble_eq_true rfl) (fun p e s m below meth c X hr hk h ls hl => ?_)
  obtain ⟨⟨hx, hb, hml, hown, hts⟩, hK, hQ⟩ := id X
  have hl : lv_has ls 4 [(0, .ref (G.2.2.2 + o))] := hl
  unfold T_X0_passDay at hT
  refine lv_iconst (v := 0) hx hb dX0_passDay_0 (by decide) ?_
  refine lv_istore_n (lv' := [(1, .int (0 : Int32)), (0, .ref (G.2.2.2 + o))]) hx hb dX0_passDay_1 rfl hl (by decide) rfl (fun ls hl => ?_)
  refine lv_iconst (v := 0) hx hb dX0_passDay_2 (by decide) ?_
  refine lv_istore_n (lv' := [(2, .int (0 : Int32)), (1, .int (0 : Int32)), (0, .ref (G.2.2.2 + o))]) hx hb dX0_passDay_3 rfl hl (by decide) rfl (fun ls hl => ?_)
  exact w_X0_passDay_4 ho X hr hk 5000 (0 : Int32) (0 : Int32) M _ _ ls hT h (lv_sub hl [2, 1, 0] rfl)
/-! MockParcels$Auction.handOver(III)V -/
theorem dX0_handOver_0 : decode cX0_handOver 0 = .ok (.aload_n 0, 1) := by decide +kernel
theorem dX0_handOver_1 : decode cX0_handOver 1 = .ok (.getfield 27, 3) := by decide +kernel
theorem dX0_handOver_4 : decode cX0_handOver 4 = .ok (.iload_n 1, 1) := by decide +kernel
theorem dX0_handOver_5 : decode cX0_handOver 5 = .ok (.invokevirtual 57, 3) := by decide +kernel
theorem dX0_handOver_8 : decode cX0_handOver 8 = .ok (.ifCond .eq 67, 3) := by decide +kernel
theorem dX0_handOver_11 : decode cX0_handOver 11 = .ok (.aload_n 0, 1) := by decide +kernel
theorem dX0_handOver_12 : decode cX0_handOver 12 = .ok (.getfield 27, 3) := by decide +kernel
theorem dX0_handOver_15 : decode cX0_handOver 15 = .ok (.iload_n 2, 1) := by decide +kernel
theorem dX0_handOver_16 : decode cX0_handOver 16 = .ok (.invokevirtual 57, 3) := by decide +kernel
theorem dX0_handOver_19 : decode cX0_handOver 19 = .ok (.ifCond .eq 56, 3) := by decide +kernel
theorem dX0_handOver_22 : decode cX0_handOver 22 = .ok (.iload_n 3, 1) := by decide +kernel
theorem dX0_handOver_23 : decode cX0_handOver 23 = .ok (.iconst 1, 1) := by decide +kernel
theorem dX0_handOver_24 : decode cX0_handOver 24 = .ok (.bipush 7, 2) := by decide +kernel
theorem dX0_handOver_26 : decode cX0_handOver 26 = .ok (.invokestatic 201, 3) := by decide +kernel
theorem dX0_handOver_29 : decode cX0_handOver 29 = .ok (.ifCond .eq 46, 3) := by decide +kernel
theorem dX0_handOver_32 : decode cX0_handOver 32 = .ok (.aload_n 0, 1) := by decide +kernel
theorem dX0_handOver_33 : decode cX0_handOver 33 = .ok (.getfield 43, 3) := by decide +kernel
theorem dX0_handOver_36 : decode cX0_handOver 36 = .ok (.getfield 156, 3) := by decide +kernel
theorem dX0_handOver_39 : decode cX0_handOver 39 = .ok (.iload_n 1, 1) := by decide +kernel
theorem dX0_handOver_40 : decode cX0_handOver 40 = .ok (.bipush 8, 2) := by decide +kernel
theorem dX0_handOver_42 : decode cX0_handOver 42 = .ok (.imul, 1) := by decide +kernel
theorem dX0_handOver_43 : decode cX0_handOver 43 = .ok (.iload_n 3, 1) := by decide +kernel
theorem dX0_handOver_44 : decode cX0_handOver 44 = .ok (.iadd, 1) := by decide +kernel
theorem dX0_handOver_45 : decode cX0_handOver 45 = .ok (.dup2, 1) := by decide +kernel
theorem dX0_handOver_46 : decode cX0_handOver 46 = .ok (.iaload, 1) := by decide +kernel
theorem dX0_handOver_47 : decode cX0_handOver 47 = .ok (.iconst 1, 1) := by decide +kernel
theorem dX0_handOver_48 : decode cX0_handOver 48 = .ok (.isub, 1) := by decide +kernel
theorem dX0_handOver_49 : decode cX0_handOver 49 = .ok (.iastore, 1) := by decide +kernel
theorem dX0_handOver_50 : decode cX0_handOver 50 = .ok (.aload_n 0, 1) := by decide +kernel
theorem dX0_handOver_51 : decode cX0_handOver 51 = .ok (.getfield 43, 3) := by decide +kernel
theorem dX0_handOver_54 : decode cX0_handOver 54 = .ok (.getfield 156, 3) := by decide +kernel
theorem dX0_handOver_57 : decode cX0_handOver 57 = .ok (.iload_n 2, 1) := by decide +kernel
theorem dX0_handOver_58 : decode cX0_handOver 58 = .ok (.bipush 8, 2) := by decide +kernel
theorem dX0_handOver_60 : decode cX0_handOver 60 = .ok (.imul, 1) := by decide +kernel
theorem dX0_handOver_61 : decode cX0_handOver 61 = .ok (.iload_n 3, 1) := by decide +kernel
theorem dX0_handOver_62 : decode cX0_handOver 62 = .ok (.iadd, 1) := by decide +kernel
theorem dX0_handOver_63 : decode cX0_handOver 63 = .ok (.dup2, 1) := by decide +kernel
theorem dX0_handOver_64 : decode cX0_handOver 64 = .ok (.iaload, 1) := by decide +kernel
theorem dX0_handOver_65 : decode cX0_handOver 65 = .ok (.iconst 1, 1) := by decide +kernel
theorem dX0_handOver_66 : decode cX0_handOver 66 = .ok (.iadd, 1) := by decide +kernel
theorem dX0_handOver_67 : decode cX0_handOver 67 = .ok (.iastore, 1) := by decide +kernel
theorem dX0_handOver_68 : decode cX0_handOver 68 = .ok (.aload_n 0, 1) := by decide +kernel
theorem dX0_handOver_69 : decode cX0_handOver 69 = .ok (.iconst 4, 1) := by decide +kernel
theorem dX0_handOver_70 : decode cX0_handOver 70 = .ok (.iload_n 1, 1) := by decide +kernel
theorem dX0_handOver_71 : decode cX0_handOver 71 = .ok (.iload_n 3, 1) := by decide +kernel
theorem dX0_handOver_72 : decode cX0_handOver 72 = .ok (.invokevirtual 126, 3) := by decide +kernel
theorem dX0_handOver_75 : decode cX0_handOver 75 = .ok (.return_, 1) := by decide +kernel
def T_X0_handOver (o : Nat) (x1 : Int32) (x2 : Int32) (x3 : Int32) (M : Mm) (K : Mm → Prop) : Prop := (T_X1_hasBidder (rf o 0) x1 M (fun r3 M2 => ((r3 = 0 → (K M2)) ∧ (¬ r3 = 0 → (T_X1_hasBidder (rf o 0) x2 M2 (fun r7 M6 => ((r7 = 0 → (K M6)) ∧ (¬ r7 = 0 → (T_X11_isWithin x3 (1 : Int32) (7 : Int32) M6 (fun r11 M10 => ((r11 = 0 → (K M10)) ∧ (¬ r11 = 0 → (vp_in ((x1 * (8 : Int32)) + x3) 64 ∧ (vp_in ((x1 * (8 : Int32)) + x3) 64 ∧ (∀ M14 : Mm, M14 = m_up M10 (rf (rf o 4) 5) (((x1 * (8 : Int32)) + x3)).toNatClampNeg ((M10 (rf (rf o 4) 5) (((x1 * (8 : Int32)) + x3)).toNatClampNeg) - (1 : Int32)) → (vp_in ((x2 * (8 : Int32)) + x3) 64 ∧ (vp_in ((x2 * (8 : Int32)) + x3) 64 ∧ (∀ M17 : Mm, M17 = m_up M14 (rf (rf o 4) 5) (((x2 * (8 : Int32)) + x3)).toNatClampNeg ((M14 (rf (rf o 4) 5) (((x2 * (8 : Int32)) + x3)).toNatClampNeg) + (1 : Int32)) → (T_X0_note o (4 : Int32) x1 x3 M17 (fun M20 => (K M20)))))))))))))))))))))
set_option maxHeartbeats 4000000 in
set_option maxRecDepth 100000 in
theorem c_X0_handOver (l : Launch) (G : fx_G) {o : Nat} (ho : o ∈ id_Auction) {x1 : Int32} {x2 : Int32} {x3 : Int32} {M : Mm} {K : Mm → Prop} (hT : T_X0_handOver o x1 x2 x3 M K) : Met l yX0_handOver (fx_ws yX0_handOver cX0_handOver 4 none) (fx_rm (1)) (va_Pc [.ref (G.2.2.2 + o), .int x1, .int x2, .int x3] (fx_P G SH M)) (va_Qv K (fx_R G SH) (fx_A G)) 0 0 (fx_A G) := by
  refine fx_met (own := RX0) (by decide +kernel) rfl (Nat.le_of_ble_eq_true rfl) (fun p e s m below meth c X hr hk h ls hl => ?_)
  obtain ⟨⟨hx, hb, hml, hown, hts⟩, hK, hQ⟩ := id X
  have hl : lv_has ls 4 [(0, .ref (G.2.2.2 + o)), (1, .int x1), (2, .int x2), (3, .int x3)] := hl
  unfold T_X0_handOver at hT
  refine lv_aload_n hx hb dX0_handOver_0 rfl (lv_at hl 0 rfl) ?_
  refine fx_getR X h (k := o) (j := 0) (r := (rf o 0)) (sc_Auction o ho) rfl fl_RX0_27 dX0_handOver_1 ?_
  refine lv_iload_n hx hb dX0_handOver_4 rfl (lv_at hl 1 rfl) ?_
  refine fx_vi X h ym_X1_hasBidder yi_X1_hasBidder ys_X1_hasBidder (fx_s3 (List.mem_of_getElem? (i := 136) rfl) rfl) (sc_Cast (rf o 0) (sm_Auction_0 o ho)) rfl (c_X1_hasBidder l G (sm_Auction_0 o ho) hT) (As := [.int x1]) (rest := []) rfl rfl ⟨Nat.le_of_ble_eq_true rfl, Nat.le_of_ble_eq_true rfl⟩ ⟨Nat.le_refl _, Nat.le_refl _⟩ hl.1 (Nat.le_of_ble_eq_true rfl) dX0_handOver_5 (fun r3 M2 H locs hT h => ?_)
  refine lv_if_eq (tgt := 75) hx hb dX0_handOver_8 (by decide) (fun hc4 => ?_) (fun hc4 => ?_)
  · have hT := hT.1 hc4
    exact fx_vret X hr hk h hT dX0_handOver_75
  · have hT := hT.2 hc4
    refine lv_aload_n hx hb dX0_handOver_11 rfl (lv_at hl 0 rfl) ?_
    refine fx_getR X h (k := o) (j := 0) (r := (rf o 0)) (sc_Auction o ho) rfl fl_RX0_27 dX0_handOver_12 ?_
    refine lv_iload_n hx hb dX0_handOver_15 rfl (lv_at hl 2 rfl) ?_
    refine fx_vi X h ym_X1_hasBidder yi_X1_hasBidder ys_X1_hasBidder (fx_s3 (List.mem_of_getElem? (i := 136) rfl) rfl) (sc_Cast (rf o 0) (sm_Auction_0 o ho)) rfl (c_X1_hasBidder l G (sm_Auction_0 o ho) hT) (As := [.int x2]) (rest := []) rfl rfl ⟨Nat.le_of_ble_eq_true rfl, Nat.le_of_ble_eq_true rfl⟩ ⟨Nat.le_refl _, Nat.le_refl _⟩ hl.1 (Nat.le_of_ble_eq_true rfl) dX0_handOver_16 (fun r7 M6 H locs hT h => ?_)
    refine lv_if_eq (tgt := 75) hx hb dX0_handOver_19 (by decide) (fun hc8 => ?_) (fun hc8 => ?_)
    · have hT := hT.1 hc8
      exact fx_vret X hr hk h hT dX0_handOver_75
    · have hT := hT.2 hc8
      refine lv_iload_n hx hb dX0_handOver_22 rfl (lv_at hl 3 rfl) ?_
      refine lv_iconst (v := 1) hx hb dX0_handOver_23 (by decide) ?_
      refine lv_bipush (v := 7) hx hb dX0_handOver_24 (by decide) ?_
      refine fx_ni X h ym_X11_isWithin yt_X11_isWithin (nq_RX0_201) (c_X11_isWithin l G hT) (As := [.int x3, .int (1 : Int32), .int (7 : Int32)]) (rest := []) rfl rfl ⟨Nat.le_of_ble_eq_true rfl, Nat.le_of_ble_eq_true rfl⟩ ⟨Nat.le_refl _, Nat.le_refl _⟩ hl.1 (Nat.le_of_ble_eq_true rfl) dX0_handOver_26 (fun r11 M10 H locs hT h => ?_)
      refine lv_if_eq (tgt := 75) hx hb dX0_handOver_29 (by decide) (fun hc12 => ?_) (fun hc12 => ?_)
      · have hT := hT.1 hc12
        exact fx_vret X hr hk h hT dX0_handOver_75
      · have hT := hT.2 hc12
        refine lv_aload_n hx hb dX0_handOver_32 rfl (lv_at hl 0 rfl) ?_
        refine fx_getR X h (k := o) (j := 4) (r := (rf o 4)) (sc_Auction o ho) rfl fl_RX0_43 dX0_handOver_33 ?_
        refine fx_getR X h (k := (rf o 4)) (j := 5) (r := (rf (rf o 4) 5)) (sc_Quay (rf o 4) (sm_Auction_4 o ho)) rfl fl_RX0_156 dX0_handOver_36 ?_
        refine lv_iload_n hx hb dX0_handOver_39 rfl (lv_at hl 1 rfl) ?_
        refine lv_bipush (v := 8) hx hb dX0_handOver_40 (by decide) ?_
        refine lv_imul hx hb dX0_handOver_42 ?_
        refine lv_iload_n hx hb dX0_handOver_43 rfl (lv_at hl 3 rfl) ?_
        refine lv_iadd hx hb dX0_handOver_44 ?_
        refine lv_dup2_11 hx hb dX0_handOver_45 rfl rfl ?_
        obtain ⟨hi13, hT⟩ := hT
        refine fx_iald X h (k := (rf (rf o 4) 5)) (sa_Quay_5 (rf o 4) (sm_Auction_4 o ho)) hi13 dX0_handOver_46 ?_
        refine lv_iconst (v := 1) hx hb dX0_handOver_47 (by decide) ?_
        refine lv_isub hx hb dX0_handOver_48 ?_
        obtain ⟨hi15, hT⟩ := hT
        refine fx_iast X h (k := (rf (rf o 4) 5)) (sa_Quay_5 (rf o 4) (sm_Auction_4 o ho)) hi15 dX0_handOver_49 (fun H locs h => ?_)
        obtain ⟨M14, eM14⟩ : ∃ z : Mm, z = m_up M10 (rf (rf o 4) 5) (((x1 * (8 : Int32)) + x3)).toNatClampNeg ((M10 (rf (rf o 4) 5) (((x1 * (8 : Int32)) + x3)).toNatClampNeg) - (1 : Int32)) := ⟨_, rfl⟩
        have hT := hT M14 eM14
        rw [← eM14] at h
        refine lv_aload_n hx hb dX0_handOver_50 rfl (lv_at hl 0 rfl) ?_
        refine fx_getR X h (k := o) (j := 4) (r := (rf o 4)) (sc_Auction o ho) rfl fl_RX0_43 dX0_handOver_51 ?_
        refine fx_getR X h (k := (rf o 4)) (j := 5) (r := (rf (rf o 4) 5)) (sc_Quay (rf o 4) (sm_Auction_4 o ho)) rfl fl_RX0_156 dX0_handOver_54 ?_
        refine lv_iload_n hx hb dX0_handOver_57 rfl (lv_at hl 2 rfl) ?_
        refine lv_bipush (v := 8) hx hb dX0_handOver_58 (by decide) ?_
        refine lv_imul hx hb dX0_handOver_60 ?_
        refine lv_iload_n hx hb dX0_handOver_61 rfl (lv_at hl 3 rfl) ?_
        refine lv_iadd hx hb dX0_handOver_62 ?_
        refine lv_dup2_11 hx hb dX0_handOver_63 rfl rfl ?_
        obtain ⟨hi16, hT⟩ := hT
        refine fx_iald X h (k := (rf (rf o 4) 5)) (sa_Quay_5 (rf o 4) (sm_Auction_4 o ho)) hi16 dX0_handOver_64 ?_
        refine lv_iconst (v := 1) hx hb dX0_handOver_65 (by decide) ?_
        refine lv_iadd hx hb dX0_handOver_66 ?_
        obtain ⟨hi18, hT⟩ := hT
        refine fx_iast X h (k := (rf (rf o 4) 5)) (sa_Quay_5 (rf o 4) (sm_Auction_4 o ho)) hi18 dX0_handOver_67 (fun H locs h => ?_)
        obtain ⟨M17, eM17⟩ : ∃ z : Mm, z = m_up M14 (rf (rf o 4) 5) (((x2 * (8 : Int32)) + x3)).toNatClampNeg ((M14 (rf (rf o 4) 5) (((x2 * (8 : Int32)) + x3)).toNatClampNeg) + (1 : Int32)) := ⟨_, rfl⟩
        have hT := hT M17 eM17
        rw [← eM17] at h
        refine lv_aload_n hx hb dX0_handOver_68 rfl (lv_at hl 0 rfl) ?_
        refine lv_iconst (v := 4) hx hb dX0_handOver_69 (by decide) ?_
        refine lv_iload_n hx hb dX0_handOver_70 rfl (lv_at hl 1 rfl) ?_
        refine lv_iload_n hx hb dX0_handOver_71 rfl (lv_at hl 3 rfl) ?_
        refine fx_vv X h ym_X0_note yi_X0_note ys_X0_note (fx_s3 (List.mem_of_getElem? (i := 177) rfl) rfl) (sc_Auction o ho) rfl (c_X0_note l G ho hT) (As := [.int (4 : Int32), .int x1, .int x3]) (rest := []) rfl rfl ⟨Nat.le_of_ble_eq_true rfl, Nat.le_of_ble_eq_true rfl⟩ ⟨Nat.le_refl _, Nat.le_refl _⟩ hl.1 (Nat.le_of_ble_eq_true rfl) dX0_handOver_72 (fun M20 H locs hT h => ?_)
        exact fx_vret X hr hk h hT dX0_handOver_75
/-! MockParcels$Auction.clearBill(I)I -/
theorem dX0_clearBill_0 : decode cX0_clearBill 0 = .ok (.aload_n 0, 1) := by decide +kernel
theorem dX0_clearBill_1 : decode cX0_clearBill 1 = .ok (.getfield 27, 3) := by decide +kernel
theorem dX0_clearBill_4 : decode cX0_clearBill 4 = .ok (.iload_n 1, 1) := by decide +kernel
theorem dX0_clearBill_5 : decode cX0_clearBill 5 = .ok (.invokevirtual 57, 3) := by decide +kernel
theorem dX0_clearBill_8 : decode cX0_clearBill 8 = .ok (.ifCond .ne 5, 3) := by decide +kernel
theorem dX0_clearBill_11 : decode cX0_clearBill 11 = .ok (.iconst (-1), 1) := by decide +kernel
theorem dX0_clearBill_12 : decode cX0_clearBill 12 = .ok (.ireturn, 1) := by decide +kernel
theorem dX0_clearBill_13 : decode cX0_clearBill 13 = .ok (.aload_n 0, 1) := by decide +kernel
theorem dX0_clearBill_14 : decode cX0_clearBill 14 = .ok (.getfield 43, 3) := by decide +kernel
theorem dX0_clearBill_17 : decode cX0_clearBill 17 = .ok (.getfield 150, 3) := by decide +kernel
theorem dX0_clearBill_20 : decode cX0_clearBill 20 = .ok (.iload_n 1, 1) := by decide +kernel
theorem dX0_clearBill_21 : decode cX0_clearBill 21 = .ok (.iaload, 1) := by decide +kernel
theorem dX0_clearBill_22 : decode cX0_clearBill 22 = .ok (.aload_n 0, 1) := by decide +kernel
theorem dX0_clearBill_23 : decode cX0_clearBill 23 = .ok (.getfield 43, 3) := by decide +kernel
theorem dX0_clearBill_26 : decode cX0_clearBill 26 = .ok (.getfield 80, 3) := by decide +kernel
theorem dX0_clearBill_29 : decode cX0_clearBill 29 = .ok (.iload_n 1, 1) := by decide +kernel
theorem dX0_clearBill_30 : decode cX0_clearBill 30 = .ok (.iaload, 1) := by decide +kernel
theorem dX0_clearBill_31 : decode cX0_clearBill 31 = .ok (.invokestatic 159, 3) := by decide +kernel
theorem dX0_clearBill_34 : decode cX0_clearBill 34 = .ok (.istore_n 2, 1) := by decide +kernel
theorem dX0_clearBill_35 : decode cX0_clearBill 35 = .ok (.aload_n 0, 1) := by decide +kernel
theorem dX0_clearBill_36 : decode cX0_clearBill 36 = .ok (.getfield 43, 3) := by decide +kernel
theorem dX0_clearBill_39 : decode cX0_clearBill 39 = .ok (.getfield 150, 3) := by decide +kernel
theorem dX0_clearBill_42 : decode cX0_clearBill 42 = .ok (.iload_n 1, 1) := by decide +kernel
theorem dX0_clearBill_43 : decode cX0_clearBill 43 = .ok (.dup2, 1) := by decide +kernel
theorem dX0_clearBill_44 : decode cX0_clearBill 44 = .ok (.iaload, 1) := by decide +kernel
theorem dX0_clearBill_45 : decode cX0_clearBill 45 = .ok (.iload_n 2, 1) := by decide +kernel
theorem dX0_clearBill_46 : decode cX0_clearBill 46 = .ok (.isub, 1) := by decide +kernel
theorem dX0_clearBill_47 : decode cX0_clearBill 47 = .ok (.iastore, 1) := by decide +kernel
theorem dX0_clearBill_48 : decode cX0_clearBill 48 = .ok (.aload_n 0, 1) := by decide +kernel
theorem dX0_clearBill_49 : decode cX0_clearBill 49 = .ok (.getfield 43, 3) := by decide +kernel
theorem dX0_clearBill_52 : decode cX0_clearBill 52 = .ok (.getfield 80, 3) := by decide +kernel
theorem dX0_clearBill_55 : decode cX0_clearBill 55 = .ok (.iload_n 1, 1) := by decide +kernel
theorem dX0_clearBill_56 : decode cX0_clearBill 56 = .ok (.dup2, 1) := by decide +kernel
theorem dX0_clearBill_57 : decode cX0_clearBill 57 = .ok (.iaload, 1) := by decide +kernel
theorem dX0_clearBill_58 : decode cX0_clearBill 58 = .ok (.iload_n 2, 1) := by decide +kernel
theorem dX0_clearBill_59 : decode cX0_clearBill 59 = .ok (.isub, 1) := by decide +kernel
theorem dX0_clearBill_60 : decode cX0_clearBill 60 = .ok (.iastore, 1) := by decide +kernel
theorem dX0_clearBill_61 : decode cX0_clearBill 61 = .ok (.aload_n 0, 1) := by decide +kernel
theorem dX0_clearBill_62 : decode cX0_clearBill 62 = .ok (.getfield 43, 3) := by decide +kernel
theorem dX0_clearBill_65 : decode cX0_clearBill 65 = .ok (.dup, 1) := by decide +kernel
theorem dX0_clearBill_66 : decode cX0_clearBill 66 = .ok (.getfield 137, 3) := by decide +kernel
theorem dX0_clearBill_69 : decode cX0_clearBill 69 = .ok (.iload_n 2, 1) := by decide +kernel
theorem dX0_clearBill_70 : decode cX0_clearBill 70 = .ok (.iadd, 1) := by decide +kernel
theorem dX0_clearBill_71 : decode cX0_clearBill 71 = .ok (.putfield 137, 3) := by decide +kernel
theorem dX0_clearBill_74 : decode cX0_clearBill 74 = .ok (.aload_n 0, 1) := by decide +kernel
theorem dX0_clearBill_75 : decode cX0_clearBill 75 = .ok (.iconst 5, 1) := by decide +kernel
theorem dX0_clearBill_76 : decode cX0_clearBill 76 = .ok (.iload_n 1, 1) := by decide +kernel
theorem dX0_clearBill_77 : decode cX0_clearBill 77 = .ok (.iload_n 2, 1) := by decide +kernel
theorem dX0_clearBill_78 : decode cX0_clearBill 78 = .ok (.invokevirtual 126, 3) := by decide +kernel
theorem dX0_clearBill_81 : decode cX0_clearBill 81 = .ok (.iload_n 2, 1) := by decide +kernel
theorem dX0_clearBill_82 : decode cX0_clearBill 82 = .ok (.ireturn, 1) := by decide +kernel
def T_X0_clearBill (o : Nat) (x1 : Int32) (M : Mm) (K : Int32 → Mm → Prop) : Prop := (T_X1_hasBidder (rf o 0) x1 M (fun r3 M2 => ((r3 = 0 → (K (-1 : Int32) M2)) ∧ (¬ r3 = 0 → (vp_in x1 8 ∧ (vp_in x1 8 ∧ (∀ y7 : Int32, y7 = (if (M2 (rf (rf o 4) 3) (x1).toNatClampNeg) < (M2 (rf (rf o 4) 4) (x1).toNatClampNeg) then (M2 (rf (rf o 4) 3) (x1).toNatClampNeg) else (M2 (rf (rf o 4) 4) (x1).toNatClampNeg)) → (vp_in x1 8 ∧ (vp_in x1 8 ∧ (∀ M9 : Mm, M9 = m_up M2 (rf (rf o 4) 4) (x1).toNatClampNeg ((M2 (rf (rf o 4) 4) (x1).toNatClampNeg) - y7) → (vp_in x1 8 ∧ (vp_in x1 8 ∧ (∀ M12 : Mm, M12 = m_up M9 (rf (rf o 4) 3) (x1).toNatClampNeg ((M9 (rf (rf o 4) 3) (x1).toNatClampNeg) - y7) → (∀ M14 : Mm, M14 = m_up M12 (rf o 4) 7 ((M12 (rf o 4) 7) + y7) → (T_X0_note o (5 : Int32) x1 y7 M14 (fun M16 => (K y7 M16)))))))))))))))))
set_option maxHeartbeats 4000000 in
set_option maxRecDepth 100000 in
theorem c_X0_clearBill (l : Launch) (G : fx_G) {o : Nat} (ho : o ∈ id_Auction) {x1 : Int32} {M : Mm} {K : Int32 → Mm → Prop} (hT : T_X0_clearBill o x1 M K) : Met l yX0_clearBill (fx_ws yX0_clearBill cX0_clearBill 3 (some .int)) (fx_rm (1)) (va_Pc [.ref (G.2.2.2 + o), .int x1] (fx_P G SH M)) (va_Qi K (fx_R G SH) (fx_A G)) 0 0 (fx_A G) := by
  refine fx_met (own := RX0) (by decide +kernel) rfl (Nat.le_of_ble_eq_true rfl) (fun p e s m below meth c X hr hk h ls hl => ?_)
  obtain ⟨⟨hx, hb, hml, hown, hts⟩, hK, hQ⟩ := id X
  have hl : lv_has ls 3 [(0, .ref (G.2.2.2 + o)), (1, .int x1)] := hl
  unfold T_X0_clearBill at hT
  refine lv_aload_n hx hb dX0_clearBill_0 rfl (lv_at hl 0 rfl) ?_
  refine fx_getR X h (k := o) (j := 0) (r := (rf o 0)) (sc_Auction o ho) rfl fl_RX0_27 dX0_clearBill_1 ?_
  refine lv_iload_n hx hb dX0_clearBill_4 rfl (lv_at hl 1 rfl) ?_
  refine fx_vi X h ym_X1_hasBidder yi_X1_hasBidder ys_X1_hasBidder (fx_s3 (List.mem_of_getElem? (i := 136) rfl) rfl) (sc_Cast (rf o 0) (sm_Auction_0 o ho)) rfl (c_X1_hasBidder l G (sm_Auction_0 o ho) hT) (As := [.int x1]) (rest := []) rfl rfl ⟨Nat.le_of_ble_eq_true rfl, Nat.le_of_ble_eq_true rfl⟩ ⟨Nat.le_refl _, Nat.le_refl _⟩ hl.1 (Nat.le_of_ble_eq_true rfl) dX0_clearBill_5 (fun r3 M2 H locs hT h => ?_)
  refine lv_if_ne (tgt := 13) hx hb dX0_clearBill_8 (by decide) (fun hc4 => ?_) (fun hc4 => ?_)
  · have hT := hT.2 hc4
    refine lv_aload_n hx hb dX0_clearBill_13 rfl (lv_at hl 0 rfl) ?_
    refine fx_getR X h (k := o) (j := 4) (r := (rf o 4)) (sc_Auction o ho) rfl fl_RX0_43 dX0_clearBill_14 ?_
    refine fx_getR X h (k := (rf o 4)) (j := 4) (r := (rf (rf o 4) 4)) (sc_Quay (rf o 4) (sm_Auction_4 o ho)) rfl fl_RX0_150 dX0_clearBill_17 ?_
    refine lv_iload_n hx hb dX0_clearBill_20 rfl (lv_at hl 1 rfl) ?_
    obtain ⟨hi5, hT⟩ := hT
    refine fx_iald X h (k := (rf (rf o 4) 4)) (sa_Quay_4 (rf o 4) (sm_Auction_4 o ho)) hi5 dX0_clearBill_21 ?_
    refine lv_aload_n hx hb dX0_clearBill_22 rfl (lv_at hl 0 rfl) ?_
    refine fx_getR X h (k := o) (j := 4) (r := (rf o 4)) (sc_Auction o ho) rfl fl_RX0_43 dX0_clearBill_23 ?_
    refine fx_getR X h (k := (rf o 4)) (j := 3) (r := (rf (rf o 4) 3)) (sc_Quay (rf o 4) (sm_Auction_4 o ho)) rfl fl_RX0_80 dX0_clearBill_26 ?_
    refine lv_iload_n hx hb dX0_clearBill_29 rfl (lv_at hl 1 rfl) ?_
    obtain ⟨hi6, hT⟩ := hT
    refine fx_iald X h (k := (rf (rf o 4) 3)) (sa_Quay_3 (rf o 4) (sm_Auction_4 o ho)) hi6 dX0_clearBill_30 ?_
    refine va_mmin hx hb (hml.trans hl.1.symm) hown (hts _ (fx_s3 (List.mem_of_getElem? (i := 189) rfl) rfl)) (hts _ mt_min_s) (hts _ mt_i) (hts _ mt_min_c) (Nat.le_of_ble_eq_true rfl) (Nat.le_of_ble_eq_true rfl) (Nat.le_refl _) (Nat.le_refl _) dX0_clearBill_31 ?_
    refine lv_topi (fun y7 ey7 => ?_)
    have hT := hT y7 ey7
    refine lv_istore_n (lv' := [(2, .int y7), (0, .ref (G.2.2.2 + o)), (1, .int x1)]) hx hb dX0_clearBill_34 rfl hl (by decide) rfl (fun ls hl => ?_)
    refine lv_aload_n hx hb dX0_clearBill_35 rfl (lv_at hl 1 rfl) ?_
    refine fx_getR X h (k := o) (j := 4) (r := (rf o 4)) (sc_Auction o ho) rfl fl_RX0_43 dX0_clearBill_36 ?_
    refine fx_getR X h (k := (rf o 4)) (j := 4) (r := (rf (rf o 4) 4)) (sc_Quay (rf o 4) (sm_Auction_4 o ho)) rfl fl_RX0_150 dX0_clearBill_39 ?_
    refine lv_iload_n hx hb dX0_clearBill_42 rfl (lv_at hl 2 rfl) ?_
    refine lv_dup2_11 hx hb dX0_clearBill_43 rfl rfl ?_
    obtain ⟨hi8, hT⟩ := hT
    refine fx_iald X h (k := (rf (rf o 4) 4)) (sa_Quay_4 (rf o 4) (sm_Auction_4 o ho)) hi8 dX0_clearBill_44 ?_
    refine lv_iload_n hx hb dX0_clearBill_45 rfl (lv_at hl 0 rfl) ?_
    refine lv_isub hx hb dX0_clearBill_46 ?_
    obtain ⟨hi10, hT⟩ := hT
    refine fx_iast X h (k := (rf (rf o 4) 4)) (sa_Quay_4 (rf o 4) (sm_Auction_4 o ho)) hi10 dX0_clearBill_47 (fun H locs h => ?_)
    obtain ⟨M9, eM9⟩ : ∃ z : Mm, z = m_up M2 (rf (rf o 4) 4) (x1).toNatClampNeg ((M2 (rf (rf o 4) 4) (x1).toNatClampNeg) - y7) := ⟨_, rfl⟩
    have hT := hT M9 eM9
    rw [← eM9] at h
    refine lv_aload_n hx hb dX0_clearBill_48 rfl (lv_at hl 1 rfl) ?_
    refine fx_getR X h (k := o) (j := 4) (r := (rf o 4)) (sc_Auction o ho) rfl fl_RX0_43 dX0_clearBill_49 ?_
    refine fx_getR X h (k := (rf o 4)) (j := 3) (r := (rf (rf o 4) 3)) (sc_Quay (rf o 4) (sm_Auction_4 o ho)) rfl fl_RX0_80 dX0_clearBill_52 ?_
    refine lv_iload_n hx hb dX0_clearBill_55 rfl (lv_at hl 2 rfl) ?_
    refine lv_dup2_11 hx hb dX0_clearBill_56 rfl rfl ?_
    obtain ⟨hi11, hT⟩ := hT
    refine fx_iald X h (k := (rf (rf o 4) 3)) (sa_Quay_3 (rf o 4) (sm_Auction_4 o ho)) hi11 dX0_clearBill_57 ?_
    refine lv_iload_n hx hb dX0_clearBill_58 rfl (lv_at hl 0 rfl) ?_
    refine lv_isub hx hb dX0_clearBill_59 ?_
    obtain ⟨hi13, hT⟩ := hT
    refine fx_iast X h (k := (rf (rf o 4) 3)) (sa_Quay_3 (rf o 4) (sm_Auction_4 o ho)) hi13 dX0_clearBill_60 (fun H locs h => ?_)
    obtain ⟨M12, eM12⟩ : ∃ z : Mm, z = m_up M9 (rf (rf o 4) 3) (x1).toNatClampNeg ((M9 (rf (rf o 4) 3) (x1).toNatClampNeg) - y7) := ⟨_, rfl⟩
    have hT := hT M12 eM12
    rw [← eM12] at h
    refine lv_aload_n hx hb dX0_clearBill_61 rfl (lv_at hl 1 rfl) ?_
    refine fx_getR X h (k := o) (j := 4) (r := (rf o 4)) (sc_Auction o ho) rfl fl_RX0_43 dX0_clearBill_62 ?_
    refine lv_dup hx hb dX0_clearBill_65 rfl ?_
    refine fx_getI X h (k := (rf o 4)) (j := 7) (sc_Quay (rf o 4) (sm_Auction_4 o ho)) rfl fl_RX0_137 dX0_clearBill_66 ?_
    refine lv_iload_n hx hb dX0_clearBill_69 rfl (lv_at hl 0 rfl) ?_
    refine lv_iadd hx hb dX0_clearBill_70 ?_
    refine fx_putI X h (k := (rf o 4)) (j := 7) (sc_Quay (rf o 4) (sm_Auction_4 o ho)) rfl fl_RX0_137 dX0_clearBill_71 (fun H locs h => ?_)
    obtain ⟨M14, eM14⟩ : ∃ z : Mm, z = m_up M12 (rf o 4) 7 ((M12 (rf o 4) 7) + y7) := ⟨_, rfl⟩
    have hT := hT M14 eM14
    rw [← eM14] at h
    refine lv_aload_n hx hb dX0_clearBill_74 rfl (lv_at hl 1 rfl) ?_
    refine lv_iconst (v := 5) hx hb dX0_clearBill_75 (by decide) ?_
    refine lv_iload_n hx hb dX0_clearBill_76 rfl (lv_at hl 2 rfl) ?_
    refine lv_iload_n hx hb dX0_clearBill_77 rfl (lv_at hl 0 rfl) ?_
    refine fx_vv X h ym_X0_note yi_X0_note ys_X0_note (fx_s3 (List.mem_of_getElem? (i := 177) rfl) rfl) (sc_Auction o ho) rfl (c_X0_note l G ho hT) (As := [.int (5 : Int32), .int x1, .int y7]) (rest := []) rfl rfl ⟨Nat.le_of_ble_eq_true rfl, Nat.le_of_ble_eq_true rfl⟩ ⟨Nat.le_refl _, Nat.le_refl _⟩ hl.1 (Nat.le_of_ble_eq_true rfl) dX0_clearBill_78 (fun M16 H locs hT h => ?_)
    refine lv_iload_n hx hb dX0_clearBill_81 rfl (lv_at hl 0 rfl) ?_
    exact fx_iret X hr hk h hT dX0_clearBill_82
  · have hT := hT.1 hc4
    refine lv_iconst (v := -1) hx hb dX0_clearBill_11 (by decide) ?_
    exact fx_iret X hr hk h hT dX0_clearBill_12
/-! MockParcels$Whole.copyFrom(LMockParcels$Whole;)V -/
theorem dX10_copyFrom_0 : decode cX10_copyFrom 0 = .ok (.aload_n 0, 1) := by decide +kernel
theorem dX10_copyFrom_1 : decode cX10_copyFrom 1 = .ok (.getfield 12, 3) := by decide +kernel
theorem dX10_copyFrom_4 : decode cX10_copyFrom 4 = .ok (.aload_n 1, 1) := by decide +kernel
theorem dX10_copyFrom_5 : decode cX10_copyFrom 5 = .ok (.getfield 12, 3) := by decide +kernel
theorem dX10_copyFrom_8 : decode cX10_copyFrom 8 = .ok (.invokevirtual 50, 3) := by decide +kernel
theorem dX10_copyFrom_11 : decode cX10_copyFrom 11 = .ok (.aload_n 0, 1) := by decide +kernel
theorem dX10_copyFrom_12 : decode cX10_copyFrom 12 = .ok (.getfield 21, 3) := by decide +kernel
theorem dX10_copyFrom_15 : decode cX10_copyFrom 15 = .ok (.aload_n 1, 1) := by decide +kernel
theorem dX10_copyFrom_16 : decode cX10_copyFrom 16 = .ok (.getfield 21, 3) := by decide +kernel
theorem dX10_copyFrom_19 : decode cX10_copyFrom 19 = .ok (.invokevirtual 54, 3) := by decide +kernel
theorem dX10_copyFrom_22 : decode cX10_copyFrom 22 = .ok (.aload_n 1, 1) := by decide +kernel
theorem dX10_copyFrom_23 : decode cX10_copyFrom 23 = .ok (.getfield 25, 3) := by decide +kernel
theorem dX10_copyFrom_26 : decode cX10_copyFrom 26 = .ok (.aload_n 0, 1) := by decide +kernel
theorem dX10_copyFrom_27 : decode cX10_copyFrom 27 = .ok (.getfield 25, 3) := by decide +kernel
theorem dX10_copyFrom_30 : decode cX10_copyFrom 30 = .ok (.invokestatic 57, 3) := by decide +kernel
theorem dX10_copyFrom_33 : decode cX10_copyFrom 33 = .ok (.aload_n 0, 1) := by decide +kernel
theorem dX10_copyFrom_34 : decode cX10_copyFrom 34 = .ok (.getfield 32, 3) := by decide +kernel
theorem dX10_copyFrom_37 : decode cX10_copyFrom 37 = .ok (.aload_n 1, 1) := by decide +kernel
theorem dX10_copyFrom_38 : decode cX10_copyFrom 38 = .ok (.getfield 32, 3) := by decide +kernel
theorem dX10_copyFrom_41 : decode cX10_copyFrom 41 = .ok (.invokevirtual 61, 3) := by decide +kernel
theorem dX10_copyFrom_44 : decode cX10_copyFrom 44 = .ok (.aload_n 0, 1) := by decide +kernel
theorem dX10_copyFrom_45 : decode cX10_copyFrom 45 = .ok (.getfield 39, 3) := by decide +kernel
theorem dX10_copyFrom_48 : decode cX10_copyFrom 48 = .ok (.aload_n 1, 1) := by decide +kernel
theorem dX10_copyFrom_49 : decode cX10_copyFrom 49 = .ok (.getfield 39, 3) := by decide +kernel
theorem dX10_copyFrom_52 : decode cX10_copyFrom 52 = .ok (.invokevirtual 64, 3) := by decide +kernel
theorem dX10_copyFrom_55 : decode cX10_copyFrom 55 = .ok (.aload_n 0, 1) := by decide +kernel
theorem dX10_copyFrom_56 : decode cX10_copyFrom 56 = .ok (.getfield 39, 3) := by decide +kernel
theorem dX10_copyFrom_59 : decode cX10_copyFrom 59 = .ok (.aload_n 1, 1) := by decide +kernel
theorem dX10_copyFrom_60 : decode cX10_copyFrom 60 = .ok (.getfield 39, 3) := by decide +kernel
theorem dX10_copyFrom_63 : decode cX10_copyFrom 63 = .ok (.invokevirtual 68, 3) := by decide +kernel
theorem dX10_copyFrom_66 : decode cX10_copyFrom 66 = .ok (.aload_n 0, 1) := by decide +kernel
theorem dX10_copyFrom_67 : decode cX10_copyFrom 67 = .ok (.getfield 39, 3) := by decide +kernel
theorem dX10_copyFrom_70 : decode cX10_copyFrom 70 = .ok (.aload_n 1, 1) := by decide +kernel
theorem dX10_copyFrom_71 : decode cX10_copyFrom 71 = .ok (.getfield 39, 3) := by decide +kernel
theorem dX10_copyFrom_74 : decode cX10_copyFrom 74 = .ok (.invokevirtual 71, 3) := by decide +kernel
theorem dX10_copyFrom_77 : decode cX10_copyFrom 77 = .ok (.aload_n 0, 1) := by decide +kernel
theorem dX10_copyFrom_78 : decode cX10_copyFrom 78 = .ok (.getfield 46, 3) := by decide +kernel
theorem dX10_copyFrom_81 : decode cX10_copyFrom 81 = .ok (.aload_n 1, 1) := by decide +kernel
theorem dX10_copyFrom_82 : decode cX10_copyFrom 82 = .ok (.getfield 46, 3) := by decide +kernel
theorem dX10_copyFrom_85 : decode cX10_copyFrom 85 = .ok (.invokevirtual 74, 3) := by decide +kernel
theorem dX10_copyFrom_88 : decode cX10_copyFrom 88 = .ok (.return_, 1) := by decide +kernel
def T_X10_copyFrom (o : Nat) (o1 : Nat) (M : Mm) (K : Mm → Prop) : Prop := (T_X1_copyFrom (rf o 0) (rf o1 0) M (fun M2 => (T_X6_copyFrom (rf o 1) (rf o1 1) M2 (fun M4 => (T_X11_copyRow (rf o1 2) (rf o 2) M4 (fun M6 => (T_X2_copyFrom (rf o 3) (rf o1 3) M6 (fun M8 => (T_X5_copyFollows (rf o 4) (rf o1 4) M8 (fun M10 => (T_X5_copyWeek (rf o 4) (rf o1 4) M10 (fun M12 => (T_X5_copyWants (rf o 4) (rf o1 4) M12 (fun M14 => (T_X9_copyFrom (rf o 5) (rf o1 5) M14 (fun M16 => (K M16)))))))))))))))))
set_option maxHeartbeats 4000000 in
set_option maxRecDepth 100000 in
theorem c_X10_copyFrom (l : Launch) (G : fx_G) {o : Nat} {o1 : Nat} (ho : o ∈ id_Whole) (ho1 : o1 ∈ id_Whole) {M : Mm} {K : Mm → Prop} (hT : T_X10_copyFrom o o1 M K) : Met l yX10_copyFrom (fx_ws yX10_copyFrom cX10_copyFrom 2 none) (fx_rm (2)) (va_Pc [.ref (G.2.2.2 + o), .ref (G.2.2.2 + o1)] (fx_P G SH M)) (va_Qv K (fx_R G SH) (fx_A G)) 0 0 (fx_A G) := by
  refine fx_met (own := RX10) (by decide +kernel) rfl (Nat.le_of_ble_eq_true rfl) (fun p e s m below meth c X hr hk h ls hl => ?_)
  obtain ⟨⟨hx, hb, hml, hown, hts⟩, hK, hQ⟩ := id X
  have hl : lv_has ls 2 [(0, .ref (G.2.2.2 + o)), (1, .ref (G.2.2.2 + o1))] := hl
  unfold T_X10_copyFrom at hT
  refine lv_aload_n hx hb dX10_copyFrom_0 rfl (lv_at hl 0 rfl) ?_
  refine fx_getR X h (k := o) (j := 0) (r := (rf o 0)) (sc_Whole o ho) rfl fl_RX10_12 dX10_copyFrom_1 ?_
  refine lv_aload_n hx hb dX10_copyFrom_4 rfl (lv_at hl 1 rfl) ?_
  refine fx_getR X h (k := o1) (j := 0) (r := (rf o1 0)) (sc_Whole o1 ho1) rfl fl_RX10_12 dX10_copyFrom_5 ?_
  refine fx_vv X h ym_X1_copyFrom yi_X1_copyFrom ys_X1_copyFrom (fx_s6 (List.mem_of_getElem? (i := 58) rfl) rfl) (sc_Cast (rf o 0) (sm_Whole_0 o ho)) rfl (c_X1_copyFrom l G (sm_Whole_0 o ho) (sm_Whole_0 o1 ho1) hT) (As := [.ref (G.2.2.2 + (rf o1 0))]) (rest := []) rfl rfl ⟨Nat.le_of_ble_eq_true rfl, Nat.le_of_ble_eq_true rfl⟩ ⟨Nat.le_refl _, Nat.le_refl _⟩ hl.1 (Nat.le_of_ble_eq_true rfl) dX10_copyFrom_8 (fun M2 H locs hT h => ?_)
  refine lv_aload_n hx hb dX10_copyFrom_11 rfl (lv_at hl 0 rfl) ?_
  refine fx_getR X h (k := o) (j := 1) (r := (rf o 1)) (sc_Whole o ho) rfl fl_RX10_21 dX10_copyFrom_12 ?_
  refine lv_aload_n hx hb dX10_copyFrom_15 rfl (lv_at hl 1 rfl) ?_
  refine fx_getR X h (k := o1) (j := 1) (r := (rf o1 1)) (sc_Whole o1 ho1) rfl fl_RX10_21 dX10_copyFrom_16 ?_
  refine fx_vv X h ym_X6_copyFrom yi_X6_copyFrom ys_X6_copyFrom (fx_s6 (List.mem_of_getElem? (i := 63) rfl) rfl) (sc_Quay (rf o 1) (sm_Whole_1 o ho)) rfl (c_X6_copyFrom l G (sm_Whole_1 o ho) (sm_Whole_1 o1 ho1) hT) (As := [.ref (G.2.2.2 + (rf o1 1))]) (rest := []) rfl rfl ⟨Nat.le_of_ble_eq_true rfl, Nat.le_of_ble_eq_true rfl⟩ ⟨Nat.le_refl _, Nat.le_refl _⟩ hl.1 (Nat.le_of_ble_eq_true rfl) dX10_copyFrom_19 (fun M4 H locs hT h => ?_)
  refine lv_aload_n hx hb dX10_copyFrom_22 rfl (lv_at hl 1 rfl) ?_
  refine fx_getR X h (k := o1) (j := 2) (r := (rf o1 2)) (sc_Whole o1 ho1) rfl fl_RX10_25 dX10_copyFrom_23 ?_
  refine lv_aload_n hx hb dX10_copyFrom_26 rfl (lv_at hl 0 rfl) ?_
  refine fx_getR X h (k := o) (j := 2) (r := (rf o 2)) (sc_Whole o ho) rfl fl_RX10_25 dX10_copyFrom_27 ?_
  refine fx_nv X h ym_X11_copyRow yt_X11_copyRow (nq_RX10_57) (c_X11_copyRow l G (ln_of (sa_Whole_2 o1 ho1)) (ln_of (sa_Whole_2 o ho)) hT) (As := [.ref (G.2.2.2 + (rf o1 2)), .ref (G.2.2.2 + (rf o 2))]) (rest := []) rfl rfl ⟨Nat.le_of_ble_eq_true rfl, Nat.le_of_ble_eq_true rfl⟩ ⟨Nat.le_refl _, Nat.le_refl _⟩ hl.1 (Nat.le_of_ble_eq_true rfl) dX10_copyFrom_30 (fun M6 H locs hT h => ?_)
  refine lv_aload_n hx hb dX10_copyFrom_33 rfl (lv_at hl 0 rfl) ?_
  refine fx_getR X h (k := o) (j := 3) (r := (rf o 3)) (sc_Whole o ho) rfl fl_RX10_32 dX10_copyFrom_34 ?_
  refine lv_aload_n hx hb dX10_copyFrom_37 rfl (lv_at hl 1 rfl) ?_
  refine fx_getR X h (k := o1) (j := 3) (r := (rf o1 3)) (sc_Whole o1 ho1) rfl fl_RX10_32 dX10_copyFrom_38 ?_
  refine fx_vv X h ym_X2_copyFrom yi_X2_copyFrom ys_X2_copyFrom (fx_s6 (List.mem_of_getElem? (i := 65) rfl) rfl) (sc_Law (rf o 3) (sm_Whole_3 o ho)) rfl (c_X2_copyFrom l G (sm_Whole_3 o ho) (sm_Whole_3 o1 ho1) hT) (As := [.ref (G.2.2.2 + (rf o1 3))]) (rest := []) rfl rfl ⟨Nat.le_of_ble_eq_true rfl, Nat.le_of_ble_eq_true rfl⟩ ⟨Nat.le_refl _, Nat.le_refl _⟩ hl.1 (Nat.le_of_ble_eq_true rfl) dX10_copyFrom_41 (fun M8 H locs hT h => ?_)
  refine lv_aload_n hx hb dX10_copyFrom_44 rfl (lv_at hl 0 rfl) ?_
  refine fx_getR X h (k := o) (j := 4) (r := (rf o 4)) (sc_Whole o ho) rfl fl_RX10_39 dX10_copyFrom_45 ?_
  refine lv_aload_n hx hb dX10_copyFrom_48 rfl (lv_at hl 1 rfl) ?_
  refine fx_getR X h (k := o1) (j := 4) (r := (rf o1 4)) (sc_Whole o1 ho1) rfl fl_RX10_39 dX10_copyFrom_49 ?_
  refine fx_vv X h ym_X5_copyFollows yi_X5_copyFollows ys_X5_copyFollows (fx_s6 (List.mem_of_getElem? (i := 66) rfl) rfl) (sc_Plans (rf o 4) (sm_Whole_4 o ho)) rfl (c_X5_copyFollows l G (sm_Whole_4 o ho) (sm_Whole_4 o1 ho1) hT) (As := [.ref (G.2.2.2 + (rf o1 4))]) (rest := []) rfl rfl ⟨Nat.le_of_ble_eq_true rfl, Nat.le_of_ble_eq_true rfl⟩ ⟨Nat.le_refl _, Nat.le_refl _⟩ hl.1 (Nat.le_of_ble_eq_true rfl) dX10_copyFrom_52 (fun M10 H locs hT h => ?_)
  refine lv_aload_n hx hb dX10_copyFrom_55 rfl (lv_at hl 0 rfl) ?_
  refine fx_getR X h (k := o) (j := 4) (r := (rf o 4)) (sc_Whole o ho) rfl fl_RX10_39 dX10_copyFrom_56 ?_
  refine lv_aload_n hx hb dX10_copyFrom_59 rfl (lv_at hl 1 rfl) ?_
  refine fx_getR X h (k := o1) (j := 4) (r := (rf o1 4)) (sc_Whole o1 ho1) rfl fl_RX10_39 dX10_copyFrom_60 ?_
  refine fx_vv X h ym_X5_copyWeek yi_X5_copyWeek ys_X5_copyWeek (fx_s6 (List.mem_of_getElem? (i := 67) rfl) rfl) (sc_Plans (rf o 4) (sm_Whole_4 o ho)) rfl (c_X5_copyWeek l G (sm_Whole_4 o ho) (sm_Whole_4 o1 ho1) hT) (As := [.ref (G.2.2.2 + (rf o1 4))]) (rest := []) rfl rfl ⟨Nat.le_of_ble_eq_true rfl, Nat.le_of_ble_eq_true rfl⟩ ⟨Nat.le_refl _, Nat.le_refl _⟩ hl.1 (Nat.le_of_ble_eq_true rfl) dX10_copyFrom_63 (fun M12 H locs hT h => ?_)
  refine lv_aload_n hx hb dX10_copyFrom_66 rfl (lv_at hl 0 rfl) ?_
  refine fx_getR X h (k := o) (j := 4) (r := (rf o 4)) (sc_Whole o ho) rfl fl_RX10_39 dX10_copyFrom_67 ?_
  refine lv_aload_n hx hb dX10_copyFrom_70 rfl (lv_at hl 1 rfl) ?_
  refine fx_getR X h (k := o1) (j := 4) (r := (rf o1 4)) (sc_Whole o1 ho1) rfl fl_RX10_39 dX10_copyFrom_71 ?_
  refine fx_vv X h ym_X5_copyWants yi_X5_copyWants ys_X5_copyWants (fx_s6 (List.mem_of_getElem? (i := 68) rfl) rfl) (sc_Plans (rf o 4) (sm_Whole_4 o ho)) rfl (c_X5_copyWants l G (sm_Whole_4 o ho) (sm_Whole_4 o1 ho1) hT) (As := [.ref (G.2.2.2 + (rf o1 4))]) (rest := []) rfl rfl ⟨Nat.le_of_ble_eq_true rfl, Nat.le_of_ble_eq_true rfl⟩ ⟨Nat.le_refl _, Nat.le_refl _⟩ hl.1 (Nat.le_of_ble_eq_true rfl) dX10_copyFrom_74 (fun M14 H locs hT h => ?_)
  refine lv_aload_n hx hb dX10_copyFrom_77 rfl (lv_at hl 0 rfl) ?_
  refine fx_getR X h (k := o) (j := 5) (r := (rf o 5)) (sc_Whole o ho) rfl fl_RX10_46 dX10_copyFrom_78 ?_
  refine lv_aload_n hx hb dX10_copyFrom_81 rfl (lv_at hl 1 rfl) ?_
  refine fx_getR X h (k := o1) (j := 5) (r := (rf o1 5)) (sc_Whole o1 ho1) rfl fl_RX10_46 dX10_copyFrom_82 ?_
  refine fx_vv X h ym_X9_copyFrom yi_X9_copyFrom ys_X9_copyFrom (fx_s6 (List.mem_of_getElem? (i := 69) rfl) rfl) (sc_Told (rf o 5) (sm_Whole_5 o ho)) rfl (c_X9_copyFrom l G (sm_Whole_5 o ho) (sm_Whole_5 o1 ho1) hT) (As := [.ref (G.2.2.2 + (rf o1 5))]) (rest := []) rfl rfl ⟨Nat.le_of_ble_eq_true rfl, Nat.le_of_ble_eq_true rfl⟩ ⟨Nat.le_refl _, Nat.le_refl _⟩ hl.1 (Nat.le_of_ble_eq_true rfl) dX10_copyFrom_85 (fun M16 H locs hT h => ?_)
  exact fx_vret X hr hk h hT dX10_copyFrom_88
