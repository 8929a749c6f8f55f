theorem dX1_init_0 : decode cX1_init 0 = .ok (.aload_n 0, 1) := by decide +kernel
theorem dX1_init_1 : decode cX1_init 1 = .ok (.invokespecial 3, 3) := by decide +kernel
theorem dX1_init_4 : decode cX1_init 4 = .ok (.aload_n 0, 1) := by decide +kernel
theorem dX1_init_5 : decode cX1_init 5 = .ok (.iconst 0, 1) := by decide +kernel
theorem dX1_init_6 : decode cX1_init 6 = .ok (.putfield 9, 3) := by decide +kernel
theorem dX1_init_9 : decode cX1_init 9 = .ok (.aload_n 0, 1) := by decide +kernel
theorem dX1_init_10 : decode cX1_init 10 = .ok (.iconst 0, 1) := by decide +kernel
theorem dX1_init_11 : decode cX1_init 11 = .ok (.putfield 15, 3) := by decide +kernel
theorem dX1_init_14 : decode cX1_init 14 = .ok (.aload_n 0, 1) := by decide +kernel
theorem dX1_init_15 : decode cX1_init 15 = .ok (.bipush 16, 2) := by decide +kernel
theorem dX1_init_17 : decode cX1_init 17 = .ok (.newarray .int, 2) := by decide +kernel
theorem dX1_init_19 : decode cX1_init 19 = .ok (.putfield 18, 3) := by decide +kernel
theorem dX1_init_22 : decode cX1_init 22 = .ok (.aload_n 0, 1) := by decide +kernel
theorem dX1_init_23 : decode cX1_init 23 = .ok (.bipush 16, 2) := by decide +kernel
theorem dX1_init_25 : decode cX1_init 25 = .ok (.newarray .int, 2) := by decide +kernel
theorem dX1_init_27 : decode cX1_init 27 = .ok (.putfield 22, 3) := by decide +kernel
theorem dX1_init_30 : decode cX1_init 30 = .ok (.aload_n 0, 1) := by decide +kernel
theorem dX1_init_31 : decode cX1_init 31 = .ok (.bipush 16, 2) := by decide +kernel
theorem dX1_init_33 : decode cX1_init 33 = .ok (.newarray .int, 2) := by decide +kernel
theorem dX1_init_35 : decode cX1_init 35 = .ok (.putfield 25, 3) := by decide +kernel
theorem dX1_init_38 : decode cX1_init 38 = .ok (.aload_n 0, 1) := by decide +kernel
theorem dX1_init_39 : decode cX1_init 39 = .ok (.bipush 8, 2) := by decide +kernel
theorem dX1_init_41 : decode cX1_init 41 = .ok (.newarray .int, 2) := by decide +kernel
theorem dX1_init_43 : decode cX1_init 43 = .ok (.putfield 28, 3) := by decide +kernel
theorem dX1_init_46 : decode cX1_init 46 = .ok (.aload_n 0, 1) := by decide +kernel
theorem dX1_init_47 : decode cX1_init 47 = .ok (.bipush 8, 2) := by decide +kernel
theorem dX1_init_49 : decode cX1_init 49 = .ok (.newarray .int, 2) := by decide +kernel
theorem dX1_init_51 : decode cX1_init 51 = .ok (.putfield 31, 3) := by decide +kernel
theorem dX1_init_54 : decode cX1_init 54 = .ok (.return_, 1) := by decide +kernel
def CM_Cast (n : Nat) (M : Mm) : Mm := (m_up (m_up M (n + 0) 0 (0 : Int32)) (n + 0) 1 (0 : Int32))
set_option maxRecDepth 100000 in
theorem cz_Cast (n : Nat) (M : Mm) (a : Nat) (h : n + 6 ≤ a) : CM_Cast n M a = M a := by
  unfold CM_Cast
  rw [m_up_ne (by omega), m_up_ne (by omega)]
set_option maxHeartbeats 4000000 in
set_option maxRecDepth 100000 in
theorem ci_Cast (l : Launch) (G : fx_G) {S0 : List fx_S} {n : Nat} {M : Mm} (hn : S0.length = n) (h0 : ∀ a, n ≤ a → M a = fun _ => 0) : Met l yX1_init (fx_ws yX1_init cX1_init 1 none) (cx_rm 1 5 64) (va_Pc [.ref (G.2.2.2 + (n + 0))] (cx_P G (S0 ++ [.inr (.inr (1, [0, 0, 1, 1, 1, 1, 1]))]) M)) (va_Qv (fun u => u = (S0 ++ [.inr (.inr (1, [0, 0, n + 1 + 2, n + 2 + 2, n + 3 + 2, n + 4 + 2, n + 5 + 2])), .inl 16, .inl 16, .inl 16, .inl 8, .inl 8], CM_Cast n M)) (cx_R G) (fx_A G)) 5 64 (fx_A G) := by
  refine cy_met (own := RX1) (by decide +kernel) rfl rfl (Nat.le_of_ble_eq_true rfl) (fun p e s m below meth c X hr hk hin hO h hsz ls hl => ?_)
  obtain ⟨⟨hx, hb, hml, hown, hts⟩, hK, hQ⟩ := id X
  have hsz : s.heap.size = G.2.2.2 + (n + 1) := by rw [hsz, List.length_append, hn]; rfl
  have hz : G.2.2.2 ≤ s.heap.size := by omega
  have h0 : ∀ a, n + 1 ≤ a → M a = fun _ => 0 := fun a ha => h0 a (by omega)
  have hl : lv_has ls 1 [(0, .ref (G.2.2.2 + (n + 0)))] := hl
  refine lv_aload_n hx hb dX1_init_0 rfl (lv_at hl 0 rfl) ?_
  refine W.objInit hx hb hown (hts _ (fx_s1 (List.mem_of_getElem? (i := 40) rfl) rfl)) (hts _ (fx_s1 (List.mem_of_getElem? (i := 27) rfl) rfl)) (hts _ ob_c) rfl (by rw [hml]; exact hl.1) rfl dX1_init_1 (Nat.le_of_ble_eq_true rfl) (Nat.le_of_ble_eq_true rfl) ?_
  refine W.eq (g2 := F0 m 4 ls []) rfl ?_
  refine lv_aload_n hx hb dX1_init_4 rfl (lv_at hl 0 rfl) ?_
  refine lv_iconst (v := 0) hx hb dX1_init_5 (by decide) ?_
  refine fx_putI X h (k := n + 0) (j := 0) ((ap_at hn 0).trans rfl) rfl fl_RX1_9 dX1_init_6 (fun H locs h => ?_)
  obtain ⟨M1, eM1⟩ : ∃ z : Mm, z = m_up M (n + 0) 0 (0 : Int32) := ⟨_, rfl⟩
  rw [← eM1] at h
  have h0 : ∀ a, n + 1 ≤ a → M1 a = fun _ => 0 := fun a ha => by rw [eM1, m_up_ne (by omega)]; exact h0 a (by omega)
  refine lv_aload_n hx hb dX1_init_9 rfl (lv_at hl 0 rfl) ?_
  refine lv_iconst (v := 0) hx hb dX1_init_10 (by decide) ?_
  refine fx_putI X h (k := n + 0) (j := 1) ((ap_at hn 0).trans rfl) rfl fl_RX1_15 dX1_init_11 (fun H locs h => ?_)
  obtain ⟨M2, eM2⟩ : ∃ z : Mm, z = m_up M1 (n + 0) 1 (0 : Int32) := ⟨_, rfl⟩
  rw [← eM2] at h
  have h0 : ∀ a, n + 1 ≤ a → M2 a = fun _ => 0 := fun a ha => by rw [eM2, m_up_ne (by omega)]; exact h0 a (by omega)
  refine lv_aload_n hx hb dX1_init_14 rfl (lv_at hl 0 rfl) ?_
  refine lv_bipush (v := 16) hx hb dX1_init_15 (by decide) ?_
  refine cy_newa (i0 := 1) (N := 16) hn rfl X h hz (by omega) (h0 _ (by omega)) ak_int (by decide) (by decide) (by decide) (Nat.le_of_ble_eq_true rfl) (Nat.le_of_ble_eq_true rfl) dX1_init_17 (fun H h => ?_)
  have h : fx_H G (S0 ++ [.inr (.inr (1, [0, 0, 1, 1, 1, 1, 1])), .inl 16]) M2 s H _ := h
  refine W.widen (k := 1) (n := 16) (by omega) (by omega) ?_
  refine cx_putR (k := n + 0) (j := 2) (r := n + 1) (ty := .array .int) X hin h ((ap_at hn 0).trans rfl) fl_RX1_18 (Nat.le_of_ble_eq_true rfl) (fun C T N q => by cases q; rfl) (by decide +kernel) rfl rfl dX1_init_19 (fun H locs h => ?_)
  rw [ap_set hn 0] at h
  have h : fx_H G (S0 ++ [.inr (.inr (1, [0, 0, n + 1 + 2, 1, 1, 1, 1])), .inl 16]) M2 s H locs := h
  refine lv_aload_n hx hb dX1_init_22 rfl (lv_at hl 0 rfl) ?_
  refine lv_bipush (v := 16) hx hb dX1_init_23 (by decide) ?_
  refine cy_newa (i0 := 2) (N := 16) hn rfl X h hz (by omega) (h0 _ (by omega)) ak_int (by decide) (by decide) (by decide) (Nat.le_of_ble_eq_true rfl) (Nat.le_of_ble_eq_true rfl) dX1_init_25 (fun H h => ?_)
  have h : fx_H G (S0 ++ [.inr (.inr (1, [0, 0, n + 1 + 2, 1, 1, 1, 1])), .inl 16, .inl 16]) M2 s H _ := h
  refine W.widen (k := 2) (n := 32) (by omega) (by omega) ?_
  refine cx_putR (k := n + 0) (j := 3) (r := n + 2) (ty := .array .int) X hin h ((ap_at hn 0).trans rfl) fl_RX1_22 (Nat.le_of_ble_eq_true rfl) (fun C T N q => by cases q; rfl) (by decide +kernel) rfl rfl dX1_init_27 (fun H locs h => ?_)
  rw [ap_set hn 0] at h
  have h : fx_H G (S0 ++ [.inr (.inr (1, [0, 0, n + 1 + 2, n + 2 + 2, 1, 1, 1])), .inl 16, .inl 16]) M2 s H locs := h
  refine lv_aload_n hx hb dX1_init_30 rfl (lv_at hl 0 rfl) ?_
  refine lv_bipush (v := 16) hx hb dX1_init_31 (by decide) ?_
  refine cy_newa (i0 := 3) (N := 16) hn rfl X h hz (by omega) (h0 _ (by omega)) ak_int (by decide) (by decide) (by decide) (Nat.le_of_ble_eq_true rfl) (Nat.le_of_ble_eq_true rfl) dX1_init_33 (fun H h => ?_)
  have h : fx_H G (S0 ++ [.inr (.inr (1, [0, 0, n + 1 + 2, n + 2 + 2, 1, 1, 1])), .inl 16, .inl 16, .inl 16]) M2 s H _ := h
  refine W.widen (k := 3) (n := 48) (by omega) (by omega) ?_
  refine cx_putR (k := n + 0) (j := 4) (r := n + 3) (ty := .array .int) X hin h ((ap_at hn 0).trans rfl) fl_RX1_25 (Nat.le_of_ble_eq_true rfl) (fun C T N q => by cases q; rfl) (by decide +kernel) rfl rfl dX1_init_35 (fun H locs h => ?_)
  rw [ap_set hn 0] at h
  have h : fx_H G (S0 ++ [.inr (.inr (1, [0, 0, n + 1 + 2, n + 2 + 2, n + 3 + 2, 1, 1])), .inl 16, .inl 16, .inl 16]) M2 s H locs := h
  refine lv_aload_n hx hb dX1_init_38 rfl (lv_at hl 0 rfl) ?_
  refine lv_bipush (v := 8) hx hb dX1_init_39 (by decide) ?_
  refine cy_newa (i0 := 4) (N := 8) hn rfl X h hz (by omega) (h0 _ (by omega)) ak_int (by decide) (by decide) (by decide) (Nat.le_of_ble_eq_true rfl) (Nat.le_of_ble_eq_true rfl) dX1_init_41 (fun H h => ?_)
  have h : fx_H G (S0 ++ [.inr (.inr (1, [0, 0, n + 1 + 2, n + 2 + 2, n + 3 + 2, 1, 1])), .inl 16, .inl 16, .inl 16, .inl 8]) M2 s H _ := h
  refine W.widen (k := 4) (n := 56) (by omega) (by omega) ?_
  refine cx_putR (k := n + 0) (j := 5) (r := n + 4) (ty := .array .int) X hin h ((ap_at hn 0).trans rfl) fl_RX1_28 (Nat.le_of_ble_eq_true rfl) (fun C T N q => by cases q; rfl) (by decide +kernel) rfl rfl dX1_init_43 (fun H locs h => ?_)
  rw [ap_set hn 0] at h
  have h : fx_H G (S0 ++ [.inr (.inr (1, [0, 0, n + 1 + 2, n + 2 + 2, n + 3 + 2, n + 4 + 2, 1])), .inl 16, .inl 16, .inl 16, .inl 8]) M2 s H locs := h
  refine lv_aload_n hx hb dX1_init_46 rfl (lv_at hl 0 rfl) ?_
  refine lv_bipush (v := 8) hx hb dX1_init_47 (by decide) ?_
  refine cy_newa (i0 := 5) (N := 8) hn rfl X h hz (by omega) (h0 _ (by omega)) ak_int (by decide) (by decide) (by decide) (Nat.le_of_ble_eq_true rfl) (Nat.le_of_ble_eq_true rfl) dX1_init_49 (fun H h => ?_)
  have h : fx_H G (S0 ++ [.inr (.inr (1, [0, 0, n + 1 + 2, n + 2 + 2, n + 3 + 2, n + 4 + 2, 1])), .inl 16, .inl 16, .inl 16, .inl 8, .inl 8]) M2 s H _ := h
  refine W.widen (k := 5) (n := 64) (by omega) (by omega) ?_
  refine cx_putR (k := n + 0) (j := 6) (r := n + 5) (ty := .array .int) X hin h ((ap_at hn 0).trans rfl) fl_RX1_31 (Nat.le_of_ble_eq_true rfl) (fun C T N q => by cases q; rfl) (by decide +kernel) rfl rfl dX1_init_51 (fun H locs h => ?_)
  rw [ap_set hn 0] at h
  have h : fx_H G (S0 ++ [.inr (.inr (1, [0, 0, n + 1 + 2, n + 2 + 2, n + 3 + 2, n + 4 + 2, n + 5 + 2])), .inl 16, .inl 16, .inl 16, .inl 8, .inl 8]) M2 s H locs := h
  exact cy_ret X hr hk h (Prod.ext_iff.mpr ⟨rfl, by rw [eM2, eM1]; rfl⟩) dX1_init_54
theorem dX6_init_0 : decode cX6_init 0 = .ok (.aload_n 0, 1) := by decide +kernel
theorem dX6_init_1 : decode cX6_init 1 = .ok (.invokespecial 3, 3) := by decide +kernel
theorem dX6_init_4 : decode cX6_init 4 = .ok (.aload_n 0, 1) := by decide +kernel
theorem dX6_init_5 : decode cX6_init 5 = .ok (.bipush 16, 2) := by decide +kernel
theorem dX6_init_7 : decode cX6_init 7 = .ok (.newarray .int, 2) := by decide +kernel
theorem dX6_init_9 : decode cX6_init 9 = .ok (.putfield 9, 3) := by decide +kernel
theorem dX6_init_12 : decode cX6_init 12 = .ok (.aload_n 0, 1) := by decide +kernel
theorem dX6_init_13 : decode cX6_init 13 = .ok (.bipush 16, 2) := by decide +kernel
theorem dX6_init_15 : decode cX6_init 15 = .ok (.newarray .int, 2) := by decide +kernel
theorem dX6_init_17 : decode cX6_init 17 = .ok (.putfield 15, 3) := by decide +kernel
theorem dX6_init_20 : decode cX6_init 20 = .ok (.aload_n 0, 1) := by decide +kernel
theorem dX6_init_21 : decode cX6_init 21 = .ok (.bipush 16, 2) := by decide +kernel
theorem dX6_init_23 : decode cX6_init 23 = .ok (.newarray .int, 2) := by decide +kernel
theorem dX6_init_25 : decode cX6_init 25 = .ok (.putfield 18, 3) := by decide +kernel
theorem dX6_init_28 : decode cX6_init 28 = .ok (.aload_n 0, 1) := by decide +kernel
theorem dX6_init_29 : decode cX6_init 29 = .ok (.bipush 8, 2) := by decide +kernel
theorem dX6_init_31 : decode cX6_init 31 = .ok (.newarray .int, 2) := by decide +kernel
theorem dX6_init_33 : decode cX6_init 33 = .ok (.putfield 21, 3) := by decide +kernel
theorem dX6_init_36 : decode cX6_init 36 = .ok (.aload_n 0, 1) := by decide +kernel
theorem dX6_init_37 : decode cX6_init 37 = .ok (.bipush 8, 2) := by decide +kernel
theorem dX6_init_39 : decode cX6_init 39 = .ok (.newarray .int, 2) := by decide +kernel
theorem dX6_init_41 : decode cX6_init 41 = .ok (.putfield 24, 3) := by decide +kernel
theorem dX6_init_44 : decode cX6_init 44 = .ok (.aload_n 0, 1) := by decide +kernel
theorem dX6_init_45 : decode cX6_init 45 = .ok (.bipush 64, 2) := by decide +kernel
theorem dX6_init_47 : decode cX6_init 47 = .ok (.newarray .int, 2) := by decide +kernel
theorem dX6_init_49 : decode cX6_init 49 = .ok (.putfield 27, 3) := by decide +kernel
theorem dX6_init_52 : decode cX6_init 52 = .ok (.aload_n 0, 1) := by decide +kernel
theorem dX6_init_53 : decode cX6_init 53 = .ok (.iconst 0, 1) := by decide +kernel
theorem dX6_init_54 : decode cX6_init 54 = .ok (.putfield 30, 3) := by decide +kernel
theorem dX6_init_57 : decode cX6_init 57 = .ok (.aload_n 0, 1) := by decide +kernel
theorem dX6_init_58 : decode cX6_init 58 = .ok (.iconst 0, 1) := by decide +kernel
theorem dX6_init_59 : decode cX6_init 59 = .ok (.putfield 34, 3) := by decide +kernel
theorem dX6_init_62 : decode cX6_init 62 = .ok (.aload_n 0, 1) := by decide +kernel
theorem dX6_init_63 : decode cX6_init 63 = .ok (.iconst 0, 1) := by decide +kernel
theorem dX6_init_64 : decode cX6_init 64 = .ok (.putfield 37, 3) := by decide +kernel
theorem dX6_init_67 : decode cX6_init 67 = .ok (.aload_n 0, 1) := by decide +kernel
theorem dX6_init_68 : decode cX6_init 68 = .ok (.iconst 0, 1) := by decide +kernel
theorem dX6_init_69 : decode cX6_init 69 = .ok (.putfield 40, 3) := by decide +kernel
theorem dX6_init_72 : decode cX6_init 72 = .ok (.aload_n 0, 1) := by decide +kernel
theorem dX6_init_73 : decode cX6_init 73 = .ok (.iconst 0, 1) := by decide +kernel
theorem dX6_init_74 : decode cX6_init 74 = .ok (.putfield 43, 3) := by decide +kernel
theorem dX6_init_77 : decode cX6_init 77 = .ok (.aload_n 0, 1) := by decide +kernel
theorem dX6_init_78 : decode cX6_init 78 = .ok (.iconst 0, 1) := by decide +kernel
theorem dX6_init_79 : decode cX6_init 79 = .ok (.putfield 46, 3) := by decide +kernel
theorem dX6_init_82 : decode cX6_init 82 = .ok (.aload_n 0, 1) := by decide +kernel
theorem dX6_init_83 : decode cX6_init 83 = .ok (.iconst 0, 1) := by decide +kernel
theorem dX6_init_84 : decode cX6_init 84 = .ok (.putfield 49, 3) := by decide +kernel
theorem dX6_init_87 : decode cX6_init 87 = .ok (.aload_n 0, 1) := by decide +kernel
theorem dX6_init_88 : decode cX6_init 88 = .ok (.getfield 9, 3) := by decide +kernel
theorem dX6_init_91 : decode cX6_init 91 = .ok (.iconst (-1), 1) := by decide +kernel
theorem dX6_init_92 : decode cX6_init 92 = .ok (.invokestatic 52, 3) := by decide +kernel
theorem dX6_init_95 : decode cX6_init 95 = .ok (.aload_n 0, 1) := by decide +kernel
theorem dX6_init_96 : decode cX6_init 96 = .ok (.getfield 15, 3) := by decide +kernel
theorem dX6_init_99 : decode cX6_init 99 = .ok (.iconst (-1), 1) := by decide +kernel
theorem dX6_init_100 : decode cX6_init 100 = .ok (.invokestatic 52, 3) := by decide +kernel
theorem dX6_init_103 : decode cX6_init 103 = .ok (.return_, 1) := by decide +kernel
def CM_Quay (n : Nat) (M : Mm) : Mm := (mf (mf (m_up (m_up (m_up (m_up (m_up (m_up (m_up M (n + 0) 6 (0 : Int32)) (n + 0) 7 (0 : Int32)) (n + 0) 8 (0 : Int32)) (n + 0) 9 (0 : Int32)) (n + 0) 10 (0 : Int32)) (n + 0) 11 (0 : Int32)) (n + 0) 12 (0 : Int32)) (n + 1) 16 (-1 : Int32)) (n + 2) 16 (-1 : Int32))
set_option maxRecDepth 100000 in
theorem cz_Quay (n : Nat) (M : Mm) (a : Nat) (h : n + 7 ≤ a) : CM_Quay n M a = M a := by
  unfold CM_Quay
  rw [mf_ne (by omega), mf_ne (by omega), m_up_ne (by omega), m_up_ne (by omega), m_up_ne (by omega), m_up_ne (by omega), m_up_ne (by omega), m_up_ne (by omega), m_up_ne (by omega)]
set_option maxHeartbeats 4000000 in
set_option maxRecDepth 100000 in
theorem ci_Quay (l : Launch) (G : fx_G) {S0 : List fx_S} {n : Nat} {M : Mm} (hn : S0.length = n) (h0 : ∀ a, n ≤ a → M a = fun _ => 0) : Met l yX6_init (fx_ws yX6_init cX6_init 1 none) (cx_rm 1 6 128) (va_Pc [.ref (G.2.2.2 + (n + 0))] (cx_P G (S0 ++ [.inr (.inr (6, [1, 1, 1, 1, 1, 1, 0, 0, 0, 0, 0, 0, 0]))]) M)) (va_Qv (fun u => u = (S0 ++ [.inr (.inr (6, [n + 1 + 2, n + 2 + 2, n + 3 + 2, n + 4 + 2, n + 5 + 2, n + 6 + 2, 0, 0, 0, 0, 0, 0, 0])), .inl 16, .inl 16, .inl 16, .inl 8, .inl 8, .inl 64], CM_Quay n M)) (cx_R G) (fx_A G)) 6 128 (fx_A G) := by
  refine cy_met (own := RX6) (by decide +kernel) rfl rfl (Nat.le_of_ble_eq_true rfl) (fun p e s m below meth c X hr hk hin hO h hsz ls hl => ?_)
  obtain ⟨⟨hx, hb, hml, hown, hts⟩, hK, hQ⟩ := id X
  have hsz : s.heap.size = G.2.2.2 + (n + 1) := by rw [hsz, List.length_append, hn]; rfl
  have hz : G.2.2.2 ≤ s.heap.size := by omega
  have h0 : ∀ a, n + 1 ≤ a → M a = fun _ => 0 := fun a ha => h0 a (by omega)
  have hl : lv_has ls 1 [(0, .ref (G.2.2.2 + (n + 0)))] := hl
  refine lv_aload_n hx hb dX6_init_0 rfl (lv_at hl 0 rfl) ?_
  refine W.objInit hx hb hown (hts _ (fx_s1 (List.mem_of_getElem? (i := 86) rfl) rfl)) (hts _ (fx_s1 (List.mem_of_getElem? (i := 27) rfl) rfl)) (hts _ ob_c) rfl (by rw [hml]; exact hl.1) rfl dX6_init_1 (Nat.le_of_ble_eq_true rfl) (Nat.le_of_ble_eq_true rfl) ?_
  refine W.eq (g2 := F0 m 4 ls []) rfl ?_
  refine lv_aload_n hx hb dX6_init_4 rfl (lv_at hl 0 rfl) ?_
  refine lv_bipush (v := 16) hx hb dX6_init_5 (by decide) ?_
  refine cy_newa (i0 := 1) (N := 16) hn rfl X h hz (by omega) (h0 _ (by omega)) ak_int (by decide) (by decide) (by decide) (Nat.le_of_ble_eq_true rfl) (Nat.le_of_ble_eq_true rfl) dX6_init_7 (fun H h => ?_)
  have h : fx_H G (S0 ++ [.inr (.inr (6, [1, 1, 1, 1, 1, 1, 0, 0, 0, 0, 0, 0, 0])), .inl 16]) M s H _ := h
  refine W.widen (k := 1) (n := 16) (by omega) (by omega) ?_
  refine cx_putR (k := n + 0) (j := 0) (r := n + 1) (ty := .array .int) X hin h ((ap_at hn 0).trans rfl) fl_RX6_9 (Nat.le_of_ble_eq_true rfl) (fun C T N q => by cases q; rfl) (by decide +kernel) rfl rfl dX6_init_9 (fun H locs h => ?_)
  rw [ap_set hn 0] at h
  have h : fx_H G (S0 ++ [.inr (.inr (6, [n + 1 + 2, 1, 1, 1, 1, 1, 0, 0, 0, 0, 0, 0, 0])), .inl 16]) M s H locs := h
  refine lv_aload_n hx hb dX6_init_12 rfl (lv_at hl 0 rfl) ?_
  refine lv_bipush (v := 16) hx hb dX6_init_13 (by decide) ?_
  refine cy_newa (i0 := 2) (N := 16) hn rfl X h hz (by omega) (h0 _ (by omega)) ak_int (by decide) (by decide) (by decide) (Nat.le_of_ble_eq_true rfl) (Nat.le_of_ble_eq_true rfl) dX6_init_15 (fun H h => ?_)
  have h : fx_H G (S0 ++ [.inr (.inr (6, [n + 1 + 2, 1, 1, 1, 1, 1, 0, 0, 0, 0, 0, 0, 0])), .inl 16, .inl 16]) M s H _ := h
  refine W.widen (k := 2) (n := 32) (by omega) (by omega) ?_
  refine cx_putR (k := n + 0) (j := 1) (r := n + 2) (ty := .array .int) X hin h ((ap_at hn 0).trans rfl) fl_RX6_15 (Nat.le_of_ble_eq_true rfl) (fun C T N q => by cases q; rfl) (by decide +kernel) rfl rfl dX6_init_17 (fun H locs h => ?_)
  rw [ap_set hn 0] at h
  have h : fx_H G (S0 ++ [.inr (.inr (6, [n + 1 + 2, n + 2 + 2, 1, 1, 1, 1, 0, 0, 0, 0, 0, 0, 0])), .inl 16, .inl 16]) M s H locs := h
  refine lv_aload_n hx hb dX6_init_20 rfl (lv_at hl 0 rfl) ?_
  refine lv_bipush (v := 16) hx hb dX6_init_21 (by decide) ?_
  refine cy_newa (i0 := 3) (N := 16) hn rfl X h hz (by omega) (h0 _ (by omega)) ak_int (by decide) (by decide) (by decide) (Nat.le_of_ble_eq_true rfl) (Nat.le_of_ble_eq_true rfl) dX6_init_23 (fun H h => ?_)
  have h : fx_H G (S0 ++ [.inr (.inr (6, [n + 1 + 2, n + 2 + 2, 1, 1, 1, 1, 0, 0, 0, 0, 0, 0, 0])), .inl 16, .inl 16, .inl 16]) M s H _ := h
  refine W.widen (k := 3) (n := 48) (by omega) (by omega) ?_
  refine cx_putR (k := n + 0) (j := 2) (r := n + 3) (ty := .array .int) X hin h ((ap_at hn 0).trans rfl) fl_RX6_18 (Nat.le_of_ble_eq_true rfl) (fun C T N q => by cases q; rfl) (by decide +kernel) rfl rfl dX6_init_25 (fun H locs h => ?_)
  rw [ap_set hn 0] at h
  have h : fx_H G (S0 ++ [.inr (.inr (6, [n + 1 + 2, n + 2 + 2, n + 3 + 2, 1, 1, 1, 0, 0, 0, 0, 0, 0, 0])), .inl 16, .inl 16, .inl 16]) M s H locs := h
  refine lv_aload_n hx hb dX6_init_28 rfl (lv_at hl 0 rfl) ?_
  refine lv_bipush (v := 8) hx hb dX6_init_29 (by decide) ?_
  refine cy_newa (i0 := 4) (N := 8) hn rfl X h hz (by omega) (h0 _ (by omega)) ak_int (by decide) (by decide) (by decide) (Nat.le_of_ble_eq_true rfl) (Nat.le_of_ble_eq_true rfl) dX6_init_31 (fun H h => ?_)
  have h : fx_H G (S0 ++ [.inr (.inr (6, [n + 1 + 2, n + 2 + 2, n + 3 + 2, 1, 1, 1, 0, 0, 0, 0, 0, 0, 0])), .inl 16, .inl 16, .inl 16, .inl 8]) M s H _ := h
  refine W.widen (k := 4) (n := 56) (by omega) (by omega) ?_
  refine cx_putR (k := n + 0) (j := 3) (r := n + 4) (ty := .array .int) X hin h ((ap_at hn 0).trans rfl) fl_RX6_21 (Nat.le_of_ble_eq_true rfl) (fun C T N q => by cases q; rfl) (by decide +kernel) rfl rfl dX6_init_33 (fun H locs h => ?_)
  rw [ap_set hn 0] at h
  have h : fx_H G (S0 ++ [.inr (.inr (6, [n + 1 + 2, n + 2 + 2, n + 3 + 2, n + 4 + 2, 1, 1, 0, 0, 0, 0, 0, 0, 0])), .inl 16, .inl 16, .inl 16, .inl 8]) M s H locs := h
  refine lv_aload_n hx hb dX6_init_36 rfl (lv_at hl 0 rfl) ?_
  refine lv_bipush (v := 8) hx hb dX6_init_37 (by decide) ?_
  refine cy_newa (i0 := 5) (N := 8) hn rfl X h hz (by omega) (h0 _ (by omega)) ak_int (by decide) (by decide) (by decide) (Nat.le_of_ble_eq_true rfl) (Nat.le_of_ble_eq_true rfl) dX6_init_39 (fun H h => ?_)
  have h : fx_H G (S0 ++ [.inr (.inr (6, [n + 1 + 2, n + 2 + 2, n + 3 + 2, n + 4 + 2, 1, 1, 0, 0, 0, 0, 0, 0, 0])), .inl 16, .inl 16, .inl 16, .inl 8, .inl 8]) M s H _ := h
  refine W.widen (k := 5) (n := 64) (by omega) (by omega) ?_
  refine cx_putR (k := n + 0) (j := 4) (r := n + 5) (ty := .array .int) X hin h ((ap_at hn 0).trans rfl) fl_RX6_24 (Nat.le_of_ble_eq_true rfl) (fun C T N q => by cases q; rfl) (by decide +kernel) rfl rfl dX6_init_41 (fun H locs h => ?_)
  rw [ap_set hn 0] at h
  have h : fx_H G (S0 ++ [.inr (.inr (6, [n + 1 + 2, n + 2 + 2, n + 3 + 2, n + 4 + 2, n + 5 + 2, 1, 0, 0, 0, 0, 0, 0, 0])), .inl 16, .inl 16, .inl 16, .inl 8, .inl 8]) M s H locs := h
  refine lv_aload_n hx hb dX6_init_44 rfl (lv_at hl 0 rfl) ?_
  refine lv_bipush (v := 64) hx hb dX6_init_45 (by decide) ?_
  refine cy_newa (i0 := 6) (N := 64) hn rfl X h hz (by omega) (h0 _ (by omega)) ak_int (by decide) (by decide) (by decide) (Nat.le_of_ble_eq_true rfl) (Nat.le_of_ble_eq_true rfl) dX6_init_47 (fun H h => ?_)
  have h : fx_H G (S0 ++ [.inr (.inr (6, [n + 1 + 2, n + 2 + 2, n + 3 + 2, n + 4 + 2, n + 5 + 2, 1, 0, 0, 0, 0, 0, 0, 0])), .inl 16, .inl 16, .inl 16, .inl 8, .inl 8, .inl 64]) M s H _ := h
  refine W.widen (k := 6) (n := 128) (by omega) (by omega) ?_
  refine cx_putR (k := n + 0) (j := 5) (r := n + 6) (ty := .array .int) X hin h ((ap_at hn 0).trans rfl) fl_RX6_27 (Nat.le_of_ble_eq_true rfl) (fun C T N q => by cases q; rfl) (by decide +kernel) rfl rfl dX6_init_49 (fun H locs h => ?_)
  rw [ap_set hn 0] at h
  have h : fx_H G (S0 ++ [.inr (.inr (6, [n + 1 + 2, n + 2 + 2, n + 3 + 2, n + 4 + 2, n + 5 + 2, n + 6 + 2, 0, 0, 0, 0, 0, 0, 0])), .inl 16, .inl 16, .inl 16, .inl 8, .inl 8, .inl 64]) M s H locs := h
  refine lv_aload_n hx hb dX6_init_52 rfl (lv_at hl 0 rfl) ?_
  refine lv_iconst (v := 0) hx hb dX6_init_53 (by decide) ?_
  refine fx_putI X h (k := n + 0) (j := 6) ((ap_at hn 0).trans rfl) rfl fl_RX6_30 dX6_init_54 (fun H locs h => ?_)
  obtain ⟨M1, eM1⟩ : ∃ z : Mm, z = m_up M (n + 0) 6 (0 : Int32) := ⟨_, rfl⟩
  rw [← eM1] at h
  have h0 : ∀ a, n + 7 ≤ a → M1 a = fun _ => 0 := fun a ha => by rw [eM1, m_up_ne (by omega)]; exact h0 a (by omega)
  refine lv_aload_n hx hb dX6_init_57 rfl (lv_at hl 0 rfl) ?_
  refine lv_iconst (v := 0) hx hb dX6_init_58 (by decide) ?_
  refine fx_putI X h (k := n + 0) (j := 7) ((ap_at hn 0).trans rfl) rfl fl_RX6_34 dX6_init_59 (fun H locs h => ?_)
  obtain ⟨M2, eM2⟩ : ∃ z : Mm, z = m_up M1 (n + 0) 7 (0 : Int32) := ⟨_, rfl⟩
  rw [← eM2] at h
  have h0 : ∀ a, n + 7 ≤ a → M2 a = fun _ => 0 := fun a ha => by rw [eM2, m_up_ne (by omega)]; exact h0 a (by omega)
  refine lv_aload_n hx hb dX6_init_62 rfl (lv_at hl 0 rfl) ?_
  refine lv_iconst (v := 0) hx hb dX6_init_63 (by decide) ?_
  refine fx_putI X h (k := n + 0) (j := 8) ((ap_at hn 0).trans rfl) rfl fl_RX6_37 dX6_init_64 (fun H locs h => ?_)
  obtain ⟨M3, eM3⟩ : ∃ z : Mm, z = m_up M2 (n + 0) 8 (0 : Int32) := ⟨_, rfl⟩
  rw [← eM3] at h
  have h0 : ∀ a, n + 7 ≤ a → M3 a = fun _ => 0 := fun a ha => by rw [eM3, m_up_ne (by omega)]; exact h0 a (by omega)
  refine lv_aload_n hx hb dX6_init_67 rfl (lv_at hl 0 rfl) ?_
  refine lv_iconst (v := 0) hx hb dX6_init_68 (by decide) ?_
  refine fx_putI X h (k := n + 0) (j := 9) ((ap_at hn 0).trans rfl) rfl fl_RX6_40 dX6_init_69 (fun H locs h => ?_)
  obtain ⟨M4, eM4⟩ : ∃ z : Mm, z = m_up M3 (n + 0) 9 (0 : Int32) := ⟨_, rfl⟩
  rw [← eM4] at h
  have h0 : ∀ a, n + 7 ≤ a → M4 a = fun _ => 0 := fun a ha => by rw [eM4, m_up_ne (by omega)]; exact h0 a (by omega)
  refine lv_aload_n hx hb dX6_init_72 rfl (lv_at hl 0 rfl) ?_
  refine lv_iconst (v := 0) hx hb dX6_init_73 (by decide) ?_
  refine fx_putI X h (k := n + 0) (j := 10) ((ap_at hn 0).trans rfl) rfl fl_RX6_43 dX6_init_74 (fun H locs h => ?_)
  obtain ⟨M5, eM5⟩ : ∃ z : Mm, z = m_up M4 (n + 0) 10 (0 : Int32) := ⟨_, rfl⟩
  rw [← eM5] at h
  have h0 : ∀ a, n + 7 ≤ a → M5 a = fun _ => 0 := fun a ha => by rw [eM5, m_up_ne (by omega)]; exact h0 a (by omega)
  refine lv_aload_n hx hb dX6_init_77 rfl (lv_at hl 0 rfl) ?_
  refine lv_iconst (v := 0) hx hb dX6_init_78 (by decide) ?_
  refine fx_putI X h (k := n + 0) (j := 11) ((ap_at hn 0).trans rfl) rfl fl_RX6_46 dX6_init_79 (fun H locs h => ?_)
  obtain ⟨M6, eM6⟩ : ∃ z : Mm, z = m_up M5 (n + 0) 11 (0 : Int32) := ⟨_, rfl⟩
  rw [← eM6] at h
  have h0 : ∀ a, n + 7 ≤ a → M6 a = fun _ => 0 := fun a ha => by rw [eM6, m_up_ne (by omega)]; exact h0 a (by omega)
  refine lv_aload_n hx hb dX6_init_82 rfl (lv_at hl 0 rfl) ?_
  refine lv_iconst (v := 0) hx hb dX6_init_83 (by decide) ?_
  refine fx_putI X h (k := n + 0) (j := 12) ((ap_at hn 0).trans rfl) rfl fl_RX6_49 dX6_init_84 (fun H locs h => ?_)
  obtain ⟨M7, eM7⟩ : ∃ z : Mm, z = m_up M6 (n + 0) 12 (0 : Int32) := ⟨_, rfl⟩
  rw [← eM7] at h
  have h0 : ∀ a, n + 7 ≤ a → M7 a = fun _ => 0 := fun a ha => by rw [eM7, m_up_ne (by omega)]; exact h0 a (by omega)
  refine lv_aload_n hx hb dX6_init_87 rfl (lv_at hl 0 rfl) ?_
  refine fx_getR X h (k := n + 0) (j := 0) (r := n + 1) ((ap_at hn 0).trans rfl) rfl fl_RX6_9 dX6_init_88 ?_
  refine lv_iconst (v := -1) hx hb dX6_init_91 (by decide) ?_
  refine fx_nv X h ym_X11_fillRow yt_X11_fillRow (nq_RX6_52) (c_fillS l G (a0 := n + 1) (N := 16) ((ap_at hn 1).trans rfl) (T_fillS_ok (K := fun M9 => M9 = mf M7 (n + 1) 16 (-1 : Int32)) (by omega) rfl)) (As := [.ref (G.2.2.2 + (n + 1)), .int (-1 : Int32)]) (rest := []) rfl rfl ⟨by simp only [cx_rm]; omega, by simp only [cx_rm]; omega⟩ ⟨by simp only [cx_rm]; omega, by simp only [cx_rm]; omega⟩ hl.1 (Nat.le_of_ble_eq_true rfl) dX6_init_92 (fun M9 H locs hM9 h => ?_)
  rw [hM9] at h
  obtain ⟨M8, eM8⟩ : ∃ z : Mm, z = mf M7 (n + 1) 16 (-1 : Int32) := ⟨_, rfl⟩
  rw [← eM8] at h
  have h0 : ∀ a, n + 7 ≤ a → M8 a = fun _ => 0 := fun a ha => by rw [eM8, mf_ne (by omega)]; exact h0 a (by omega)
  refine lv_aload_n hx hb dX6_init_95 rfl (lv_at hl 0 rfl) ?_
  refine fx_getR X h (k := n + 0) (j := 1) (r := n + 2) ((ap_at hn 0).trans rfl) rfl fl_RX6_15 dX6_init_96 ?_
  refine lv_iconst (v := -1) hx hb dX6_init_99 (by decide) ?_
  refine fx_nv X h ym_X11_fillRow yt_X11_fillRow (nq_RX6_52) (c_fillS l G (a0 := n + 2) (N := 16) ((ap_at hn 2).trans rfl) (T_fillS_ok (K := fun M9 => M9 = mf M8 (n + 2) 16 (-1 : Int32)) (by omega) rfl)) (As := [.ref (G.2.2.2 + (n + 2)), .int (-1 : Int32)]) (rest := []) rfl rfl ⟨by simp only [cx_rm]; omega, by simp only [cx_rm]; omega⟩ ⟨by simp only [cx_rm]; omega, by simp only [cx_rm]; omega⟩ hl.1 (Nat.le_of_ble_eq_true rfl) dX6_init_100 (fun M9 H locs hM9 h => ?_)
  rw [hM9] at h
  obtain ⟨M9, eM9⟩ : ∃ z : Mm, z = mf M8 (n + 2) 16 (-1 : Int32) := ⟨_, rfl⟩
  rw [← eM9] at h
  have h0 : ∀ a, n + 7 ≤ a → M9 a = fun _ => 0 := fun a ha => by rw [eM9, mf_ne (by omega)]; exact h0 a (by omega)
  exact cy_ret X hr hk h (Prod.ext_iff.mpr ⟨rfl, by rw [eM9, eM8, eM7, eM6, eM5, eM4, eM3, eM2, eM1]; rfl⟩) dX6_init_103
theorem dX2_init_0 : decode cX2_init 0 = .ok (.aload_n 0, 1) := by decide +kernel
theorem dX2_init_1 : decode cX2_init 1 = .ok (.invokespecial 3, 3) := by decide +kernel
theorem dX2_init_4 : decode cX2_init 4 = .ok (.aload_n 0, 1) := by decide +kernel
theorem dX2_init_5 : decode cX2_init 5 = .ok (.sipush 400, 3) := by decide +kernel
theorem dX2_init_8 : decode cX2_init 8 = .ok (.newarray .int, 2) := by decide +kernel
theorem dX2_init_10 : decode cX2_init 10 = .ok (.putfield 9, 3) := by decide +kernel
theorem dX2_init_13 : decode cX2_init 13 = .ok (.aload_n 0, 1) := by decide +kernel
theorem dX2_init_14 : decode cX2_init 14 = .ok (.bipush 16, 2) := by decide +kernel
theorem dX2_init_16 : decode cX2_init 16 = .ok (.newarray .int, 2) := by decide +kernel
theorem dX2_init_18 : decode cX2_init 18 = .ok (.putfield 15, 3) := by decide +kernel
theorem dX2_init_21 : decode cX2_init 21 = .ok (.aload_n 0, 1) := by decide +kernel
theorem dX2_init_22 : decode cX2_init 22 = .ok (.bipush 16, 2) := by decide +kernel
theorem dX2_init_24 : decode cX2_init 24 = .ok (.newarray .int, 2) := by decide +kernel
theorem dX2_init_26 : decode cX2_init 26 = .ok (.putfield 18, 3) := by decide +kernel
theorem dX2_init_29 : decode cX2_init 29 = .ok (.aload_n 0, 1) := by decide +kernel
theorem dX2_init_30 : decode cX2_init 30 = .ok (.bipush 16, 2) := by decide +kernel
theorem dX2_init_32 : decode cX2_init 32 = .ok (.newarray .int, 2) := by decide +kernel
theorem dX2_init_34 : decode cX2_init 34 = .ok (.putfield 21, 3) := by decide +kernel
theorem dX2_init_37 : decode cX2_init 37 = .ok (.aload_n 0, 1) := by decide +kernel
theorem dX2_init_38 : decode cX2_init 38 = .ok (.bipush 12, 2) := by decide +kernel
theorem dX2_init_40 : decode cX2_init 40 = .ok (.newarray .int, 2) := by decide +kernel
theorem dX2_init_42 : decode cX2_init 42 = .ok (.putfield 24, 3) := by decide +kernel
theorem dX2_init_45 : decode cX2_init 45 = .ok (.aload_n 0, 1) := by decide +kernel
theorem dX2_init_46 : decode cX2_init 46 = .ok (.bipush 32, 2) := by decide +kernel
theorem dX2_init_48 : decode cX2_init 48 = .ok (.newarray .int, 2) := by decide +kernel
theorem dX2_init_50 : decode cX2_init 50 = .ok (.putfield 27, 3) := by decide +kernel
theorem dX2_init_53 : decode cX2_init 53 = .ok (.aload_n 0, 1) := by decide +kernel
theorem dX2_init_54 : decode cX2_init 54 = .ok (.iconst 0, 1) := by decide +kernel
theorem dX2_init_55 : decode cX2_init 55 = .ok (.putfield 30, 3) := by decide +kernel
theorem dX2_init_58 : decode cX2_init 58 = .ok (.aload_n 0, 1) := by decide +kernel
theorem dX2_init_59 : decode cX2_init 59 = .ok (.iconst 0, 1) := by decide +kernel
theorem dX2_init_60 : decode cX2_init 60 = .ok (.putfield 34, 3) := by decide +kernel
theorem dX2_init_63 : decode cX2_init 63 = .ok (.return_, 1) := by decide +kernel
def CM_Law (n : Nat) (M : Mm) : Mm := (m_up (m_up M (n + 0) 6 (0 : Int32)) (n + 0) 7 (0 : Int32))
set_option maxRecDepth 100000 in
theorem cz_Law (n : Nat) (M : Mm) (a : Nat) (h : n + 7 ≤ a) : CM_Law n M a = M a := by
  unfold CM_Law
  rw [m_up_ne (by omega), m_up_ne (by omega)]
set_option maxHeartbeats 4000000 in
set_option maxRecDepth 100000 in
theorem ci_Law (l : Launch) (G : fx_G) {S0 : List fx_S} {n : Nat} {M : Mm} (hn : S0.length = n) (h0 : ∀ a, n ≤ a → M a = fun _ => 0) : Met l yX2_init (fx_ws yX2_init cX2_init 1 none) (cx_rm 1 6 492) (va_Pc [.ref (G.2.2.2 + (n + 0))] (cx_P G (S0 ++ [.inr (.inr (2, [1, 1, 1, 1, 1, 1, 0, 0]))]) M)) (va_Qv (fun u => u = (S0 ++ [.inr (.inr (2, [n + 1 + 2, n + 2 + 2, n + 3 + 2, n + 4 + 2, n + 5 + 2, n + 6 + 2, 0, 0])), .inl 400, .inl 16, .inl 16, .inl 16, .inl 12, .inl 32], CM_Law n M)) (cx_R G) (fx_A G)) 6 492 (fx_A G) := by
  refine cy_met (own := RX2) (by decide +kernel) rfl rfl (Nat.le_of_ble_eq_true rfl) (fun p e s m below meth c X hr hk hin hO h hsz ls hl => ?_)
  obtain ⟨⟨hx, hb, hml, hown, hts⟩, hK, hQ⟩ := id X
  have hsz : s.heap.size = G.2.2.2 + (n + 1) := by rw [hsz, List.length_append, hn]; rfl
  have hz : G.2.2.2 ≤ s.heap.size := by omega
  have h0 : ∀ a, n + 1 ≤ a → M a = fun _ => 0 := fun a ha => h0 a (by omega)
  have hl : lv_has ls 1 [(0, .ref (G.2.2.2 + (n + 0)))] := hl
  refine lv_aload_n hx hb dX2_init_0 rfl (lv_at hl 0 rfl) ?_
  refine W.objInit hx hb hown (hts _ (fx_s1 (List.mem_of_getElem? (i := 161) rfl) rfl)) (hts _ (fx_s1 (List.mem_of_getElem? (i := 27) rfl) rfl)) (hts _ ob_c) rfl (by rw [hml]; exact hl.1) rfl dX2_init_1 (Nat.le_of_ble_eq_true rfl) (Nat.le_of_ble_eq_true rfl) ?_
  refine W.eq (g2 := F0 m 4 ls []) rfl ?_
  refine lv_aload_n hx hb dX2_init_4 rfl (lv_at hl 0 rfl) ?_
  refine lv_sipush (v := 400) hx hb dX2_init_5 (by decide) ?_
  refine cy_newa (i0 := 1) (N := 400) hn rfl X h hz (by omega) (h0 _ (by omega)) ak_int (by decide) (by decide) (by decide) (Nat.le_of_ble_eq_true rfl) (Nat.le_of_ble_eq_true rfl) dX2_init_8 (fun H h => ?_)
  have h : fx_H G (S0 ++ [.inr (.inr (2, [1, 1, 1, 1, 1, 1, 0, 0])), .inl 400]) M s H _ := h
  refine W.widen (k := 1) (n := 400) (by omega) (by omega) ?_
  refine cx_putR (k := n + 0) (j := 0) (r := n + 1) (ty := .array .int) X hin h ((ap_at hn 0).trans rfl) fl_RX2_9 (Nat.le_of_ble_eq_true rfl) (fun C T N q => by cases q; rfl) (by decide +kernel) rfl rfl dX2_init_10 (fun H locs h => ?_)
  rw [ap_set hn 0] at h
  have h : fx_H G (S0 ++ [.inr (.inr (2, [n + 1 + 2, 1, 1, 1, 1, 1, 0, 0])), .inl 400]) M s H locs := h
  refine lv_aload_n hx hb dX2_init_13 rfl (lv_at hl 0 rfl) ?_
  refine lv_bipush (v := 16) hx hb dX2_init_14 (by decide) ?_
  refine cy_newa (i0 := 2) (N := 16) hn rfl X h hz (by omega) (h0 _ (by omega)) ak_int (by decide) (by decide) (by decide) (Nat.le_of_ble_eq_true rfl) (Nat.le_of_ble_eq_true rfl) dX2_init_16 (fun H h => ?_)
  have h : fx_H G (S0 ++ [.inr (.inr (2, [n + 1 + 2, 1, 1, 1, 1, 1, 0, 0])), .inl 400, .inl 16]) M s H _ := h
  refine W.widen (k := 2) (n := 416) (by omega) (by omega) ?_
  refine cx_putR (k := n + 0) (j := 1) (r := n + 2) (ty := .array .int) X hin h ((ap_at hn 0).trans rfl) fl_RX2_15 (Nat.le_of_ble_eq_true rfl) (fun C T N q => by cases q; rfl) (by decide +kernel) rfl rfl dX2_init_18 (fun H locs h => ?_)
  rw [ap_set hn 0] at h
  have h : fx_H G (S0 ++ [.inr (.inr (2, [n + 1 + 2, n + 2 + 2, 1, 1, 1, 1, 0, 0])), .inl 400, .inl 16]) M s H locs := h
  refine lv_aload_n hx hb dX2_init_21 rfl (lv_at hl 0 rfl) ?_
  refine lv_bipush (v := 16) hx hb dX2_init_22 (by decide) ?_
  refine cy_newa (i0 := 3) (N := 16) hn rfl X h hz (by omega) (h0 _ (by omega)) ak_int (by decide) (by decide) (by decide) (Nat.le_of_ble_eq_true rfl) (Nat.le_of_ble_eq_true rfl) dX2_init_24 (fun H h => ?_)
  have h : fx_H G (S0 ++ [.inr (.inr (2, [n + 1 + 2, n + 2 + 2, 1, 1, 1, 1, 0, 0])), .inl 400, .inl 16, .inl 16]) M s H _ := h
  refine W.widen (k := 3) (n := 432) (by omega) (by omega) ?_
  refine cx_putR (k := n + 0) (j := 2) (r := n + 3) (ty := .array .int) X hin h ((ap_at hn 0).trans rfl) fl_RX2_18 (Nat.le_of_ble_eq_true rfl) (fun C T N q => by cases q; rfl) (by decide +kernel) rfl rfl dX2_init_26 (fun H locs h => ?_)
  rw [ap_set hn 0] at h
  have h : fx_H G (S0 ++ [.inr (.inr (2, [n + 1 + 2, n + 2 + 2, n + 3 + 2, 1, 1, 1, 0, 0])), .inl 400, .inl 16, .inl 16]) M s H locs := h
  refine lv_aload_n hx hb dX2_init_29 rfl (lv_at hl 0 rfl) ?_
  refine lv_bipush (v := 16) hx hb dX2_init_30 (by decide) ?_
  refine cy_newa (i0 := 4) (N := 16) hn rfl X h hz (by omega) (h0 _ (by omega)) ak_int (by decide) (by decide) (by decide) (Nat.le_of_ble_eq_true rfl) (Nat.le_of_ble_eq_true rfl) dX2_init_32 (fun H h => ?_)
  have h : fx_H G (S0 ++ [.inr (.inr (2, [n + 1 + 2, n + 2 + 2, n + 3 + 2, 1, 1, 1, 0, 0])), .inl 400, .inl 16, .inl 16, .inl 16]) M s H _ := h
  refine W.widen (k := 4) (n := 448) (by omega) (by omega) ?_
  refine cx_putR (k := n + 0) (j := 3) (r := n + 4) (ty := .array .int) X hin h ((ap_at hn 0).trans rfl) fl_RX2_21 (Nat.le_of_ble_eq_true rfl) (fun C T N q => by cases q; rfl) (by decide +kernel) rfl rfl dX2_init_34 (fun H locs h => ?_)
  rw [ap_set hn 0] at h
  have h : fx_H G (S0 ++ [.inr (.inr (2, [n + 1 + 2, n + 2 + 2, n + 3 + 2, n + 4 + 2, 1, 1, 0, 0])), .inl 400, .inl 16, .inl 16, .inl 16]) M s H locs := h
  refine lv_aload_n hx hb dX2_init_37 rfl (lv_at hl 0 rfl) ?_
  refine lv_bipush (v := 12) hx hb dX2_init_38 (by decide) ?_
  refine cy_newa (i0 := 5) (N := 12) hn rfl X h hz (by omega) (h0 _ (by omega)) ak_int (by decide) (by decide) (by decide) (Nat.le_of_ble_eq_true rfl) (Nat.le_of_ble_eq_true rfl) dX2_init_40 (fun H h => ?_)
  have h : fx_H G (S0 ++ [.inr (.inr (2, [n + 1 + 2, n + 2 + 2, n + 3 + 2, n + 4 + 2, 1, 1, 0, 0])), .inl 400, .inl 16, .inl 16, .inl 16, .inl 12]) M s H _ := h
  refine W.widen (k := 5) (n := 460) (by omega) (by omega) ?_
  refine cx_putR (k := n + 0) (j := 4) (r := n + 5) (ty := .array .int) X hin h ((ap_at hn 0).trans rfl) fl_RX2_24 (Nat.le_of_ble_eq_true rfl) (fun C T N q => by cases q; rfl) (by decide +kernel) rfl rfl dX2_init_42 (fun H locs h => ?_)
  rw [ap_set hn 0] at h
  have h : fx_H G (S0 ++ [.inr (.inr (2, [n + 1 + 2, n + 2 + 2, n + 3 + 2, n + 4 + 2, n + 5 + 2, 1, 0, 0])), .inl 400, .inl 16, .inl 16, .inl 16, .inl 12]) M s H locs := h
  refine lv_aload_n hx hb dX2_init_45 rfl (lv_at hl 0 rfl) ?_
  refine lv_bipush (v := 32) hx hb dX2_init_46 (by decide) ?_
  refine cy_newa (i0 := 6) (N := 32) hn rfl X h hz (by omega) (h0 _ (by omega)) ak_int (by decide) (by decide) (by decide) (Nat.le_of_ble_eq_true rfl) (Nat.le_of_ble_eq_true rfl) dX2_init_48 (fun H h => ?_)
  have h : fx_H G (S0 ++ [.inr (.inr (2, [n + 1 + 2, n + 2 + 2, n + 3 + 2, n + 4 + 2, n + 5 + 2, 1, 0, 0])), .inl 400, .inl 16, .inl 16, .inl 16, .inl 12, .inl 32]) M s H _ := h
  refine W.widen (k := 6) (n := 492) (by omega) (by omega) ?_
  refine cx_putR (k := n + 0) (j := 5) (r := n + 6) (ty := .array .int) X hin h ((ap_at hn 0).trans rfl) fl_RX2_27 (Nat.le_of_ble_eq_true rfl) (fun C T N q => by cases q; rfl) (by decide +kernel) rfl rfl dX2_init_50 (fun H locs h => ?_)
  rw [ap_set hn 0] at h
  have h : fx_H G (S0 ++ [.inr (.inr (2, [n + 1 + 2, n + 2 + 2, n + 3 + 2, n + 4 + 2, n + 5 + 2, n + 6 + 2, 0, 0])), .inl 400, .inl 16, .inl 16, .inl 16, .inl 12, .inl 32]) M s H locs := h
  refine lv_aload_n hx hb dX2_init_53 rfl (lv_at hl 0 rfl) ?_
  refine lv_iconst (v := 0) hx hb dX2_init_54 (by decide) ?_
  refine fx_putI X h (k := n + 0) (j := 6) ((ap_at hn 0).trans rfl) rfl fl_RX2_30 dX2_init_55 (fun H locs h => ?_)
  obtain ⟨M1, eM1⟩ : ∃ z : Mm, z = m_up M (n + 0) 6 (0 : Int32) := ⟨_, rfl⟩
  rw [← eM1] at h
  have h0 : ∀ a, n + 7 ≤ a → M1 a = fun _ => 0 := fun a ha => by rw [eM1, m_up_ne (by omega)]; exact h0 a (by omega)
  refine lv_aload_n hx hb dX2_init_58 rfl (lv_at hl 0 rfl) ?_
  refine lv_iconst (v := 0) hx hb dX2_init_59 (by decide) ?_
  refine fx_putI X h (k := n + 0) (j := 7) ((ap_at hn 0).trans rfl) rfl fl_RX2_34 dX2_init_60 (fun H locs h => ?_)
  obtain ⟨M2, eM2⟩ : ∃ z : Mm, z = m_up M1 (n + 0) 7 (0 : Int32) := ⟨_, rfl⟩
  rw [← eM2] at h
  have h0 : ∀ a, n + 7 ≤ a → M2 a = fun _ => 0 := fun a ha => by rw [eM2, m_up_ne (by omega)]; exact h0 a (by omega)
  exact cy_ret X hr hk h (Prod.ext_iff.mpr ⟨rfl, by rw [eM2, eM1]; rfl⟩) dX2_init_63
theorem dX5_init_0 : decode cX5_init 0 = .ok (.aload_n 0, 1) := by decide +kernel
theorem dX5_init_1 : decode cX5_init 1 = .ok (.invokespecial 3, 3) := by decide +kernel
theorem dX5_init_4 : decode cX5_init 4 = .ok (.aload_n 0, 1) := by decide +kernel
theorem dX5_init_5 : decode cX5_init 5 = .ok (.bipush 8, 2) := by decide +kernel
theorem dX5_init_7 : decode cX5_init 7 = .ok (.newarray .int, 2) := by decide +kernel
theorem dX5_init_9 : decode cX5_init 9 = .ok (.putfield 9, 3) := by decide +kernel
theorem dX5_init_12 : decode cX5_init 12 = .ok (.aload_n 0, 1) := by decide +kernel
theorem dX5_init_13 : decode cX5_init 13 = .ok (.bipush 64, 2) := by decide +kernel
theorem dX5_init_15 : decode cX5_init 15 = .ok (.newarray .int, 2) := by decide +kernel
theorem dX5_init_17 : decode cX5_init 17 = .ok (.putfield 15, 3) := by decide +kernel
theorem dX5_init_20 : decode cX5_init 20 = .ok (.aload_n 0, 1) := by decide +kernel
theorem dX5_init_21 : decode cX5_init 21 = .ok (.bipush 16, 2) := by decide +kernel
theorem dX5_init_23 : decode cX5_init 23 = .ok (.newarray .int, 2) := by decide +kernel
theorem dX5_init_25 : decode cX5_init 25 = .ok (.putfield 18, 3) := by decide +kernel
theorem dX5_init_28 : decode cX5_init 28 = .ok (.aload_n 0, 1) := by decide +kernel
theorem dX5_init_29 : decode cX5_init 29 = .ok (.bipush 16, 2) := by decide +kernel
theorem dX5_init_31 : decode cX5_init 31 = .ok (.newarray .int, 2) := by decide +kernel
theorem dX5_init_33 : decode cX5_init 33 = .ok (.putfield 21, 3) := by decide +kernel
theorem dX5_init_36 : decode cX5_init 36 = .ok (.aload_n 0, 1) := by decide +kernel
theorem dX5_init_37 : decode cX5_init 37 = .ok (.bipush 16, 2) := by decide +kernel
theorem dX5_init_39 : decode cX5_init 39 = .ok (.newarray .int, 2) := by decide +kernel
theorem dX5_init_41 : decode cX5_init 41 = .ok (.putfield 24, 3) := by decide +kernel
theorem dX5_init_44 : decode cX5_init 44 = .ok (.aload_n 0, 1) := by decide +kernel
theorem dX5_init_45 : decode cX5_init 45 = .ok (.bipush 16, 2) := by decide +kernel
theorem dX5_init_47 : decode cX5_init 47 = .ok (.newarray .int, 2) := by decide +kernel
theorem dX5_init_49 : decode cX5_init 49 = .ok (.putfield 27, 3) := by decide +kernel
theorem dX5_init_52 : decode cX5_init 52 = .ok (.aload_n 0, 1) := by decide +kernel
theorem dX5_init_53 : decode cX5_init 53 = .ok (.iconst 0, 1) := by decide +kernel
theorem dX5_init_54 : decode cX5_init 54 = .ok (.putfield 30, 3) := by decide +kernel
theorem dX5_init_57 : decode cX5_init 57 = .ok (.aload_n 0, 1) := by decide +kernel
theorem dX5_init_58 : decode cX5_init 58 = .ok (.iconst 0, 1) := by decide +kernel
theorem dX5_init_59 : decode cX5_init 59 = .ok (.putfield 34, 3) := by decide +kernel
theorem dX5_init_62 : decode cX5_init 62 = .ok (.aload_n 0, 1) := by decide +kernel
theorem dX5_init_63 : decode cX5_init 63 = .ok (.iconst 0, 1) := by decide +kernel
theorem dX5_init_64 : decode cX5_init 64 = .ok (.putfield 37, 3) := by decide +kernel
theorem dX5_init_67 : decode cX5_init 67 = .ok (.aload_n 0, 1) := by decide +kernel
theorem dX5_init_68 : decode cX5_init 68 = .ok (.getfield 9, 3) := by decide +kernel
theorem dX5_init_71 : decode cX5_init 71 = .ok (.iconst (-1), 1) := by decide +kernel
theorem dX5_init_72 : decode cX5_init 72 = .ok (.invokestatic 40, 3) := by decide +kernel
theorem dX5_init_75 : decode cX5_init 75 = .ok (.return_, 1) := by decide +kernel
def CM_Plans (n : Nat) (M : Mm) : Mm := (mf (m_up (m_up (m_up M (n + 0) 6 (0 : Int32)) (n + 0) 7 (0 : Int32)) (n + 0) 8 (0 : Int32)) (n + 1) 8 (-1 : Int32))
set_option maxRecDepth 100000 in
theorem cz_Plans (n : Nat) (M : Mm) (a : Nat) (h : n + 7 ≤ a) : CM_Plans n M a = M a := by
  unfold CM_Plans
  rw [mf_ne (by omega), m_up_ne (by omega), m_up_ne (by omega), m_up_ne (by omega)]
set_option maxHeartbeats 4000000 in
set_option maxRecDepth 100000 in
theorem ci_Plans (l : Launch) (G : fx_G) {S0 : List fx_S} {n : Nat} {M : Mm} (hn : S0.length = n) (h0 : ∀ a, n ≤ a → M a = fun _ => 0) : Met l yX5_init (fx_ws yX5_init cX5_init 1 none) (cx_rm 1 6 136) (va_Pc [.ref (G.2.2.2 + (n + 0))] (cx_P G (S0 ++ [.inr (.inr (5, [1, 1, 1, 1, 1, 1, 0, 0, 0]))]) M)) (va_Qv (fun u => u = (S0 ++ [.inr (.inr (5, [n + 1 + 2, n + 2 + 2, n + 3 + 2, n + 4 + 2, n + 5 + 2, n + 6 + 2, 0, 0, 0])), .inl 8, .inl 64, .inl 16, .inl 16, .inl 16, .inl 16], CM_Plans n M)) (cx_R G) (fx_A G)) 6 136 (fx_A G) := by
  refine cy_met (own := RX5) (by decide +kernel) rfl rfl (Nat.le_of_ble_eq_true rfl) (fun p e s m below meth c X hr hk hin hO h hsz ls hl => ?_)
  obtain ⟨⟨hx, hb, hml, hown, hts⟩, hK, hQ⟩ := id X
  have hsz : s.heap.size = G.2.2.2 + (n + 1) := by rw [hsz, List.length_append, hn]; rfl
  have hz : G.2.2.2 ≤ s.heap.size := by omega
  have h0 : ∀ a, n + 1 ≤ a → M a = fun _ => 0 := fun a ha => h0 a (by omega)
  have hl : lv_has ls 1 [(0, .ref (G.2.2.2 + (n + 0)))] := hl
  refine lv_aload_n hx hb dX5_init_0 rfl (lv_at hl 0 rfl) ?_
  refine W.objInit hx hb hown (hts _ (fx_s1 (List.mem_of_getElem? (i := 195) rfl) rfl)) (hts _ (fx_s1 (List.mem_of_getElem? (i := 27) rfl) rfl)) (hts _ ob_c) rfl (by rw [hml]; exact hl.1) rfl dX5_init_1 (Nat.le_of_ble_eq_true rfl) (Nat.le_of_ble_eq_true rfl) ?_
  refine W.eq (g2 := F0 m 4 ls []) rfl ?_
  refine lv_aload_n hx hb dX5_init_4 rfl (lv_at hl 0 rfl) ?_
  refine lv_bipush (v := 8) hx hb dX5_init_5 (by decide) ?_
  refine cy_newa (i0 := 1) (N := 8) hn rfl X h hz (by omega) (h0 _ (by omega)) ak_int (by decide) (by decide) (by decide) (Nat.le_of_ble_eq_true rfl) (Nat.le_of_ble_eq_true rfl) dX5_init_7 (fun H h => ?_)
  have h : fx_H G (S0 ++ [.inr (.inr (5, [1, 1, 1, 1, 1, 1, 0, 0, 0])), .inl 8]) M s H _ := h
  refine W.widen (k := 1) (n := 8) (by omega) (by omega) ?_
  refine cx_putR (k := n + 0) (j := 0) (r := n + 1) (ty := .array .int) X hin h ((ap_at hn 0).trans rfl) fl_RX5_9 (Nat.le_of_ble_eq_true rfl) (fun C T N q => by cases q; rfl) (by decide +kernel) rfl rfl dX5_init_9 (fun H locs h => ?_)
  rw [ap_set hn 0] at h
  have h : fx_H G (S0 ++ [.inr (.inr (5, [n + 1 + 2, 1, 1, 1, 1, 1, 0, 0, 0])), .inl 8]) M s H locs := h
  refine lv_aload_n hx hb dX5_init_12 rfl (lv_at hl 0 rfl) ?_
  refine lv_bipush (v := 64) hx hb dX5_init_13 (by decide) ?_
  refine cy_newa (i0 := 2) (N := 64) hn rfl X h hz (by omega) (h0 _ (by omega)) ak_int (by decide) (by decide) (by decide) (Nat.le_of_ble_eq_true rfl) (Nat.le_of_ble_eq_true rfl) dX5_init_15 (fun H h => ?_)
  have h : fx_H G (S0 ++ [.inr (.inr (5, [n + 1 + 2, 1, 1, 1, 1, 1, 0, 0, 0])), .inl 8, .inl 64]) M s H _ := h
  refine W.widen (k := 2) (n := 72) (by omega) (by omega) ?_
  refine cx_putR (k := n + 0) (j := 1) (r := n + 2) (ty := .array .int) X hin h ((ap_at hn 0).trans rfl) fl_RX5_15 (Nat.le_of_ble_eq_true rfl) (fun C T N q => by cases q; rfl) (by decide +kernel) rfl rfl dX5_init_17 (fun H locs h => ?_)
  rw [ap_set hn 0] at h
  have h : fx_H G (S0 ++ [.inr (.inr (5, [n + 1 + 2, n + 2 + 2, 1, 1, 1, 1, 0, 0, 0])), .inl 8, .inl 64]) M s H locs := h
  refine lv_aload_n hx hb dX5_init_20 rfl (lv_at hl 0 rfl) ?_
  refine lv_bipush (v := 16) hx hb dX5_init_21 (by decide) ?_
  refine cy_newa (i0 := 3) (N := 16) hn rfl X h hz (by omega) (h0 _ (by omega)) ak_int (by decide) (by decide) (by decide) (Nat.le_of_ble_eq_true rfl) (Nat.le_of_ble_eq_true rfl) dX5_init_23 (fun H h => ?_)
  have h : fx_H G (S0 ++ [.inr (.inr (5, [n + 1 + 2, n + 2 + 2, 1, 1, 1, 1, 0, 0, 0])), .inl 8, .inl 64, .inl 16]) M s H _ := h
  refine W.widen (k := 3) (n := 88) (by omega) (by omega) ?_
  refine cx_putR (k := n + 0) (j := 2) (r := n + 3) (ty := .array .int) X hin h ((ap_at hn 0).trans rfl) fl_RX5_18 (Nat.le_of_ble_eq_true rfl) (fun C T N q => by cases q; rfl) (by decide +kernel) rfl rfl dX5_init_25 (fun H locs h => ?_)
  rw [ap_set hn 0] at h
  have h : fx_H G (S0 ++ [.inr (.inr (5, [n + 1 + 2, n + 2 + 2, n + 3 + 2, 1, 1, 1, 0, 0, 0])), .inl 8, .inl 64, .inl 16]) M s H locs := h
  refine lv_aload_n hx hb dX5_init_28 rfl (lv_at hl 0 rfl) ?_
  refine lv_bipush (v := 16) hx hb dX5_init_29 (by decide) ?_
  refine cy_newa (i0 := 4) (N := 16) hn rfl X h hz (by omega) (h0 _ (by omega)) ak_int (by decide) (by decide) (by decide) (Nat.le_of_ble_eq_true rfl) (Nat.le_of_ble_eq_true rfl) dX5_init_31 (fun H h => ?_)
  have h : fx_H G (S0 ++ [.inr (.inr (5, [n + 1 + 2, n + 2 + 2, n + 3 + 2, 1, 1, 1, 0, 0, 0])), .inl 8, .inl 64, .inl 16, .inl 16]) M s H _ := h
  refine W.widen (k := 4) (n := 104) (by omega) (by omega) ?_
  refine cx_putR (k := n + 0) (j := 3) (r := n + 4) (ty := .array .int) X hin h ((ap_at hn 0).trans rfl) fl_RX5_21 (Nat.le_of_ble_eq_true rfl) (fun C T N q => by cases q; rfl) (by decide +kernel) rfl rfl dX5_init_33 (fun H locs h => ?_)
  rw [ap_set hn 0] at h
  have h : fx_H G (S0 ++ [.inr (.inr (5, [n + 1 + 2, n + 2 + 2, n + 3 + 2, n + 4 + 2, 1, 1, 0, 0, 0])), .inl 8, .inl 64, .inl 16, .inl 16]) M s H locs := h
  refine lv_aload_n hx hb dX5_init_36 rfl (lv_at hl 0 rfl) ?_
  refine lv_bipush (v := 16) hx hb dX5_init_37 (by decide) ?_
  refine cy_newa (i0 := 5) (N := 16) hn rfl X h hz (by omega) (h0 _ (by omega)) ak_int (by decide) (by decide) (by decide) (Nat.le_of_ble_eq_true rfl) (Nat.le_of_ble_eq_true rfl) dX5_init_39 (fun H h => ?_)
  have h : fx_H G (S0 ++ [.inr (.inr (5, [n + 1 + 2, n + 2 + 2, n + 3 + 2, n + 4 + 2, 1, 1, 0, 0, 0])), .inl 8, .inl 64, .inl 16, .inl 16, .inl 16]) M s H _ := h
  refine W.widen (k := 5) (n := 120) (by omega) (by omega) ?_
  refine cx_putR (k := n + 0) (j := 4) (r := n + 5) (ty := .array .int) X hin h ((ap_at hn 0).trans rfl) fl_RX5_24 (Nat.le_of_ble_eq_true rfl) (fun C T N q => by cases q; rfl) (by decide +kernel) rfl rfl dX5_init_41 (fun H locs h => ?_)
  rw [ap_set hn 0] at h
  have h : fx_H G (S0 ++ [.inr (.inr (5, [n + 1 + 2, n + 2 + 2, n + 3 + 2, n + 4 + 2, n + 5 + 2, 1, 0, 0, 0])), .inl 8, .inl 64, .inl 16, .inl 16, .inl 16]) M s H locs := h
  refine lv_aload_n hx hb dX5_init_44 rfl (lv_at hl 0 rfl) ?_
  refine lv_bipush (v := 16) hx hb dX5_init_45 (by decide) ?_
  refine cy_newa (i0 := 6) (N := 16) hn rfl X h hz (by omega) (h0 _ (by omega)) ak_int (by decide) (by decide) (by decide) (Nat.le_of_ble_eq_true rfl) (Nat.le_of_ble_eq_true rfl) dX5_init_47 (fun H h => ?_)
  have h : fx_H G (S0 ++ [.inr (.inr (5, [n + 1 + 2, n + 2 + 2, n + 3 + 2, n + 4 + 2, n + 5 + 2, 1, 0, 0, 0])), .inl 8, .inl 64, .inl 16, .inl 16, .inl 16, .inl 16]) M s H _ := h
  refine W.widen (k := 6) (n := 136) (by omega) (by omega) ?_
  refine cx_putR (k := n + 0) (j := 5) (r := n + 6) (ty := .array .int) X hin h ((ap_at hn 0).trans rfl) fl_RX5_27 (Nat.le_of_ble_eq_true rfl) (fun C T N q => by cases q; rfl) (by decide +kernel) rfl rfl dX5_init_49 (fun H locs h => ?_)
  rw [ap_set hn 0] at h
  have h : fx_H G (S0 ++ [.inr (.inr (5, [n + 1 + 2, n + 2 + 2, n + 3 + 2, n + 4 + 2, n + 5 + 2, n + 6 + 2, 0, 0, 0])), .inl 8, .inl 64, .inl 16, .inl 16, .inl 16, .inl 16]) M s H locs := h
  refine lv_aload_n hx hb dX5_init_52 rfl (lv_at hl 0 rfl) ?_
  refine lv_iconst (v := 0) hx hb dX5_init_53 (by decide) ?_
  refine fx_putI X h (k := n + 0) (j := 6) ((ap_at hn 0).trans rfl) rfl fl_RX5_30 dX5_init_54 (fun H locs h => ?_)
  obtain ⟨M1, eM1⟩ : ∃ z : Mm, z = m_up M (n + 0) 6 (0 : Int32) := ⟨_, rfl⟩
  rw [← eM1] at h
  have h0 : ∀ a, n + 7 ≤ a → M1 a = fun _ => 0 := fun a ha => by rw [eM1, m_up_ne (by omega)]; exact h0 a (by omega)
  refine lv_aload_n hx hb dX5_init_57 rfl (lv_at hl 0 rfl) ?_
  refine lv_iconst (v := 0) hx hb dX5_init_58 (by decide) ?_
  refine fx_putI X h (k := n + 0) (j := 7) ((ap_at hn 0).trans rfl) rfl fl_RX5_34 dX5_init_59 (fun H locs h => ?_)
  obtain ⟨M2, eM2⟩ : ∃ z : Mm, z = m_up M1 (n + 0) 7 (0 : Int32) := ⟨_, rfl⟩
  rw [← eM2] at h
  have h0 : ∀ a, n + 7 ≤ a → M2 a = fun _ => 0 := fun a ha => by rw [eM2, m_up_ne (by omega)]; exact h0 a (by omega)
  refine lv_aload_n hx hb dX5_init_62 rfl (lv_at hl 0 rfl) ?_
  refine lv_iconst (v := 0) hx hb dX5_init_63 (by decide) ?_
  refine fx_putI X h (k := n + 0) (j := 8) ((ap_at hn 0).trans rfl) rfl fl_RX5_37 dX5_init_64 (fun H locs h => ?_)
  obtain ⟨M3, eM3⟩ : ∃ z : Mm, z = m_up M2 (n + 0) 8 (0 : Int32) := ⟨_, rfl⟩
  rw [← eM3] at h
  have h0 : ∀ a, n + 7 ≤ a → M3 a = fun _ => 0 := fun a ha => by rw [eM3, m_up_ne (by omega)]; exact h0 a (by omega)
  refine lv_aload_n hx hb dX5_init_67 rfl (lv_at hl 0 rfl) ?_
  refine fx_getR X h (k := n + 0) (j := 0) (r := n + 1) ((ap_at hn 0).trans rfl) rfl fl_RX5_9 dX5_init_68 ?_
  refine lv_iconst (v := -1) hx hb dX5_init_71 (by decide) ?_
  refine fx_nv X h ym_X11_fillRow yt_X11_fillRow (nq_RX5_40) (c_fillS l G (a0 := n + 1) (N := 8) ((ap_at hn 1).trans rfl) (T_fillS_ok (K := fun M9 => M9 = mf M3 (n + 1) 8 (-1 : Int32)) (by omega) rfl)) (As := [.ref (G.2.2.2 + (n + 1)), .int (-1 : Int32)]) (rest := []) rfl rfl ⟨by simp only [cx_rm]; omega, by simp only [cx_rm]; omega⟩ ⟨by simp only [cx_rm]; omega, by simp only [cx_rm]; omega⟩ hl.1 (Nat.le_of_ble_eq_true rfl) dX5_init_72 (fun M9 H locs hM9 h => ?_)
  rw [hM9] at h
  obtain ⟨M4, eM4⟩ : ∃ z : Mm, z = mf M3 (n + 1) 8 (-1 : Int32) := ⟨_, rfl⟩
  rw [← eM4] at h
  have h0 : ∀ a, n + 7 ≤ a → M4 a = fun _ => 0 := fun a ha => by rw [eM4, mf_ne (by omega)]; exact h0 a (by omega)
  exact cy_ret X hr hk h (Prod.ext_iff.mpr ⟨rfl, by rw [eM4, eM3, eM2, eM1]; rfl⟩) dX5_init_75
theorem dX9_init_0 : decode cX9_init 0 = .ok (.aload_n 0, 1) := by decide +kernel
theorem dX9_init_1 : decode cX9_init 1 = .ok (.invokespecial 3, 3) := by decide +kernel
theorem dX9_init_4 : decode cX9_init 4 = .ok (.aload_n 0, 1) := by decide +kernel
theorem dX9_init_5 : decode cX9_init 5 = .ok (.bipush 8, 2) := by decide +kernel
theorem dX9_init_7 : decode cX9_init 7 = .ok (.newarray .int, 2) := by decide +kernel
theorem dX9_init_9 : decode cX9_init 9 = .ok (.putfield 9, 3) := by decide +kernel
theorem dX9_init_12 : decode cX9_init 12 = .ok (.aload_n 0, 1) := by decide +kernel
theorem dX9_init_13 : decode cX9_init 13 = .ok (.bipush 9, 2) := by decide +kernel
theorem dX9_init_15 : decode cX9_init 15 = .ok (.newarray .int, 2) := by decide +kernel
theorem dX9_init_17 : decode cX9_init 17 = .ok (.putfield 15, 3) := by decide +kernel
theorem dX9_init_20 : decode cX9_init 20 = .ok (.aload_n 0, 1) := by decide +kernel
theorem dX9_init_21 : decode cX9_init 21 = .ok (.bipush 6, 2) := by decide +kernel
theorem dX9_init_23 : decode cX9_init 23 = .ok (.newarray .int, 2) := by decide +kernel
theorem dX9_init_25 : decode cX9_init 25 = .ok (.putfield 18, 3) := by decide +kernel
theorem dX9_init_28 : decode cX9_init 28 = .ok (.aload_n 0, 1) := by decide +kernel
theorem dX9_init_29 : decode cX9_init 29 = .ok (.bipush 64, 2) := by decide +kernel
theorem dX9_init_31 : decode cX9_init 31 = .ok (.newarray .int, 2) := by decide +kernel
theorem dX9_init_33 : decode cX9_init 33 = .ok (.putfield 21, 3) := by decide +kernel
theorem dX9_init_36 : decode cX9_init 36 = .ok (.aload_n 0, 1) := by decide +kernel
theorem dX9_init_37 : decode cX9_init 37 = .ok (.bipush 7, 2) := by decide +kernel
theorem dX9_init_39 : decode cX9_init 39 = .ok (.newarray .int, 2) := by decide +kernel
theorem dX9_init_41 : decode cX9_init 41 = .ok (.putfield 24, 3) := by decide +kernel
theorem dX9_init_44 : decode cX9_init 44 = .ok (.aload_n 0, 1) := by decide +kernel
theorem dX9_init_45 : decode cX9_init 45 = .ok (.bipush 7, 2) := by decide +kernel
theorem dX9_init_47 : decode cX9_init 47 = .ok (.newarray .int, 2) := by decide +kernel
theorem dX9_init_49 : decode cX9_init 49 = .ok (.putfield 27, 3) := by decide +kernel
theorem dX9_init_52 : decode cX9_init 52 = .ok (.aload_n 0, 1) := by decide +kernel
theorem dX9_init_53 : decode cX9_init 53 = .ok (.bipush 8, 2) := by decide +kernel
theorem dX9_init_55 : decode cX9_init 55 = .ok (.newarray .int, 2) := by decide +kernel
theorem dX9_init_57 : decode cX9_init 57 = .ok (.putfield 30, 3) := by decide +kernel
theorem dX9_init_60 : decode cX9_init 60 = .ok (.aload_n 0, 1) := by decide +kernel
theorem dX9_init_61 : decode cX9_init 61 = .ok (.bipush 8, 2) := by decide +kernel
theorem dX9_init_63 : decode cX9_init 63 = .ok (.newarray .int, 2) := by decide +kernel
theorem dX9_init_65 : decode cX9_init 65 = .ok (.putfield 33, 3) := by decide +kernel
theorem dX9_init_68 : decode cX9_init 68 = .ok (.aload_n 0, 1) := by decide +kernel
theorem dX9_init_69 : decode cX9_init 69 = .ok (.bipush 20, 2) := by decide +kernel
theorem dX9_init_71 : decode cX9_init 71 = .ok (.newarray .int, 2) := by decide +kernel
theorem dX9_init_73 : decode cX9_init 73 = .ok (.putfield 36, 3) := by decide +kernel
theorem dX9_init_76 : decode cX9_init 76 = .ok (.aload_n 0, 1) := by decide +kernel
theorem dX9_init_77 : decode cX9_init 77 = .ok (.iconst 0, 1) := by decide +kernel
theorem dX9_init_78 : decode cX9_init 78 = .ok (.putfield 39, 3) := by decide +kernel
theorem dX9_init_81 : decode cX9_init 81 = .ok (.aload_n 0, 1) := by decide +kernel
theorem dX9_init_82 : decode cX9_init 82 = .ok (.iconst 0, 1) := by decide +kernel
theorem dX9_init_83 : decode cX9_init 83 = .ok (.putfield 43, 3) := by decide +kernel
theorem dX9_init_86 : decode cX9_init 86 = .ok (.aload_n 0, 1) := by decide +kernel
theorem dX9_init_87 : decode cX9_init 87 = .ok (.iconst 0, 1) := by decide +kernel
theorem dX9_init_88 : decode cX9_init 88 = .ok (.putfield 46, 3) := by decide +kernel
theorem dX9_init_91 : decode cX9_init 91 = .ok (.aload_n 0, 1) := by decide +kernel
theorem dX9_init_92 : decode cX9_init 92 = .ok (.iconst 0, 1) := by decide +kernel
theorem dX9_init_93 : decode cX9_init 93 = .ok (.putfield 49, 3) := by decide +kernel
theorem dX9_init_96 : decode cX9_init 96 = .ok (.aload_n 0, 1) := by decide +kernel
theorem dX9_init_97 : decode cX9_init 97 = .ok (.iconst 0, 1) := by decide +kernel
theorem dX9_init_98 : decode cX9_init 98 = .ok (.putfield 52, 3) := by decide +kernel
theorem dX9_init_101 : decode cX9_init 101 = .ok (.iconst 0, 1) := by decide +kernel
theorem dX9_init_102 : decode cX9_init 102 = .ok (.istore_n 1, 1) := by decide +kernel
theorem dX9_init_103 : decode cX9_init 103 = .ok (.iload_n 1, 1) := by decide +kernel
theorem dX9_init_104 : decode cX9_init 104 = .ok (.bipush 64, 2) := by decide +kernel
theorem dX9_init_106 : decode cX9_init 106 = .ok (.if_icmp .ge 19, 3) := by decide +kernel
theorem dX9_init_109 : decode cX9_init 109 = .ok (.aload_n 0, 1) := by decide +kernel
theorem dX9_init_110 : decode cX9_init 110 = .ok (.getfield 21, 3) := by decide +kernel
theorem dX9_init_113 : decode cX9_init 113 = .ok (.iload_n 1, 1) := by decide +kernel
theorem dX9_init_114 : decode cX9_init 114 = .ok (.iload_n 1, 1) := by decide +kernel
theorem dX9_init_115 : decode cX9_init 115 = .ok (.bipush 8, 2) := by decide +kernel
theorem dX9_init_117 : decode cX9_init 117 = .ok (.irem, 1) := by decide +kernel
theorem dX9_init_118 : decode cX9_init 118 = .ok (.iastore, 1) := by decide +kernel
theorem dX9_init_119 : decode cX9_init 119 = .ok (.iinc 1 1, 3) := by decide +kernel
theorem dX9_init_122 : decode cX9_init 122 = .ok (.goto (-19), 3) := by decide +kernel
theorem dX9_init_125 : decode cX9_init 125 = .ok (.return_, 1) := by decide +kernel
def CM_Told (n : Nat) (M : Mm) : Mm := (m_up (m_up (m_up (m_up (m_up (m_up (m_up (m_up (m_up (m_up (m_up (m_up (m_up (m_up (m_up (m_up (m_up (m_up (m_up (m_up (m_up (m_up (m_up (m_up (m_up (m_up (m_up (m_up (m_up (m_up (m_up (m_up (m_up (m_up (m_up (m_up (m_up (m_up (m_up (m_up (m_up (m_up (m_up (m_up (m_up (m_up (m_up (m_up (m_up (m_up (m_up (m_up (m_up (m_up (m_up (m_up (m_up (m_up (m_up (m_up (m_up (m_up (m_up (m_up (m_up (m_up (m_up (m_up (m_up M (n + 0) 9 (0 : Int32)) (n + 0) 10 (0 : Int32)) (n + 0) 11 (0 : Int32)) (n + 0) 12 (0 : Int32)) (n + 0) 13 (0 : Int32)) (n + 4) 0 (0 : Int32)) (n + 4) 1 (1 : Int32)) (n + 4) 2 (2 : Int32)) (n + 4) 3 (3 : Int32)) (n + 4) 4 (4 : Int32)) (n + 4) 5 (5 : Int32)) (n + 4) 6 (6 : Int32)) (n + 4) 7 (7 : Int32)) (n + 4) 8 (0 : Int32)) (n + 4) 9 (1 : Int32)) (n + 4) 10 (2 : Int32)) (n + 4) 11 (3 : Int32)) (n + 4) 12 (4 : Int32)) (n + 4) 13 (5 : Int32)) (n + 4) 14 (6 : Int32)) (n + 4) 15 (7 : Int32)) (n + 4) 16 (0 : Int32)) (n + 4) 17 (1 : Int32)) (n + 4) 18 (2 : Int32)) (n + 4) 19 (3 : Int32)) (n + 4) 20 (4 : Int32)) (n + 4) 21 (5 : Int32)) (n + 4) 22 (6 : Int32)) (n + 4) 23 (7 : Int32)) (n + 4) 24 (0 : Int32)) (n + 4) 25 (1 : Int32)) (n + 4) 26 (2 : Int32)) (n + 4) 27 (3 : Int32)) (n + 4) 28 (4 : Int32)) (n + 4) 29 (5 : Int32)) (n + 4) 30 (6 : Int32)) (n + 4) 31 (7 : Int32)) (n + 4) 32 (0 : Int32)) (n + 4) 33 (1 : Int32)) (n + 4) 34 (2 : Int32)) (n + 4) 35 (3 : Int32)) (n + 4) 36 (4 : Int32)) (n + 4) 37 (5 : Int32)) (n + 4) 38 (6 : Int32)) (n + 4) 39 (7 : Int32)) (n + 4) 40 (0 : Int32)) (n + 4) 41 (1 : Int32)) (n + 4) 42 (2 : Int32)) (n + 4) 43 (3 : Int32)) (n + 4) 44 (4 : Int32)) (n + 4) 45 (5 : Int32)) (n + 4) 46 (6 : Int32)) (n + 4) 47 (7 : Int32)) (n + 4) 48 (0 : Int32)) (n + 4) 49 (1 : Int32)) (n + 4) 50 (2 : Int32)) (n + 4) 51 (3 : Int32)) (n + 4) 52 (4 : Int32)) (n + 4) 53 (5 : Int32)) (n + 4) 54 (6 : Int32)) (n + 4) 55 (7 : Int32)) (n + 4) 56 (0 : Int32)) (n + 4) 57 (1 : Int32)) (n + 4) 58 (2 : Int32)) (n + 4) 59 (3 : Int32)) (n + 4) 60 (4 : Int32)) (n + 4) 61 (5 : Int32)) (n + 4) 62 (6 : Int32)) (n + 4) 63 (7 : Int32))
set_option maxRecDepth 100000 in
theorem cz_Told (n : Nat) (M : Mm) (a : Nat) (h : n + 10 ≤ a) : CM_Told n M a = M a := by
  unfold CM_Told
  rw [m_up_ne (by omega), m_up_ne (by omega), m_up_ne (by omega), m_up_ne (by omega), m_up_ne (by omega), m_up_ne (by omega), m_up_ne (by omega), m_up_ne (by omega), m_up_ne (by omega), m_up_ne (by omega), m_up_ne (by omega), m_up_ne (by omega), m_up_ne (by omega), m_up_ne (by omega), m_up_ne (by omega), m_up_ne (by omega), m_up_ne (by omega), m_up_ne (by omega), m_up_ne (by omega), m_up_ne (by omega), m_up_ne (by omega), m_up_ne (by omega), m_up_ne (by omega), m_up_ne (by omega), m_up_ne (by omega), m_up_ne (by omega), m_up_ne (by omega), m_up_ne (by omega), m_up_ne (by omega), m_up_ne (by omega), m_up_ne (by omega), m_up_ne (by omega), m_up_ne (by omega), m_up_ne (by omega), m_up_ne (by omega), m_up_ne (by omega), m_up_ne (by omega), m_up_ne (by omega), m_up_ne (by omega), m_up_ne (by omega), m_up_ne (by omega), m_up_ne (by omega), m_up_ne (by omega), m_up_ne (by omega), m_up_ne (by omega), m_up_ne (by omega), m_up_ne (by omega), m_up_ne (by omega), m_up_ne (by omega), m_up_ne (by omega), m_up_ne (by omega), m_up_ne (by omega), m_up_ne (by omega), m_up_ne (by omega), m_up_ne (by omega), m_up_ne (by omega), m_up_ne (by omega), m_up_ne (by omega), m_up_ne (by omega), m_up_ne (by omega), m_up_ne (by omega), m_up_ne (by omega), m_up_ne (by omega), m_up_ne (by omega), m_up_ne (by omega), m_up_ne (by omega), m_up_ne (by omega), m_up_ne (by omega), m_up_ne (by omega)]
set_option maxHeartbeats 4000000 in
set_option maxRecDepth 100000 in
theorem ci_Told (l : Launch) (G : fx_G) {S0 : List fx_S} {n : Nat} {M : Mm} (hn : S0.length = n) (h0 : ∀ a, n ≤ a → M a = fun _ => 0) : Met l yX9_init (fx_ws yX9_init cX9_init 2 none) (cx_rm 1 9 137) (va_Pc [.ref (G.2.2.2 + (n + 0))] (cx_P G (S0 ++ [.inr (.inr (9, [1, 1, 1, 1, 1, 1, 1, 1, 1, 0, 0, 0, 0, 0]))]) M)) (va_Qv (fun u => u = (S0 ++ [.inr (.inr (9, [n + 1 + 2, n + 2 + 2, n + 3 + 2, n + 4 + 2, n + 5 + 2, n + 6 + 2, n + 7 + 2, n + 8 + 2, n + 9 + 2, 0, 0, 0, 0, 0])), .inl 8, .inl 9, .inl 6, .inl 64, .inl 7, .inl 7, .inl 8, .inl 8, .inl 20], CM_Told n M)) (cx_R G) (fx_A G)) 9 137 (fx_A G) := by
  refine cy_met (own := RX9) (by decide +kernel) rfl rfl (Nat.le_of_ble_eq_true rfl) (fun p e s m below meth c X hr hk hin hO h hsz ls hl => ?_)
  obtain ⟨⟨hx, hb, hml, hown, hts⟩, hK, hQ⟩ := id X
  have hsz : s.heap.size = G.2.2.2 + (n + 1) := by rw [hsz, List.length_append, hn]; rfl
  have hz : G.2.2.2 ≤ s.heap.size := by omega
  have h0 : ∀ a, n + 1 ≤ a → M a = fun _ => 0 := fun a ha => h0 a (by omega)
  have hl : lv_has ls 2 [(0, .ref (G.2.2.2 + (n + 0)))] := hl
  refine lv_aload_n hx hb dX9_init_0 rfl (lv_at hl 0 rfl) ?_
  refine W.objInit hx hb hown (hts _ (fx_s2 (List.mem_of_getElem? (i := 2) rfl) rfl)) (hts _ (fx_s1 (List.mem_of_getElem? (i := 27) rfl) rfl)) (hts _ ob_c) rfl (by rw [hml]; exact hl.1) rfl dX9_init_1 (Nat.le_of_ble_eq_true rfl) (Nat.le_of_ble_eq_true rfl) ?_
  refine W.eq (g2 := F0 m 4 ls []) rfl ?_
  refine lv_aload_n hx hb dX9_init_4 rfl (lv_at hl 0 rfl) ?_
  refine lv_bipush (v := 8) hx hb dX9_init_5 (by decide) ?_
  refine cy_newa (i0 := 1) (N := 8) hn rfl X h hz (by omega) (h0 _ (by omega)) ak_int (by decide) (by decide) (by decide) (Nat.le_of_ble_eq_true rfl) (Nat.le_of_ble_eq_true rfl) dX9_init_7 (fun H h => ?_)
  have h : fx_H G (S0 ++ [.inr (.inr (9, [1, 1, 1, 1, 1, 1, 1, 1, 1, 0, 0, 0, 0, 0])), .inl 8]) M s H _ := h
  refine W.widen (k := 1) (n := 8) (by omega) (by omega) ?_
  refine cx_putR (k := n + 0) (j := 0) (r := n + 1) (ty := .array .int) X hin h ((ap_at hn 0).trans rfl) fl_RX9_9 (Nat.le_of_ble_eq_true rfl) (fun C T N q => by cases q; rfl) (by decide +kernel) rfl rfl dX9_init_9 (fun H locs h => ?_)
  rw [ap_set hn 0] at h
  have h : fx_H G (S0 ++ [.inr (.inr (9, [n + 1 + 2, 1, 1, 1, 1, 1, 1, 1, 1, 0, 0, 0, 0, 0])), .inl 8]) M s H locs := h
  refine lv_aload_n hx hb dX9_init_12 rfl (lv_at hl 0 rfl) ?_
  refine lv_bipush (v := 9) hx hb dX9_init_13 (by decide) ?_
  refine cy_newa (i0 := 2) (N := 9) hn rfl X h hz (by omega) (h0 _ (by omega)) ak_int (by decide) (by decide) (by decide) (Nat.le_of_ble_eq_true rfl) (Nat.le_of_ble_eq_true rfl) dX9_init_15 (fun H h => ?_)
  have h : fx_H G (S0 ++ [.inr (.inr (9, [n + 1 + 2, 1, 1, 1, 1, 1, 1, 1, 1, 0, 0, 0, 0, 0])), .inl 8, .inl 9]) M s H _ := h
  refine W.widen (k := 2) (n := 17) (by omega) (by omega) ?_
  refine cx_putR (k := n + 0) (j := 1) (r := n + 2) (ty := .array .int) X hin h ((ap_at hn 0).trans rfl) fl_RX9_15 (Nat.le_of_ble_eq_true rfl) (fun C T N q => by cases q; rfl) (by decide +kernel) rfl rfl dX9_init_17 (fun H locs h => ?_)
  rw [ap_set hn 0] at h
  have h : fx_H G (S0 ++ [.inr (.inr (9, [n + 1 + 2, n + 2 + 2, 1, 1, 1, 1, 1, 1, 1, 0, 0, 0, 0, 0])), .inl 8, .inl 9]) M s H locs := h
  refine lv_aload_n hx hb dX9_init_20 rfl (lv_at hl 0 rfl) ?_
  refine lv_bipush (v := 6) hx hb dX9_init_21 (by decide) ?_
  refine cy_newa (i0 := 3) (N := 6) hn rfl X h hz (by omega) (h0 _ (by omega)) ak_int (by decide) (by decide) (by decide) (Nat.le_of_ble_eq_true rfl) (Nat.le_of_ble_eq_true rfl) dX9_init_23 (fun H h => ?_)
  have h : fx_H G (S0 ++ [.inr (.inr (9, [n + 1 + 2, n + 2 + 2, 1, 1, 1, 1, 1, 1, 1, 0, 0, 0, 0, 0])), .inl 8, .inl 9, .inl 6]) M s H _ := h
  refine W.widen (k := 3) (n := 23) (by omega) (by omega) ?_
  refine cx_putR (k := n + 0) (j := 2) (r := n + 3) (ty := .array .int) X hin h ((ap_at hn 0).trans rfl) fl_RX9_18 (Nat.le_of_ble_eq_true rfl) (fun C T N q => by cases q; rfl) (by decide +kernel) rfl rfl dX9_init_25 (fun H locs h => ?_)
  rw [ap_set hn 0] at h
  have h : fx_H G (S0 ++ [.inr (.inr (9, [n + 1 + 2, n + 2 + 2, n + 3 + 2, 1, 1, 1, 1, 1, 1, 0, 0, 0, 0, 0])), .inl 8, .inl 9, .inl 6]) M s H locs := h
  refine lv_aload_n hx hb dX9_init_28 rfl (lv_at hl 0 rfl) ?_
  refine lv_bipush (v := 64) hx hb dX9_init_29 (by decide) ?_
  refine cy_newa (i0 := 4) (N := 64) hn rfl X h hz (by omega) (h0 _ (by omega)) ak_int (by decide) (by decide) (by decide) (Nat.le_of_ble_eq_true rfl) (Nat.le_of_ble_eq_true rfl) dX9_init_31 (fun H h => ?_)
  have h : fx_H G (S0 ++ [.inr (.inr (9, [n + 1 + 2, n + 2 + 2, n + 3 + 2, 1, 1, 1, 1, 1, 1, 0, 0, 0, 0, 0])), .inl 8, .inl 9, .inl 6, .inl 64]) M s H _ := h
  refine W.widen (k := 4) (n := 87) (by omega) (by omega) ?_
  refine cx_putR (k := n + 0) (j := 3) (r := n + 4) (ty := .array .int) X hin h ((ap_at hn 0).trans rfl) fl_RX9_21 (Nat.le_of_ble_eq_true rfl) (fun C T N q => by cases q; rfl) (by decide +kernel) rfl rfl dX9_init_33 (fun H locs h => ?_)
  rw [ap_set hn 0] at h
  have h : fx_H G (S0 ++ [.inr (.inr (9, [n + 1 + 2, n + 2 + 2, n + 3 + 2, n + 4 + 2, 1, 1, 1, 1, 1, 0, 0, 0, 0, 0])), .inl 8, .inl 9, .inl 6, .inl 64]) M s H locs := h
  refine lv_aload_n hx hb dX9_init_36 rfl (lv_at hl 0 rfl) ?_
  refine lv_bipush (v := 7) hx hb dX9_init_37 (by decide) ?_
  refine cy_newa (i0 := 5) (N := 7) hn rfl X h hz (by omega) (h0 _ (by omega)) ak_int (by decide) (by decide) (by decide) (Nat.le_of_ble_eq_true rfl) (Nat.le_of_ble_eq_true rfl) dX9_init_39 (fun H h => ?_)
  have h : fx_H G (S0 ++ [.inr (.inr (9, [n + 1 + 2, n + 2 + 2, n + 3 + 2, n + 4 + 2, 1, 1, 1, 1, 1, 0, 0, 0, 0, 0])), .inl 8, .inl 9, .inl 6, .inl 64, .inl 7]) M s H _ := h
  refine W.widen (k := 5) (n := 94) (by omega) (by omega) ?_
  refine cx_putR (k := n + 0) (j := 4) (r := n + 5) (ty := .array .int) X hin h ((ap_at hn 0).trans rfl) fl_RX9_24 (Nat.le_of_ble_eq_true rfl) (fun C T N q => by cases q; rfl) (by decide +kernel) rfl rfl dX9_init_41 (fun H locs h => ?_)
  rw [ap_set hn 0] at h
  have h : fx_H G (S0 ++ [.inr (.inr (9, [n + 1 + 2, n + 2 + 2, n + 3 + 2, n + 4 + 2, n + 5 + 2, 1, 1, 1, 1, 0, 0, 0, 0, 0])), .inl 8, .inl 9, .inl 6, .inl 64, .inl 7]) M s H locs := h
  refine lv_aload_n hx hb dX9_init_44 rfl (lv_at hl 0 rfl) ?_
  refine lv_bipush (v := 7) hx hb dX9_init_45 (by decide) ?_
  refine cy_newa (i0 := 6) (N := 7) hn rfl X h hz (by omega) (h0 _ (by omega)) ak_int (by decide) (by decide) (by decide) (Nat.le_of_ble_eq_true rfl) (Nat.le_of_ble_eq_true rfl) dX9_init_47 (fun H h => ?_)
  have h : fx_H G (S0 ++ [.inr (.inr (9, [n + 1 + 2, n + 2 + 2, n + 3 + 2, n + 4 + 2, n + 5 + 2, 1, 1, 1, 1, 0, 0, 0, 0, 0])), .inl 8, .inl 9, .inl 6, .inl 64, .inl 7, .inl 7]) M s H _ := h
  refine W.widen (k := 6) (n := 101) (by omega) (by omega) ?_
  refine cx_putR (k := n + 0) (j := 5) (r := n + 6) (ty := .array .int) X hin h ((ap_at hn 0).trans rfl) fl_RX9_27 (Nat.le_of_ble_eq_true rfl) (fun C T N q => by cases q; rfl) (by decide +kernel) rfl rfl dX9_init_49 (fun H locs h => ?_)
  rw [ap_set hn 0] at h
  have h : fx_H G (S0 ++ [.inr (.inr (9, [n + 1 + 2, n + 2 + 2, n + 3 + 2, n + 4 + 2, n + 5 + 2, n + 6 + 2, 1, 1, 1, 0, 0, 0, 0, 0])), .inl 8, .inl 9, .inl 6, .inl 64, .inl 7, .inl 7]) M s H locs := h
  refine lv_aload_n hx hb dX9_init_52 rfl (lv_at hl 0 rfl) ?_
  refine lv_bipush (v := 8) hx hb dX9_init_53 (by decide) ?_
  refine cy_newa (i0 := 7) (N := 8) hn rfl X h hz (by omega) (h0 _ (by omega)) ak_int (by decide) (by decide) (by decide) (Nat.le_of_ble_eq_true rfl) (Nat.le_of_ble_eq_true rfl) dX9_init_55 (fun H h => ?_)
  have h : fx_H G (S0 ++ [.inr (.inr (9, [n + 1 + 2, n + 2 + 2, n + 3 + 2, n + 4 + 2, n + 5 + 2, n + 6 + 2, 1, 1, 1, 0, 0, 0, 0, 0])), .inl 8, .inl 9, .inl 6, .inl 64, .inl 7, .inl 7, .inl 8]) M s H _ := h
  refine W.widen (k := 7) (n := 109) (by omega) (by omega) ?_
  refine cx_putR (k := n + 0) (j := 6) (r := n + 7) (ty := .array .int) X hin h ((ap_at hn 0).trans rfl) fl_RX9_30 (Nat.le_of_ble_eq_true rfl) (fun C T N q => by cases q; rfl) (by decide +kernel) rfl rfl dX9_init_57 (fun H locs h => ?_)
  rw [ap_set hn 0] at h
  have h : fx_H G (S0 ++ [.inr (.inr (9, [n + 1 + 2, n + 2 + 2, n + 3 + 2, n + 4 + 2, n + 5 + 2, n + 6 + 2, n + 7 + 2, 1, 1, 0, 0, 0, 0, 0])), .inl 8, .inl 9, .inl 6, .inl 64, .inl 7, .inl 7, .inl 8]) M s H locs := h
  refine lv_aload_n hx hb dX9_init_60 rfl (lv_at hl 0 rfl) ?_
  refine lv_bipush (v := 8) hx hb dX9_init_61 (by decide) ?_
  refine cy_newa (i0 := 8) (N := 8) hn rfl X h hz (by omega) (h0 _ (by omega)) ak_int (by decide) (by decide) (by decide) (Nat.le_of_ble_eq_true rfl) (Nat.le_of_ble_eq_true rfl) dX9_init_63 (fun H h => ?_)
  have h : fx_H G (S0 ++ [.inr (.inr (9, [n + 1 + 2, n + 2 + 2, n + 3 + 2, n + 4 + 2, n + 5 + 2, n + 6 + 2, n + 7 + 2, 1, 1, 0, 0, 0, 0, 0])), .inl 8, .inl 9, .inl 6, .inl 64, .inl 7, .inl 7, .inl 8, .inl 8]) M s H _ := h
  refine W.widen (k := 8) (n := 117) (by omega) (by omega) ?_
  refine cx_putR (k := n + 0) (j := 7) (r := n + 8) (ty := .array .int) X hin h ((ap_at hn 0).trans rfl) fl_RX9_33 (Nat.le_of_ble_eq_true rfl) (fun C T N q => by cases q; rfl) (by decide +kernel) rfl rfl dX9_init_65 (fun H locs h => ?_)
  rw [ap_set hn 0] at h
  have h : fx_H G (S0 ++ [.inr (.inr (9, [n + 1 + 2, n + 2 + 2, n + 3 + 2, n + 4 + 2, n + 5 + 2, n + 6 + 2, n + 7 + 2, n + 8 + 2, 1, 0, 0, 0, 0, 0])), .inl 8, .inl 9, .inl 6, .inl 64, .inl 7, .inl 7, .inl 8, .inl 8]) M s H locs := h
  refine lv_aload_n hx hb dX9_init_68 rfl (lv_at hl 0 rfl) ?_
  refine lv_bipush (v := 20) hx hb dX9_init_69 (by decide) ?_
  refine cy_newa (i0 := 9) (N := 20) hn rfl X h hz (by omega) (h0 _ (by omega)) ak_int (by decide) (by decide) (by decide) (Nat.le_of_ble_eq_true rfl) (Nat.le_of_ble_eq_true rfl) dX9_init_71 (fun H h => ?_)
  have h : fx_H G (S0 ++ [.inr (.inr (9, [n + 1 + 2, n + 2 + 2, n + 3 + 2, n + 4 + 2, n + 5 + 2, n + 6 + 2, n + 7 + 2, n + 8 + 2, 1, 0, 0, 0, 0, 0])), .inl 8, .inl 9, .inl 6, .inl 64, .inl 7, .inl 7, .inl 8, .inl 8, .inl 20]) M s H _ := h
  refine W.widen (k := 9) (n := 137) (by omega) (by omega) ?_
  refine cx_putR (k := n + 0) (j := 8) (r := n + 9) (ty := .array .int) X hin h ((ap_at hn 0).trans rfl) fl_RX9_36 (Nat.le_of_ble_eq_true rfl) (fun C T N q => by cases q; rfl) (by decide +kernel) rfl rfl dX9_init_73 (fun H locs h => ?_)
  rw [ap_set hn 0] at h
  have h : fx_H G (S0 ++ [.inr (.inr (9, [n + 1 + 2, n + 2 + 2, n + 3 + 2, n + 4 + 2, n + 5 + 2, n + 6 + 2, n + 7 + 2, n + 8 + 2, n + 9 + 2, 0, 0, 0, 0, 0])), .inl 8, .inl 9, .inl 6, .inl 64, .inl 7, .inl 7, .inl 8, .inl 8, .inl 20]) M s H locs := h
  refine lv_aload_n hx hb dX9_init_76 rfl (lv_at hl 0 rfl) ?_
  refine lv_iconst (v := 0) hx hb dX9_init_77 (by decide) ?_
  refine fx_putI X h (k := n + 0) (j := 9) ((ap_at hn 0).trans rfl) rfl fl_RX9_39 dX9_init_78 (fun H locs h => ?_)
  obtain ⟨M1, eM1⟩ : ∃ z : Mm, z = m_up M (n + 0) 9 (0 : Int32) := ⟨_, rfl⟩
  rw [← eM1] at h
  have h0 : ∀ a, n + 10 ≤ a → M1 a = fun _ => 0 := fun a ha => by rw [eM1, m_up_ne (by omega)]; exact h0 a (by omega)
  refine lv_aload_n hx hb dX9_init_81 rfl (lv_at hl 0 rfl) ?_
  refine lv_iconst (v := 0) hx hb dX9_init_82 (by decide) ?_
  refine fx_putI X h (k := n + 0) (j := 10) ((ap_at hn 0).trans rfl) rfl fl_RX9_43 dX9_init_83 (fun H locs h => ?_)
  obtain ⟨M2, eM2⟩ : ∃ z : Mm, z = m_up M1 (n + 0) 10 (0 : Int32) := ⟨_, rfl⟩
  rw [← eM2] at h
  have h0 : ∀ a, n + 10 ≤ a → M2 a = fun _ => 0 := fun a ha => by rw [eM2, m_up_ne (by omega)]; exact h0 a (by omega)
  refine lv_aload_n hx hb dX9_init_86 rfl (lv_at hl 0 rfl) ?_
  refine lv_iconst (v := 0) hx hb dX9_init_87 (by decide) ?_
  refine fx_putI X h (k := n + 0) (j := 11) ((ap_at hn 0).trans rfl) rfl fl_RX9_46 dX9_init_88 (fun H locs h => ?_)
  obtain ⟨M3, eM3⟩ : ∃ z : Mm, z = m_up M2 (n + 0) 11 (0 : Int32) := ⟨_, rfl⟩
  rw [← eM3] at h
  have h0 : ∀ a, n + 10 ≤ a → M3 a = fun _ => 0 := fun a ha => by rw [eM3, m_up_ne (by omega)]; exact h0 a (by omega)
  refine lv_aload_n hx hb dX9_init_91 rfl (lv_at hl 0 rfl) ?_
  refine lv_iconst (v := 0) hx hb dX9_init_92 (by decide) ?_
  refine fx_putI X h (k := n + 0) (j := 12) ((ap_at hn 0).trans rfl) rfl fl_RX9_49 dX9_init_93 (fun H locs h => ?_)
  obtain ⟨M4, eM4⟩ : ∃ z : Mm, z = m_up M3 (n + 0) 12 (0 : Int32) := ⟨_, rfl⟩
  rw [← eM4] at h
  have h0 : ∀ a, n + 10 ≤ a → M4 a = fun _ => 0 := fun a ha => by rw [eM4, m_up_ne (by omega)]; exact h0 a (by omega)
  refine lv_aload_n hx hb dX9_init_96 rfl (lv_at hl 0 rfl) ?_
  refine lv_iconst (v := 0) hx hb dX9_init_97 (by decide) ?_
  refine fx_putI X h (k := n + 0) (j := 13) ((ap_at hn 0).trans rfl) rfl fl_RX9_52 dX9_init_98 (fun H locs h => ?_)
  obtain ⟨M5, eM5⟩ : ∃ z : Mm, z = m_up M4 (n + 0) 13 (0 : Int32) := ⟨_, rfl⟩
  rw [← eM5] at h
  have h0 : ∀ a, n + 10 ≤ a → M5 a = fun _ => 0 := fun a ha => by rw [eM5, m_up_ne (by omega)]; exact h0 a (by omega)
  refine lv_iconst (v := 0) hx hb dX9_init_101 (by decide) ?_
  refine lv_istore_n (lv' := [(1, .int (0 : Int32)), (0, .ref (G.2.2.2 + (n + 0)))]) hx hb dX9_init_102 rfl hl (by decide) rfl (fun ls hl => ?_)
  refine lv_iload_n hx hb dX9_init_103 rfl (lv_at hl 0 rfl) ?_
  refine lv_bipush (v := 64) hx hb dX9_init_104 (by decide) ?_
  refine lv_icmp_ge (tgt := 125) hx hb dX9_init_106 (by decide) (fun hc => absurd hc (by decide)) (fun _ => ?_)
  refine lv_aload_n hx hb dX9_init_109 rfl (lv_at hl 1 rfl) ?_
  refine fx_getR X h (k := n + 0) (j := 3) (r := n + 4) ((ap_at hn 0).trans rfl) rfl fl_RX9_21 dX9_init_110 ?_
  refine lv_iload_n hx hb dX9_init_113 rfl (lv_at hl 0 rfl) ?_
  refine lv_iload_n hx hb dX9_init_114 rfl (lv_at hl 0 rfl) ?_
  refine lv_bipush (v := 8) hx hb dX9_init_115 (by decide) ?_
  refine lv_irem hx hb dX9_init_117 (by decide) ?_
  rw [show ((0 : Int32) - (0 : Int32) / (8 : Int32) * (8 : Int32)) = (0 : Int32) by decide]
  refine fx_iast X h (k := n + 4) (i := (0 : Int32)) ((ap_at hn 4).trans rfl) (by unfold vp_in; decide) dX9_init_118 (fun H locs h => ?_)
  rw [show ((0 : Int32)).toNatClampNeg = 0 by decide] at h
  obtain ⟨M6, eM6⟩ : ∃ z : Mm, z = m_up M5 (n + 4) 0 (0 : Int32) := ⟨_, rfl⟩
  rw [← eM6] at h
  have h0 : ∀ a, n + 10 ≤ a → M6 a = fun _ => 0 := fun a ha => by rw [eM6, m_up_ne (by omega)]; exact h0 a (by omega)
  refine lv_iinc (v := 1) (lv' := [(1, .int (1 : Int32)), (0, .ref (G.2.2.2 + (n + 0)))]) hx hb dX9_init_119 hl (k := 0) rfl (by decide) (by decide) rfl (fun ls hl => ?_)
  refine lv_goto (tgt := 103) hx hb dX9_init_122 (by decide) ?_
  refine lv_iload_n hx hb dX9_init_103 rfl (lv_at hl 0 rfl) ?_
  refine lv_bipush (v := 64) hx hb dX9_init_104 (by decide) ?_
  refine lv_icmp_ge (tgt := 125) hx hb dX9_init_106 (by decide) (fun hc => absurd hc (by decide)) (fun _ => ?_)
  refine lv_aload_n hx hb dX9_init_109 rfl (lv_at hl 1 rfl) ?_
  refine fx_getR X h (k := n + 0) (j := 3) (r := n + 4) ((ap_at hn 0).trans rfl) rfl fl_RX9_21 dX9_init_110 ?_
  refine lv_iload_n hx hb dX9_init_113 rfl (lv_at hl 0 rfl) ?_
  refine lv_iload_n hx hb dX9_init_114 rfl (lv_at hl 0 rfl) ?_
  refine lv_bipush (v := 8) hx hb dX9_init_115 (by decide) ?_
  refine lv_irem hx hb dX9_init_117 (by decide) ?_
  rw [show ((1 : Int32) - (1 : Int32) / (8 : Int32) * (8 : Int32)) = (1 : Int32) by decide]
  refine fx_iast X h (k := n + 4) (i := (1 : Int32)) ((ap_at hn 4).trans rfl) (by unfold vp_in; decide) dX9_init_118 (fun H locs h => ?_)
  rw [show ((1 : Int32)).toNatClampNeg = 1 by decide] at h
  obtain ⟨M7, eM7⟩ : ∃ z : Mm, z = m_up M6 (n + 4) 1 (1 : Int32) := ⟨_, rfl⟩
  rw [← eM7] at h
  have h0 : ∀ a, n + 10 ≤ a → M7 a = fun _ => 0 := fun a ha => by rw [eM7, m_up_ne (by omega)]; exact h0 a (by omega)
  refine lv_iinc (v := 2) (lv' := [(1, .int (2 : Int32)), (0, .ref (G.2.2.2 + (n + 0)))]) hx hb dX9_init_119 hl (k := 0) rfl (by decide) (by decide) rfl (fun ls hl => ?_)
  refine lv_goto (tgt := 103) hx hb dX9_init_122 (by decide) ?_
  refine lv_iload_n hx hb dX9_init_103 rfl (lv_at hl 0 rfl) ?_
  refine lv_bipush (v := 64) hx hb dX9_init_104 (by decide) ?_
  refine lv_icmp_ge (tgt := 125) hx hb dX9_init_106 (by decide) (fun hc => absurd hc (by decide)) (fun _ => ?_)
  refine lv_aload_n hx hb dX9_init_109 rfl (lv_at hl 1 rfl) ?_
  refine fx_getR X h (k := n + 0) (j := 3) (r := n + 4) ((ap_at hn 0).trans rfl) rfl fl_RX9_21 dX9_init_110 ?_
  refine lv_iload_n hx hb dX9_init_113 rfl (lv_at hl 0 rfl) ?_
  refine lv_iload_n hx hb dX9_init_114 rfl (lv_at hl 0 rfl) ?_
  refine lv_bipush (v := 8) hx hb dX9_init_115 (by decide) ?_
  refine lv_irem hx hb dX9_init_117 (by decide) ?_
  rw [show ((2 : Int32) - (2 : Int32) / (8 : Int32) * (8 : Int32)) = (2 : Int32) by decide]
  refine fx_iast X h (k := n + 4) (i := (2 : Int32)) ((ap_at hn 4).trans rfl) (by unfold vp_in; decide) dX9_init_118 (fun H locs h => ?_)
  rw [show ((2 : Int32)).toNatClampNeg = 2 by decide] at h
  obtain ⟨M8, eM8⟩ : ∃ z : Mm, z = m_up M7 (n + 4) 2 (2 : Int32) := ⟨_, rfl⟩
  rw [← eM8] at h
  have h0 : ∀ a, n + 10 ≤ a → M8 a = fun _ => 0 := fun a ha => by rw [eM8, m_up_ne (by omega)]; exact h0 a (by omega)
  refine lv_iinc (v := 3) (lv' := [(1, .int (3 : Int32)), (0, .ref (G.2.2.2 + (n + 0)))]) hx hb dX9_init_119 hl (k := 0) rfl (by decide) (by decide) rfl (fun ls hl => ?_)
  refine lv_goto (tgt := 103) hx hb dX9_init_122 (by decide) ?_
  refine lv_iload_n hx hb dX9_init_103 rfl (lv_at hl 0 rfl) ?_
  refine lv_bipush (v := 64) hx hb dX9_init_104 (by decide) ?_
  refine lv_icmp_ge (tgt := 125) hx hb dX9_init_106 (by decide) (fun hc => absurd hc (by decide)) (fun _ => ?_)
  refine lv_aload_n hx hb dX9_init_109 rfl (lv_at hl 1 rfl) ?_
  refine fx_getR X h (k := n + 0) (j := 3) (r := n + 4) ((ap_at hn 0).trans rfl) rfl fl_RX9_21 dX9_init_110 ?_
  refine lv_iload_n hx hb dX9_init_113 rfl (lv_at hl 0 rfl) ?_
  refine lv_iload_n hx hb dX9_init_114 rfl (lv_at hl 0 rfl) ?_
  refine lv_bipush (v := 8) hx hb dX9_init_115 (by decide) ?_
  refine lv_irem hx hb dX9_init_117 (by decide) ?_
  rw [show ((3 : Int32) - (3 : Int32) / (8 : Int32) * (8 : Int32)) = (3 : Int32) by decide]
  refine fx_iast X h (k := n + 4) (i := (3 : Int32)) ((ap_at hn 4).trans rfl) (by unfold vp_in; decide) dX9_init_118 (fun H locs h => ?_)
  rw [show ((3 : Int32)).toNatClampNeg = 3 by decide] at h
  obtain ⟨M9, eM9⟩ : ∃ z : Mm, z = m_up M8 (n + 4) 3 (3 : Int32) := ⟨_, rfl⟩
  rw [← eM9] at h
  have h0 : ∀ a, n + 10 ≤ a → M9 a = fun _ => 0 := fun a ha => by rw [eM9, m_up_ne (by omega)]; exact h0 a (by omega)
  refine lv_iinc (v := 4) (lv' := [(1, .int (4 : Int32)), (0, .ref (G.2.2.2 + (n + 0)))]) hx hb dX9_init_119 hl (k := 0) rfl (by decide) (by decide) rfl (fun ls hl => ?_)
  refine lv_goto (tgt := 103) hx hb dX9_init_122 (by decide) ?_
  refine lv_iload_n hx hb dX9_init_103 rfl (lv_at hl 0 rfl) ?_
  refine lv_bipush (v := 64) hx hb dX9_init_104 (by decide) ?_
  refine lv_icmp_ge (tgt := 125) hx hb dX9_init_106 (by decide) (fun hc => absurd hc (by decide)) (fun _ => ?_)
  refine lv_aload_n hx hb dX9_init_109 rfl (lv_at hl 1 rfl) ?_
  refine fx_getR X h (k := n + 0) (j := 3) (r := n + 4) ((ap_at hn 0).trans rfl) rfl fl_RX9_21 dX9_init_110 ?_
  refine lv_iload_n hx hb dX9_init_113 rfl (lv_at hl 0 rfl) ?_
  refine lv_iload_n hx hb dX9_init_114 rfl (lv_at hl 0 rfl) ?_
  refine lv_bipush (v := 8) hx hb dX9_init_115 (by decide) ?_
  refine lv_irem hx hb dX9_init_117 (by decide) ?_
  rw [show ((4 : Int32) - (4 : Int32) / (8 : Int32) * (8 : Int32)) = (4 : Int32) by decide]
  refine fx_iast X h (k := n + 4) (i := (4 : Int32)) ((ap_at hn 4).trans rfl) (by unfold vp_in; decide) dX9_init_118 (fun H locs h => ?_)
  rw [show ((4 : Int32)).toNatClampNeg = 4 by decide] at h
  obtain ⟨M10, eM10⟩ : ∃ z : Mm, z = m_up M9 (n + 4) 4 (4 : Int32) := ⟨_, rfl⟩
  rw [← eM10] at h
  have h0 : ∀ a, n + 10 ≤ a → M10 a = fun _ => 0 := fun a ha => by rw [eM10, m_up_ne (by omega)]; exact h0 a (by omega)
  refine lv_iinc (v := 5) (lv' := [(1, .int (5 : Int32)), (0, .ref (G.2.2.2 + (n + 0)))]) hx hb dX9_init_119 hl (k := 0) rfl (by decide) (by decide) rfl (fun ls hl => ?_)
  refine lv_goto (tgt := 103) hx hb dX9_init_122 (by decide) ?_
  refine lv_iload_n hx hb dX9_init_103 rfl (lv_at hl 0 rfl) ?_
  refine lv_bipush (v := 64) hx hb dX9_init_104 (by decide) ?_
  refine lv_icmp_ge (tgt := 125) hx hb dX9_init_106 (by decide) (fun hc => absurd hc (by decide)) (fun _ => ?_)
  refine lv_aload_n hx hb dX9_init_109 rfl (lv_at hl 1 rfl) ?_
  refine fx_getR X h (k := n + 0) (j := 3) (r := n + 4) ((ap_at hn 0).trans rfl) rfl fl_RX9_21 dX9_init_110 ?_
  refine lv_iload_n hx hb dX9_init_113 rfl (lv_at hl 0 rfl) ?_
  refine lv_iload_n hx hb dX9_init_114 rfl (lv_at hl 0 rfl) ?_
  refine lv_bipush (v := 8) hx hb dX9_init_115 (by decide) ?_
  refine lv_irem hx hb dX9_init_117 (by decide) ?_
  rw [show ((5 : Int32) - (5 : Int32) / (8 : Int32) * (8 : Int32)) = (5 : Int32) by decide]
  refine fx_iast X h (k := n + 4) (i := (5 : Int32)) ((ap_at hn 4).trans rfl) (by unfold vp_in; decide) dX9_init_118 (fun H locs h => ?_)
  rw [show ((5 : Int32)).toNatClampNeg = 5 by decide] at h
  obtain ⟨M11, eM11⟩ : ∃ z : Mm, z = m_up M10 (n + 4) 5 (5 : Int32) := ⟨_, rfl⟩
  rw [← eM11] at h
  have h0 : ∀ a, n + 10 ≤ a → M11 a = fun _ => 0 := fun a ha => by rw [eM11, m_up_ne (by omega)]; exact h0 a (by omega)
  refine lv_iinc (v := 6) (lv' := [(1, .int (6 : Int32)), (0, .ref (G.2.2.2 + (n + 0)))]) hx hb dX9_init_119 hl (k := 0) rfl (by decide) (by decide) rfl (fun ls hl => ?_)
  refine lv_goto (tgt := 103) hx hb dX9_init_122 (by decide) ?_
  refine lv_iload_n hx hb dX9_init_103 rfl (lv_at hl 0 rfl) ?_
  refine lv_bipush (v := 64) hx hb dX9_init_104 (by decide) ?_
  refine lv_icmp_ge (tgt := 125) hx hb dX9_init_106 (by decide) (fun hc => absurd hc (by decide)) (fun _ => ?_)
  refine lv_aload_n hx hb dX9_init_109 rfl (lv_at hl 1 rfl) ?_
  refine fx_getR X h (k := n + 0) (j := 3) (r := n + 4) ((ap_at hn 0).trans rfl) rfl fl_RX9_21 dX9_init_110 ?_
  refine lv_iload_n hx hb dX9_init_113 rfl (lv_at hl 0 rfl) ?_
  refine lv_iload_n hx hb dX9_init_114 rfl (lv_at hl 0 rfl) ?_
  refine lv_bipush (v := 8) hx hb dX9_init_115 (by decide) ?_
  refine lv_irem hx hb dX9_init_117 (by decide) ?_
  rw [show ((6 : Int32) - (6 : Int32) / (8 : Int32) * (8 : Int32)) = (6 : Int32) by decide]
  refine fx_iast X h (k := n + 4) (i := (6 : Int32)) ((ap_at hn 4).trans rfl) (by unfold vp_in; decide) dX9_init_118 (fun H locs h => ?_)
  rw [show ((6 : Int32)).toNatClampNeg = 6 by decide] at h
  obtain ⟨M12, eM12⟩ : ∃ z : Mm, z = m_up M11 (n + 4) 6 (6 : Int32) := ⟨_, rfl⟩
  rw [← eM12] at h
  have h0 : ∀ a, n + 10 ≤ a → M12 a = fun _ => 0 := fun a ha => by rw [eM12, m_up_ne (by omega)]; exact h0 a (by omega)
  refine lv_iinc (v := 7) (lv' := [(1, .int (7 : Int32)), (0, .ref (G.2.2.2 + (n + 0)))]) hx hb dX9_init_119 hl (k := 0) rfl (by decide) (by decide) rfl (fun ls hl => ?_)
  refine lv_goto (tgt := 103) hx hb dX9_init_122 (by decide) ?_
  refine lv_iload_n hx hb dX9_init_103 rfl (lv_at hl 0 rfl) ?_
  refine lv_bipush (v := 64) hx hb dX9_init_104 (by decide) ?_
  refine lv_icmp_ge (tgt := 125) hx hb dX9_init_106 (by decide) (fun hc => absurd hc (by decide)) (fun _ => ?_)
  refine lv_aload_n hx hb dX9_init_109 rfl (lv_at hl 1 rfl) ?_
  refine fx_getR X h (k := n + 0) (j := 3) (r := n + 4) ((ap_at hn 0).trans rfl) rfl fl_RX9_21 dX9_init_110 ?_
  refine lv_iload_n hx hb dX9_init_113 rfl (lv_at hl 0 rfl) ?_
  refine lv_iload_n hx hb dX9_init_114 rfl (lv_at hl 0 rfl) ?_
  refine lv_bipush (v := 8) hx hb dX9_init_115 (by decide) ?_
  refine lv_irem hx hb dX9_init_117 (by decide) ?_
  rw [show ((7 : Int32) - (7 : Int32) / (8 : Int32) * (8 : Int32)) = (7 : Int32) by decide]
  refine fx_iast X h (k := n + 4) (i := (7 : Int32)) ((ap_at hn 4).trans rfl) (by unfold vp_in; decide) dX9_init_118 (fun H locs h => ?_)
  rw [show ((7 : Int32)).toNatClampNeg = 7 by decide] at h
  obtain ⟨M13, eM13⟩ : ∃ z : Mm, z = m_up M12 (n + 4) 7 (7 : Int32) := ⟨_, rfl⟩
  rw [← eM13] at h
  have h0 : ∀ a, n + 10 ≤ a → M13 a = fun _ => 0 := fun a ha => by rw [eM13, m_up_ne (by omega)]; exact h0 a (by omega)
  refine lv_iinc (v := 8) (lv' := [(1, .int (8 : Int32)), (0, .ref (G.2.2.2 + (n + 0)))]) hx hb dX9_init_119 hl (k := 0) rfl (by decide) (by decide) rfl (fun ls hl => ?_)
  refine lv_goto (tgt := 103) hx hb dX9_init_122 (by decide) ?_
  refine lv_iload_n hx hb dX9_init_103 rfl (lv_at hl 0 rfl) ?_
  refine lv_bipush (v := 64) hx hb dX9_init_104 (by decide) ?_
  refine lv_icmp_ge (tgt := 125) hx hb dX9_init_106 (by decide) (fun hc => absurd hc (by decide)) (fun _ => ?_)
  refine lv_aload_n hx hb dX9_init_109 rfl (lv_at hl 1 rfl) ?_
  refine fx_getR X h (k := n + 0) (j := 3) (r := n + 4) ((ap_at hn 0).trans rfl) rfl fl_RX9_21 dX9_init_110 ?_
  refine lv_iload_n hx hb dX9_init_113 rfl (lv_at hl 0 rfl) ?_
  refine lv_iload_n hx hb dX9_init_114 rfl (lv_at hl 0 rfl) ?_
  refine lv_bipush (v := 8) hx hb dX9_init_115 (by decide) ?_
  refine lv_irem hx hb dX9_init_117 (by decide) ?_
  rw [show ((8 : Int32) - (8 : Int32) / (8 : Int32) * (8 : Int32)) = (0 : Int32) by decide]
  refine fx_iast X h (k := n + 4) (i := (8 : Int32)) ((ap_at hn 4).trans rfl) (by unfold vp_in; decide) dX9_init_118 (fun H locs h => ?_)
  rw [show ((8 : Int32)).toNatClampNeg = 8 by decide] at h
  obtain ⟨M14, eM14⟩ : ∃ z : Mm, z = m_up M13 (n + 4) 8 (0 : Int32) := ⟨_, rfl⟩
  rw [← eM14] at h
  have h0 : ∀ a, n + 10 ≤ a → M14 a = fun _ => 0 := fun a ha => by rw [eM14, m_up_ne (by omega)]; exact h0 a (by omega)
  refine lv_iinc (v := 9) (lv' := [(1, .int (9 : Int32)), (0, .ref (G.2.2.2 + (n + 0)))]) hx hb dX9_init_119 hl (k := 0) rfl (by decide) (by decide) rfl (fun ls hl => ?_)
  refine lv_goto (tgt := 103) hx hb dX9_init_122 (by decide) ?_
  refine lv_iload_n hx hb dX9_init_103 rfl (lv_at hl 0 rfl) ?_
  refine lv_bipush (v := 64) hx hb dX9_init_104 (by decide) ?_
  refine lv_icmp_ge (tgt := 125) hx hb dX9_init_106 (by decide) (fun hc => absurd hc (by decide)) (fun _ => ?_)
  refine lv_aload_n hx hb dX9_init_109 rfl (lv_at hl 1 rfl) ?_
  refine fx_getR X h (k := n + 0) (j := 3) (r := n + 4) ((ap_at hn 0).trans rfl) rfl fl_RX9_21 dX9_init_110 ?_
  refine lv_iload_n hx hb dX9_init_113 rfl (lv_at hl 0 rfl) ?_
  refine lv_iload_n hx hb dX9_init_114 rfl (lv_at hl 0 rfl) ?_
  refine lv_bipush (v := 8) hx hb dX9_init_115 (by decide) ?_
  refine lv_irem hx hb dX9_init_117 (by decide) ?_
  rw [show ((9 : Int32) - (9 : Int32) / (8 : Int32) * (8 : Int32)) = (1 : Int32) by decide]
  refine fx_iast X h (k := n + 4) (i := (9 : Int32)) ((ap_at hn 4).trans rfl) (by unfold vp_in; decide) dX9_init_118 (fun H locs h => ?_)
  rw [show ((9 : Int32)).toNatClampNeg = 9 by decide] at h
  obtain ⟨M15, eM15⟩ : ∃ z : Mm, z = m_up M14 (n + 4) 9 (1 : Int32) := ⟨_, rfl⟩
  rw [← eM15] at h
  have h0 : ∀ a, n + 10 ≤ a → M15 a = fun _ => 0 := fun a ha => by rw [eM15, m_up_ne (by omega)]; exact h0 a (by omega)
  refine lv_iinc (v := 10) (lv' := [(1, .int (10 : Int32)), (0, .ref (G.2.2.2 + (n + 0)))]) hx hb dX9_init_119 hl (k := 0) rfl (by decide) (by decide) rfl (fun ls hl => ?_)
  refine lv_goto (tgt := 103) hx hb dX9_init_122 (by decide) ?_
  refine lv_iload_n hx hb dX9_init_103 rfl (lv_at hl 0 rfl) ?_
  refine lv_bipush (v := 64) hx hb dX9_init_104 (by decide) ?_
  refine lv_icmp_ge (tgt := 125) hx hb dX9_init_106 (by decide) (fun hc => absurd hc (by decide)) (fun _ => ?_)
  refine lv_aload_n hx hb dX9_init_109 rfl (lv_at hl 1 rfl) ?_
  refine fx_getR X h (k := n + 0) (j := 3) (r := n + 4) ((ap_at hn 0).trans rfl) rfl fl_RX9_21 dX9_init_110 ?_
  refine lv_iload_n hx hb dX9_init_113 rfl (lv_at hl 0 rfl) ?_
  refine lv_iload_n hx hb dX9_init_114 rfl (lv_at hl 0 rfl) ?_
  refine lv_bipush (v := 8) hx hb dX9_init_115 (by decide) ?_
  refine lv_irem hx hb dX9_init_117 (by decide) ?_
  rw [show ((10 : Int32) - (10 : Int32) / (8 : Int32) * (8 : Int32)) = (2 : Int32) by decide]
  refine fx_iast X h (k := n + 4) (i := (10 : Int32)) ((ap_at hn 4).trans rfl) (by unfold vp_in; decide) dX9_init_118 (fun H locs h => ?_)
  rw [show ((10 : Int32)).toNatClampNeg = 10 by decide] at h
  obtain ⟨M16, eM16⟩ : ∃ z : Mm, z = m_up M15 (n + 4) 10 (2 : Int32) := ⟨_, rfl⟩
  rw [← eM16] at h
  have h0 : ∀ a, n + 10 ≤ a → M16 a = fun _ => 0 := fun a ha => by rw [eM16, m_up_ne (by omega)]; exact h0 a (by omega)
  refine lv_iinc (v := 11) (lv' := [(1, .int (11 : Int32)), (0, .ref (G.2.2.2 + (n + 0)))]) hx hb dX9_init_119 hl (k := 0) rfl (by decide) (by decide) rfl (fun ls hl => ?_)
  refine lv_goto (tgt := 103) hx hb dX9_init_122 (by decide) ?_
  refine lv_iload_n hx hb dX9_init_103 rfl (lv_at hl 0 rfl) ?_
  refine lv_bipush (v := 64) hx hb dX9_init_104 (by decide) ?_
  refine lv_icmp_ge (tgt := 125) hx hb dX9_init_106 (by decide) (fun hc => absurd hc (by decide)) (fun _ => ?_)
  refine lv_aload_n hx hb dX9_init_109 rfl (lv_at hl 1 rfl) ?_
  refine fx_getR X h (k := n + 0) (j := 3) (r := n + 4) ((ap_at hn 0).trans rfl) rfl fl_RX9_21 dX9_init_110 ?_
  refine lv_iload_n hx hb dX9_init_113 rfl (lv_at hl 0 rfl) ?_
  refine lv_iload_n hx hb dX9_init_114 rfl (lv_at hl 0 rfl) ?_
  refine lv_bipush (v := 8) hx hb dX9_init_115 (by decide) ?_
  refine lv_irem hx hb dX9_init_117 (by decide) ?_
  rw [show ((11 : Int32) - (11 : Int32) / (8 : Int32) * (8 : Int32)) = (3 : Int32) by decide]
  refine fx_iast X h (k := n + 4) (i := (11 : Int32)) ((ap_at hn 4).trans rfl) (by unfold vp_in; decide) dX9_init_118 (fun H locs h => ?_)
  rw [show ((11 : Int32)).toNatClampNeg = 11 by decide] at h
  obtain ⟨M17, eM17⟩ : ∃ z : Mm, z = m_up M16 (n + 4) 11 (3 : Int32) := ⟨_, rfl⟩
  rw [← eM17] at h
  have h0 : ∀ a, n + 10 ≤ a → M17 a = fun _ => 0 := fun a ha => by rw [eM17, m_up_ne (by omega)]; exact h0 a (by omega)
  refine lv_iinc (v := 12) (lv' := [(1, .int (12 : Int32)), (0, .ref (G.2.2.2 + (n + 0)))]) hx hb dX9_init_119 hl (k := 0) rfl (by decide) (by decide) rfl (fun ls hl => ?_)
  refine lv_goto (tgt := 103) hx hb dX9_init_122 (by decide) ?_
  refine lv_iload_n hx hb dX9_init_103 rfl (lv_at hl 0 rfl) ?_
  refine lv_bipush (v := 64) hx hb dX9_init_104 (by decide) ?_
  refine lv_icmp_ge (tgt := 125) hx hb dX9_init_106 (by decide) (fun hc => absurd hc (by decide)) (fun _ => ?_)
  refine lv_aload_n hx hb dX9_init_109 rfl (lv_at hl 1 rfl) ?_
  refine fx_getR X h (k := n + 0) (j := 3) (r := n + 4) ((ap_at hn 0).trans rfl) rfl fl_RX9_21 dX9_init_110 ?_
  refine lv_iload_n hx hb dX9_init_113 rfl (lv_at hl 0 rfl) ?_
  refine lv_iload_n hx hb dX9_init_114 rfl (lv_at hl 0 rfl) ?_
  refine lv_bipush (v := 8) hx hb dX9_init_115 (by decide) ?_
  refine lv_irem hx hb dX9_init_117 (by decide) ?_
  rw [show ((12 : Int32) - (12 : Int32) / (8 : Int32) * (8 : Int32)) = (4 : Int32) by decide]
  refine fx_iast X h (k := n + 4) (i := (12 : Int32)) ((ap_at hn 4).trans rfl) (by unfold vp_in; decide) dX9_init_118 (fun H locs h => ?_)
  rw [show ((12 : Int32)).toNatClampNeg = 12 by decide] at h
  obtain ⟨M18, eM18⟩ : ∃ z : Mm, z = m_up M17 (n + 4) 12 (4 : Int32) := ⟨_, rfl⟩
  rw [← eM18] at h
  have h0 : ∀ a, n + 10 ≤ a → M18 a = fun _ => 0 := fun a ha => by rw [eM18, m_up_ne (by omega)]; exact h0 a (by omega)
  refine lv_iinc (v := 13) (lv' := [(1, .int (13 : Int32)), (0, .ref (G.2.2.2 + (n + 0)))]) hx hb dX9_init_119 hl (k := 0) rfl (by decide) (by decide) rfl (fun ls hl => ?_)
  refine lv_goto (tgt := 103) hx hb dX9_init_122 (by decide) ?_
  refine lv_iload_n hx hb dX9_init_103 rfl (lv_at hl 0 rfl) ?_
  refine lv_bipush (v := 64) hx hb dX9_init_104 (by decide) ?_
  refine lv_icmp_ge (tgt := 125) hx hb dX9_init_106 (by decide) (fun hc => absurd hc (by decide)) (fun _ => ?_)
  refine lv_aload_n hx hb dX9_init_109 rfl (lv_at hl 1 rfl) ?_
  refine fx_getR X h (k := n + 0) (j := 3) (r := n + 4) ((ap_at hn 0).trans rfl) rfl fl_RX9_21 dX9_init_110 ?_
  refine lv_iload_n hx hb dX9_init_113 rfl (lv_at hl 0 rfl) ?_
  refine lv_iload_n hx hb dX9_init_114 rfl (lv_at hl 0 rfl) ?_
  refine lv_bipush (v := 8) hx hb dX9_init_115 (by decide) ?_
  refine lv_irem hx hb dX9_init_117 (by decide) ?_
  rw [show ((13 : Int32) - (13 : Int32) / (8 : Int32) * (8 : Int32)) = (5 : Int32) by decide]
  refine fx_iast X h (k := n + 4) (i := (13 : Int32)) ((ap_at hn 4).trans rfl) (by unfold vp_in; decide) dX9_init_118 (fun H locs h => ?_)
  rw [show ((13 : Int32)).toNatClampNeg = 13 by decide] at h
  obtain ⟨M19, eM19⟩ : ∃ z : Mm, z = m_up M18 (n + 4) 13 (5 : Int32) := ⟨_, rfl⟩
  rw [← eM19] at h
  have h0 : ∀ a, n + 10 ≤ a → M19 a = fun _ => 0 := fun a ha => by rw [eM19, m_up_ne (by omega)]; exact h0 a (by omega)
  refine lv_iinc (v := 14) (lv' := [(1, .int (14 : Int32)), (0, .ref (G.2.2.2 + (n + 0)))]) hx hb dX9_init_119 hl (k := 0) rfl (by decide) (by decide) rfl (fun ls hl => ?_)
  refine lv_goto (tgt := 103) hx hb dX9_init_122 (by decide) ?_
  refine lv_iload_n hx hb dX9_init_103 rfl (lv_at hl 0 rfl) ?_
  refine lv_bipush (v := 64) hx hb dX9_init_104 (by decide) ?_
  refine lv_icmp_ge (tgt := 125) hx hb dX9_init_106 (by decide) (fun hc => absurd hc (by decide)) (fun _ => ?_)
  refine lv_aload_n hx hb dX9_init_109 rfl (lv_at hl 1 rfl) ?_
  refine fx_getR X h (k := n + 0) (j := 3) (r := n + 4) ((ap_at hn 0).trans rfl) rfl fl_RX9_21 dX9_init_110 ?_
  refine lv_iload_n hx hb dX9_init_113 rfl (lv_at hl 0 rfl) ?_
  refine lv_iload_n hx hb dX9_init_114 rfl (lv_at hl 0 rfl) ?_
  refine lv_bipush (v := 8) hx hb dX9_init_115 (by decide) ?_
  refine lv_irem hx hb dX9_init_117 (by decide) ?_
  rw [show ((14 : Int32) - (14 : Int32) / (8 : Int32) * (8 : Int32)) = (6 : Int32) by decide]
  refine fx_iast X h (k := n + 4) (i := (14 : Int32)) ((ap_at hn 4).trans rfl) (by unfold vp_in; decide) dX9_init_118 (fun H locs h => ?_)
  rw [show ((14 : Int32)).toNatClampNeg = 14 by decide] at h
  obtain ⟨M20, eM20⟩ : ∃ z : Mm, z = m_up M19 (n + 4) 14 (6 : Int32) := ⟨_, rfl⟩
  rw [← eM20] at h
  have h0 : ∀ a, n + 10 ≤ a → M20 a = fun _ => 0 := fun a ha => by rw [eM20, m_up_ne (by omega)]; exact h0 a (by omega)
  refine lv_iinc (v := 15) (lv' := [(1, .int (15 : Int32)), (0, .ref (G.2.2.2 + (n + 0)))]) hx hb dX9_init_119 hl (k := 0) rfl (by decide) (by decide) rfl (fun ls hl => ?_)
  refine lv_goto (tgt := 103) hx hb dX9_init_122 (by decide) ?_
  refine lv_iload_n hx hb dX9_init_103 rfl (lv_at hl 0 rfl) ?_
  refine lv_bipush (v := 64) hx hb dX9_init_104 (by decide) ?_
  refine lv_icmp_ge (tgt := 125) hx hb dX9_init_106 (by decide) (fun hc => absurd hc (by decide)) (fun _ => ?_)
  refine lv_aload_n hx hb dX9_init_109 rfl (lv_at hl 1 rfl) ?_
  refine fx_getR X h (k := n + 0) (j := 3) (r := n + 4) ((ap_at hn 0).trans rfl) rfl fl_RX9_21 dX9_init_110 ?_
  refine lv_iload_n hx hb dX9_init_113 rfl (lv_at hl 0 rfl) ?_
  refine lv_iload_n hx hb dX9_init_114 rfl (lv_at hl 0 rfl) ?_
  refine lv_bipush (v := 8) hx hb dX9_init_115 (by decide) ?_
  refine lv_irem hx hb dX9_init_117 (by decide) ?_
  rw [show ((15 : Int32) - (15 : Int32) / (8 : Int32) * (8 : Int32)) = (7 : Int32) by decide]
  refine fx_iast X h (k := n + 4) (i := (15 : Int32)) ((ap_at hn 4).trans rfl) (by unfold vp_in; decide) dX9_init_118 (fun H locs h => ?_)
  rw [show ((15 : Int32)).toNatClampNeg = 15 by decide] at h
  obtain ⟨M21, eM21⟩ : ∃ z : Mm, z = m_up M20 (n + 4) 15 (7 : Int32) := ⟨_, rfl⟩
  rw [← eM21] at h
  have h0 : ∀ a, n + 10 ≤ a → M21 a = fun _ => 0 := fun a ha => by rw [eM21, m_up_ne (by omega)]; exact h0 a (by omega)
  refine lv_iinc (v := 16) (lv' := [(1, .int (16 : Int32)), (0, .ref (G.2.2.2 + (n + 0)))]) hx hb dX9_init_119 hl (k := 0) rfl (by decide) (by decide) rfl (fun ls hl => ?_)
  refine lv_goto (tgt := 103) hx hb dX9_init_122 (by decide) ?_
  refine lv_iload_n hx hb dX9_init_103 rfl (lv_at hl 0 rfl) ?_
  refine lv_bipush (v := 64) hx hb dX9_init_104 (by decide) ?_
  refine lv_icmp_ge (tgt := 125) hx hb dX9_init_106 (by decide) (fun hc => absurd hc (by decide)) (fun _ => ?_)
  refine lv_aload_n hx hb dX9_init_109 rfl (lv_at hl 1 rfl) ?_
  refine fx_getR X h (k := n + 0) (j := 3) (r := n + 4) ((ap_at hn 0).trans rfl) rfl fl_RX9_21 dX9_init_110 ?_
  refine lv_iload_n hx hb dX9_init_113 rfl (lv_at hl 0 rfl) ?_
  refine lv_iload_n hx hb dX9_init_114 rfl (lv_at hl 0 rfl) ?_
  refine lv_bipush (v := 8) hx hb dX9_init_115 (by decide) ?_
  refine lv_irem hx hb dX9_init_117 (by decide) ?_
  rw [show ((16 : Int32) - (16 : Int32) / (8 : Int32) * (8 : Int32)) = (0 : Int32) by decide]
  refine fx_iast X h (k := n + 4) (i := (16 : Int32)) ((ap_at hn 4).trans rfl) (by unfold vp_in; decide) dX9_init_118 (fun H locs h => ?_)
  rw [show ((16 : Int32)).toNatClampNeg = 16 by decide] at h
  obtain ⟨M22, eM22⟩ : ∃ z : Mm, z = m_up M21 (n + 4) 16 (0 : Int32) := ⟨_, rfl⟩
  rw [← eM22] at h
  have h0 : ∀ a, n + 10 ≤ a → M22 a = fun _ => 0 := fun a ha => by rw [eM22, m_up_ne (by omega)]; exact h0 a (by omega)
  refine lv_iinc (v := 17) (lv' := [(1, .int (17 : Int32)), (0, .ref (G.2.2.2 + (n + 0)))]) hx hb dX9_init_119 hl (k := 0) rfl (by decide) (by decide) rfl (fun ls hl => ?_)
  refine lv_goto (tgt := 103) hx hb dX9_init_122 (by decide) ?_
  refine lv_iload_n hx hb dX9_init_103 rfl (lv_at hl 0 rfl) ?_
  refine lv_bipush (v := 64) hx hb dX9_init_104 (by decide) ?_
  refine lv_icmp_ge (tgt := 125) hx hb dX9_init_106 (by decide) (fun hc => absurd hc (by decide)) (fun _ => ?_)
  refine lv_aload_n hx hb dX9_init_109 rfl (lv_at hl 1 rfl) ?_
  refine fx_getR X h (k := n + 0) (j := 3) (r := n + 4) ((ap_at hn 0).trans rfl) rfl fl_RX9_21 dX9_init_110 ?_
  refine lv_iload_n hx hb dX9_init_113 rfl (lv_at hl 0 rfl) ?_
  refine lv_iload_n hx hb dX9_init_114 rfl (lv_at hl 0 rfl) ?_
  refine lv_bipush (v := 8) hx hb dX9_init_115 (by decide) ?_
  refine lv_irem hx hb dX9_init_117 (by decide) ?_
  rw [show ((17 : Int32) - (17 : Int32) / (8 : Int32) * (8 : Int32)) = (1 : Int32) by decide]
  refine fx_iast X h (k := n + 4) (i := (17 : Int32)) ((ap_at hn 4).trans rfl) (by unfold vp_in; decide) dX9_init_118 (fun H locs h => ?_)
  rw [show ((17 : Int32)).toNatClampNeg = 17 by decide] at h
  obtain ⟨M23, eM23⟩ : ∃ z : Mm, z = m_up M22 (n + 4) 17 (1 : Int32) := ⟨_, rfl⟩
  rw [← eM23] at h
  have h0 : ∀ a, n + 10 ≤ a → M23 a = fun _ => 0 := fun a ha => by rw [eM23, m_up_ne (by omega)]; exact h0 a (by omega)
  refine lv_iinc (v := 18) (lv' := [(1, .int (18 : Int32)), (0, .ref (G.2.2.2 + (n + 0)))]) hx hb dX9_init_119 hl (k := 0) rfl (by decide) (by decide) rfl (fun ls hl => ?_)
  refine lv_goto (tgt := 103) hx hb dX9_init_122 (by decide) ?_
  refine lv_iload_n hx hb dX9_init_103 rfl (lv_at hl 0 rfl) ?_
  refine lv_bipush (v := 64) hx hb dX9_init_104 (by decide) ?_
  refine lv_icmp_ge (tgt := 125) hx hb dX9_init_106 (by decide) (fun hc => absurd hc (by decide)) (fun _ => ?_)
  refine lv_aload_n hx hb dX9_init_109 rfl (lv_at hl 1 rfl) ?_
  refine fx_getR X h (k := n + 0) (j := 3) (r := n + 4) ((ap_at hn 0).trans rfl) rfl fl_RX9_21 dX9_init_110 ?_
  refine lv_iload_n hx hb dX9_init_113 rfl (lv_at hl 0 rfl) ?_
  refine lv_iload_n hx hb dX9_init_114 rfl (lv_at hl 0 rfl) ?_
  refine lv_bipush (v := 8) hx hb dX9_init_115 (by decide) ?_
  refine lv_irem hx hb dX9_init_117 (by decide) ?_
  rw [show ((18 : Int32) - (18 : Int32) / (8 : Int32) * (8 : Int32)) = (2 : Int32) by decide]
  refine fx_iast X h (k := n + 4) (i := (18 : Int32)) ((ap_at hn 4).trans rfl) (by unfold vp_in; decide) dX9_init_118 (fun H locs h => ?_)
  rw [show ((18 : Int32)).toNatClampNeg = 18 by decide] at h
  obtain ⟨M24, eM24⟩ : ∃ z : Mm, z = m_up M23 (n + 4) 18 (2 : Int32) := ⟨_, rfl⟩
  rw [← eM24] at h
  have h0 : ∀ a, n + 10 ≤ a → M24 a = fun _ => 0 := fun a ha => by rw [eM24, m_up_ne (by omega)]; exact h0 a (by omega)
  refine lv_iinc (v := 19) (lv' := [(1, .int (19 : Int32)), (0, .ref (G.2.2.2 + (n + 0)))]) hx hb dX9_init_119 hl (k := 0) rfl (by decide) (by decide) rfl (fun ls hl => ?_)
  refine lv_goto (tgt := 103) hx hb dX9_init_122 (by decide) ?_
  refine lv_iload_n hx hb dX9_init_103 rfl (lv_at hl 0 rfl) ?_
  refine lv_bipush (v := 64) hx hb dX9_init_104 (by decide) ?_
  refine lv_icmp_ge (tgt := 125) hx hb dX9_init_106 (by decide) (fun hc => absurd hc (by decide)) (fun _ => ?_)
  refine lv_aload_n hx hb dX9_init_109 rfl (lv_at hl 1 rfl) ?_
  refine fx_getR X h (k := n + 0) (j := 3) (r := n + 4) ((ap_at hn 0).trans rfl) rfl fl_RX9_21 dX9_init_110 ?_
  refine lv_iload_n hx hb dX9_init_113 rfl (lv_at hl 0 rfl) ?_
  refine lv_iload_n hx hb dX9_init_114 rfl (lv_at hl 0 rfl) ?_
  refine lv_bipush (v := 8) hx hb dX9_init_115 (by decide) ?_
  refine lv_irem hx hb dX9_init_117 (by decide) ?_
  rw [show ((19 : Int32) - (19 : Int32) / (8 : Int32) * (8 : Int32)) = (3 : Int32) by decide]
  refine fx_iast X h (k := n + 4) (i := (19 : Int32)) ((ap_at hn 4).trans rfl) (by unfold vp_in; decide) dX9_init_118 (fun H locs h => ?_)
  rw [show ((19 : Int32)).toNatClampNeg = 19 by decide] at h
  obtain ⟨M25, eM25⟩ : ∃ z : Mm, z = m_up M24 (n + 4) 19 (3 : Int32) := ⟨_, rfl⟩
  rw [← eM25] at h
  have h0 : ∀ a, n + 10 ≤ a → M25 a = fun _ => 0 := fun a ha => by rw [eM25, m_up_ne (by omega)]; exact h0 a (by omega)
  refine lv_iinc (v := 20) (lv' := [(1, .int (20 : Int32)), (0, .ref (G.2.2.2 + (n + 0)))]) hx hb dX9_init_119 hl (k := 0) rfl (by decide) (by decide) rfl (fun ls hl => ?_)
  refine lv_goto (tgt := 103) hx hb dX9_init_122 (by decide) ?_
  refine lv_iload_n hx hb dX9_init_103 rfl (lv_at hl 0 rfl) ?_
  refine lv_bipush (v := 64) hx hb dX9_init_104 (by decide) ?_
  refine lv_icmp_ge (tgt := 125) hx hb dX9_init_106 (by decide) (fun hc => absurd hc (by decide)) (fun _ => ?_)
  refine lv_aload_n hx hb dX9_init_109 rfl (lv_at hl 1 rfl) ?_
  refine fx_getR X h (k := n + 0) (j := 3) (r := n + 4) ((ap_at hn 0).trans rfl) rfl fl_RX9_21 dX9_init_110 ?_
  refine lv_iload_n hx hb dX9_init_113 rfl (lv_at hl 0 rfl) ?_
  refine lv_iload_n hx hb dX9_init_114 rfl (lv_at hl 0 rfl) ?_
  refine lv_bipush (v := 8) hx hb dX9_init_115 (by decide) ?_
  refine lv_irem hx hb dX9_init_117 (by decide) ?_
  rw [show ((20 : Int32) - (20 : Int32) / (8 : Int32) * (8 : Int32)) = (4 : Int32) by decide]
  refine fx_iast X h (k := n + 4) (i := (20 : Int32)) ((ap_at hn 4).trans rfl) (by unfold vp_in; decide) dX9_init_118 (fun H locs h => ?_)
  rw [show ((20 : Int32)).toNatClampNeg = 20 by decide] at h
  obtain ⟨M26, eM26⟩ : ∃ z : Mm, z = m_up M25 (n + 4) 20 (4 : Int32) := ⟨_, rfl⟩
  rw [← eM26] at h
  have h0 : ∀ a, n + 10 ≤ a → M26 a = fun _ => 0 := fun a ha => by rw [eM26, m_up_ne (by omega)]; exact h0 a (by omega)
  refine lv_iinc (v := 21) (lv' := [(1, .int (21 : Int32)), (0, .ref (G.2.2.2 + (n + 0)))]) hx hb dX9_init_119 hl (k := 0) rfl (by decide) (by decide) rfl (fun ls hl => ?_)
  refine lv_goto (tgt := 103) hx hb dX9_init_122 (by decide) ?_
  refine lv_iload_n hx hb dX9_init_103 rfl (lv_at hl 0 rfl) ?_
  refine lv_bipush (v := 64) hx hb dX9_init_104 (by decide) ?_
  refine lv_icmp_ge (tgt := 125) hx hb dX9_init_106 (by decide) (fun hc => absurd hc (by decide)) (fun _ => ?_)
  refine lv_aload_n hx hb dX9_init_109 rfl (lv_at hl 1 rfl) ?_
  refine fx_getR X h (k := n + 0) (j := 3) (r := n + 4) ((ap_at hn 0).trans rfl) rfl fl_RX9_21 dX9_init_110 ?_
  refine lv_iload_n hx hb dX9_init_113 rfl (lv_at hl 0 rfl) ?_
  refine lv_iload_n hx hb dX9_init_114 rfl (lv_at hl 0 rfl) ?_
  refine lv_bipush (v := 8) hx hb dX9_init_115 (by decide) ?_
  refine lv_irem hx hb dX9_init_117 (by decide) ?_
  rw [show ((21 : Int32) - (21 : Int32) / (8 : Int32) * (8 : Int32)) = (5 : Int32) by decide]
  refine fx_iast X h (k := n + 4) (i := (21 : Int32)) ((ap_at hn 4).trans rfl) (by unfold vp_in; decide) dX9_init_118 (fun H locs h => ?_)
  rw [show ((21 : Int32)).toNatClampNeg = 21 by decide] at h
  obtain ⟨M27, eM27⟩ : ∃ z : Mm, z = m_up M26 (n + 4) 21 (5 : Int32) := ⟨_, rfl⟩
  rw [← eM27] at h
  have h0 : ∀ a, n + 10 ≤ a → M27 a = fun _ => 0 := fun a ha => by rw [eM27, m_up_ne (by omega)]; exact h0 a (by omega)
  refine lv_iinc (v := 22) (lv' := [(1, .int (22 : Int32)), (0, .ref (G.2.2.2 + (n + 0)))]) hx hb dX9_init_119 hl (k := 0) rfl (by decide) (by decide) rfl (fun ls hl => ?_)
  refine lv_goto (tgt := 103) hx hb dX9_init_122 (by decide) ?_
  refine lv_iload_n hx hb dX9_init_103 rfl (lv_at hl 0 rfl) ?_
  refine lv_bipush (v := 64) hx hb dX9_init_104 (by decide) ?_
  refine lv_icmp_ge (tgt := 125) hx hb dX9_init_106 (by decide) (fun hc => absurd hc (by decide)) (fun _ => ?_)
  refine lv_aload_n hx hb dX9_init_109 rfl (lv_at hl 1 rfl) ?_
  refine fx_getR X h (k := n + 0) (j := 3) (r := n + 4) ((ap_at hn 0).trans rfl) rfl fl_RX9_21 dX9_init_110 ?_
  refine lv_iload_n hx hb dX9_init_113 rfl (lv_at hl 0 rfl) ?_
  refine lv_iload_n hx hb dX9_init_114 rfl (lv_at hl 0 rfl) ?_
  refine lv_bipush (v := 8) hx hb dX9_init_115 (by decide) ?_
  refine lv_irem hx hb dX9_init_117 (by decide) ?_
  rw [show ((22 : Int32) - (22 : Int32) / (8 : Int32) * (8 : Int32)) = (6 : Int32) by decide]
  refine fx_iast X h (k := n + 4) (i := (22 : Int32)) ((ap_at hn 4).trans rfl) (by unfold vp_in; decide) dX9_init_118 (fun H locs h => ?_)
  rw [show ((22 : Int32)).toNatClampNeg = 22 by decide] at h
  obtain ⟨M28, eM28⟩ : ∃ z : Mm, z = m_up M27 (n + 4) 22 (6 : Int32) := ⟨_, rfl⟩
  rw [← eM28] at h
  have h0 : ∀ a, n + 10 ≤ a → M28 a = fun _ => 0 := fun a ha => by rw [eM28, m_up_ne (by omega)]; exact h0 a (by omega)
  refine lv_iinc (v := 23) (lv' := [(1, .int (23 : Int32)), (0, .ref (G.2.2.2 + (n + 0)))]) hx hb dX9_init_119 hl (k := 0) rfl (by decide) (by decide) rfl (fun ls hl => ?_)
  refine lv_goto (tgt := 103) hx hb dX9_init_122 (by decide) ?_
  refine lv_iload_n hx hb dX9_init_103 rfl (lv_at hl 0 rfl) ?_
  refine lv_bipush (v := 64) hx hb dX9_init_104 (by decide) ?_
  refine lv_icmp_ge (tgt := 125) hx hb dX9_init_106 (by decide) (fun hc => absurd hc (by decide)) (fun _ => ?_)
  refine lv_aload_n hx hb dX9_init_109 rfl (lv_at hl 1 rfl) ?_
  refine fx_getR X h (k := n + 0) (j := 3) (r := n + 4) ((ap_at hn 0).trans rfl) rfl fl_RX9_21 dX9_init_110 ?_
  refine lv_iload_n hx hb dX9_init_113 rfl (lv_at hl 0 rfl) ?_
  refine lv_iload_n hx hb dX9_init_114 rfl (lv_at hl 0 rfl) ?_
  refine lv_bipush (v := 8) hx hb dX9_init_115 (by decide) ?_
  refine lv_irem hx hb dX9_init_117 (by decide) ?_
  rw [show ((23 : Int32) - (23 : Int32) / (8 : Int32) * (8 : Int32)) = (7 : Int32) by decide]
  refine fx_iast X h (k := n + 4) (i := (23 : Int32)) ((ap_at hn 4).trans rfl) (by unfold vp_in; decide) dX9_init_118 (fun H locs h => ?_)
  rw [show ((23 : Int32)).toNatClampNeg = 23 by decide] at h
  obtain ⟨M29, eM29⟩ : ∃ z : Mm, z = m_up M28 (n + 4) 23 (7 : Int32) := ⟨_, rfl⟩
  rw [← eM29] at h
  have h0 : ∀ a, n + 10 ≤ a → M29 a = fun _ => 0 := fun a ha => by rw [eM29, m_up_ne (by omega)]; exact h0 a (by omega)
  refine lv_iinc (v := 24) (lv' := [(1, .int (24 : Int32)), (0, .ref (G.2.2.2 + (n + 0)))]) hx hb dX9_init_119 hl (k := 0) rfl (by decide) (by decide) rfl (fun ls hl => ?_)
  refine lv_goto (tgt := 103) hx hb dX9_init_122 (by decide) ?_
  refine lv_iload_n hx hb dX9_init_103 rfl (lv_at hl 0 rfl) ?_
  refine lv_bipush (v := 64) hx hb dX9_init_104 (by decide) ?_
  refine lv_icmp_ge (tgt := 125) hx hb dX9_init_106 (by decide) (fun hc => absurd hc (by decide)) (fun _ => ?_)
  refine lv_aload_n hx hb dX9_init_109 rfl (lv_at hl 1 rfl) ?_
  refine fx_getR X h (k := n + 0) (j := 3) (r := n + 4) ((ap_at hn 0).trans rfl) rfl fl_RX9_21 dX9_init_110 ?_
  refine lv_iload_n hx hb dX9_init_113 rfl (lv_at hl 0 rfl) ?_
  refine lv_iload_n hx hb dX9_init_114 rfl (lv_at hl 0 rfl) ?_
  refine lv_bipush (v := 8) hx hb dX9_init_115 (by decide) ?_
  refine lv_irem hx hb dX9_init_117 (by decide) ?_
  rw [show ((24 : Int32) - (24 : Int32) / (8 : Int32) * (8 : Int32)) = (0 : Int32) by decide]
  refine fx_iast X h (k := n + 4) (i := (24 : Int32)) ((ap_at hn 4).trans rfl) (by unfold vp_in; decide) dX9_init_118 (fun H locs h => ?_)
  rw [show ((24 : Int32)).toNatClampNeg = 24 by decide] at h
  obtain ⟨M30, eM30⟩ : ∃ z : Mm, z = m_up M29 (n + 4) 24 (0 : Int32) := ⟨_, rfl⟩
  rw [← eM30] at h
  have h0 : ∀ a, n + 10 ≤ a → M30 a = fun _ => 0 := fun a ha => by rw [eM30, m_up_ne (by omega)]; exact h0 a (by omega)
  refine lv_iinc (v := 25) (lv' := [(1, .int (25 : Int32)), (0, .ref (G.2.2.2 + (n + 0)))]) hx hb dX9_init_119 hl (k := 0) rfl (by decide) (by decide) rfl (fun ls hl => ?_)
  refine lv_goto (tgt := 103) hx hb dX9_init_122 (by decide) ?_
  refine lv_iload_n hx hb dX9_init_103 rfl (lv_at hl 0 rfl) ?_
  refine lv_bipush (v := 64) hx hb dX9_init_104 (by decide) ?_
  refine lv_icmp_ge (tgt := 125) hx hb dX9_init_106 (by decide) (fun hc => absurd hc (by decide)) (fun _ => ?_)
  refine lv_aload_n hx hb dX9_init_109 rfl (lv_at hl 1 rfl) ?_
  refine fx_getR X h (k := n + 0) (j := 3) (r := n + 4) ((ap_at hn 0).trans rfl) rfl fl_RX9_21 dX9_init_110 ?_
  refine lv_iload_n hx hb dX9_init_113 rfl (lv_at hl 0 rfl) ?_
  refine lv_iload_n hx hb dX9_init_114 rfl (lv_at hl 0 rfl) ?_
  refine lv_bipush (v := 8) hx hb dX9_init_115 (by decide) ?_
  refine lv_irem hx hb dX9_init_117 (by decide) ?_
  rw [show ((25 : Int32) - (25 : Int32) / (8 : Int32) * (8 : Int32)) = (1 : Int32) by decide]
  refine fx_iast X h (k := n + 4) (i := (25 : Int32)) ((ap_at hn 4).trans rfl) (by unfold vp_in; decide) dX9_init_118 (fun H locs h => ?_)
  rw [show ((25 : Int32)).toNatClampNeg = 25 by decide] at h
  obtain ⟨M31, eM31⟩ : ∃ z : Mm, z = m_up M30 (n + 4) 25 (1 : Int32) := ⟨_, rfl⟩
  rw [← eM31] at h
  have h0 : ∀ a, n + 10 ≤ a → M31 a = fun _ => 0 := fun a ha => by rw [eM31, m_up_ne (by omega)]; exact h0 a (by omega)
  refine lv_iinc (v := 26) (lv' := [(1, .int (26 : Int32)), (0, .ref (G.2.2.2 + (n + 0)))]) hx hb dX9_init_119 hl (k := 0) rfl (by decide) (by decide) rfl (fun ls hl => ?_)
  refine lv_goto (tgt := 103) hx hb dX9_init_122 (by decide) ?_
  refine lv_iload_n hx hb dX9_init_103 rfl (lv_at hl 0 rfl) ?_
  refine lv_bipush (v := 64) hx hb dX9_init_104 (by decide) ?_
  refine lv_icmp_ge (tgt := 125) hx hb dX9_init_106 (by decide) (fun hc => absurd hc (by decide)) (fun _ => ?_)
  refine lv_aload_n hx hb dX9_init_109 rfl (lv_at hl 1 rfl) ?_
  refine fx_getR X h (k := n + 0) (j := 3) (r := n + 4) ((ap_at hn 0).trans rfl) rfl fl_RX9_21 dX9_init_110 ?_
  refine lv_iload_n hx hb dX9_init_113 rfl (lv_at hl 0 rfl) ?_
  refine lv_iload_n hx hb dX9_init_114 rfl (lv_at hl 0 rfl) ?_
  refine lv_bipush (v := 8) hx hb dX9_init_115 (by decide) ?_
  refine lv_irem hx hb dX9_init_117 (by decide) ?_
  rw [show ((26 : Int32) - (26 : Int32) / (8 : Int32) * (8 : Int32)) = (2 : Int32) by decide]
  refine fx_iast X h (k := n + 4) (i := (26 : Int32)) ((ap_at hn 4).trans rfl) (by unfold vp_in; decide) dX9_init_118 (fun H locs h => ?_)
  rw [show ((26 : Int32)).toNatClampNeg = 26 by decide] at h
  obtain ⟨M32, eM32⟩ : ∃ z : Mm, z = m_up M31 (n + 4) 26 (2 : Int32) := ⟨_, rfl⟩
  rw [← eM32] at h
  have h0 : ∀ a, n + 10 ≤ a → M32 a = fun _ => 0 := fun a ha => by rw [eM32, m_up_ne (by omega)]; exact h0 a (by omega)
  refine lv_iinc (v := 27) (lv' := [(1, .int (27 : Int32)), (0, .ref (G.2.2.2 + (n + 0)))]) hx hb dX9_init_119 hl (k := 0) rfl (by decide) (by decide) rfl (fun ls hl => ?_)
  refine lv_goto (tgt := 103) hx hb dX9_init_122 (by decide) ?_
  refine lv_iload_n hx hb dX9_init_103 rfl (lv_at hl 0 rfl) ?_
  refine lv_bipush (v := 64) hx hb dX9_init_104 (by decide) ?_
  refine lv_icmp_ge (tgt := 125) hx hb dX9_init_106 (by decide) (fun hc => absurd hc (by decide)) (fun _ => ?_)
  refine lv_aload_n hx hb dX9_init_109 rfl (lv_at hl 1 rfl) ?_
  refine fx_getR X h (k := n + 0) (j := 3) (r := n + 4) ((ap_at hn 0).trans rfl) rfl fl_RX9_21 dX9_init_110 ?_
  refine lv_iload_n hx hb dX9_init_113 rfl (lv_at hl 0 rfl) ?_
  refine lv_iload_n hx hb dX9_init_114 rfl (lv_at hl 0 rfl) ?_
  refine lv_bipush (v := 8) hx hb dX9_init_115 (by decide) ?_
  refine lv_irem hx hb dX9_init_117 (by decide) ?_
  rw [show ((27 : Int32) - (27 : Int32) / (8 : Int32) * (8 : Int32)) = (3 : Int32) by decide]
  refine fx_iast X h (k := n + 4) (i := (27 : Int32)) ((ap_at hn 4).trans rfl) (by unfold vp_in; decide) dX9_init_118 (fun H locs h => ?_)
  rw [show ((27 : Int32)).toNatClampNeg = 27 by decide] at h
  obtain ⟨M33, eM33⟩ : ∃ z : Mm, z = m_up M32 (n + 4) 27 (3 : Int32) := ⟨_, rfl⟩
  rw [← eM33] at h
  have h0 : ∀ a, n + 10 ≤ a → M33 a = fun _ => 0 := fun a ha => by rw [eM33, m_up_ne (by omega)]; exact h0 a (by omega)
  refine lv_iinc (v := 28) (lv' := [(1, .int (28 : Int32)), (0, .ref (G.2.2.2 + (n + 0)))]) hx hb dX9_init_119 hl (k := 0) rfl (by decide) (by decide) rfl (fun ls hl => ?_)
  refine lv_goto (tgt := 103) hx hb dX9_init_122 (by decide) ?_
  refine lv_iload_n hx hb dX9_init_103 rfl (lv_at hl 0 rfl) ?_
  refine lv_bipush (v := 64) hx hb dX9_init_104 (by decide) ?_
  refine lv_icmp_ge (tgt := 125) hx hb dX9_init_106 (by decide) (fun hc => absurd hc (by decide)) (fun _ => ?_)
  refine lv_aload_n hx hb dX9_init_109 rfl (lv_at hl 1 rfl) ?_
  refine fx_getR X h (k := n + 0) (j := 3) (r := n + 4) ((ap_at hn 0).trans rfl) rfl fl_RX9_21 dX9_init_110 ?_
  refine lv_iload_n hx hb dX9_init_113 rfl (lv_at hl 0 rfl) ?_
  refine lv_iload_n hx hb dX9_init_114 rfl (lv_at hl 0 rfl) ?_
  refine lv_bipush (v := 8) hx hb dX9_init_115 (by decide) ?_
  refine lv_irem hx hb dX9_init_117 (by decide) ?_
  rw [show ((28 : Int32) - (28 : Int32) / (8 : Int32) * (8 : Int32)) = (4 : Int32) by decide]
  refine fx_iast X h (k := n + 4) (i := (28 : Int32)) ((ap_at hn 4).trans rfl) (by unfold vp_in; decide) dX9_init_118 (fun H locs h => ?_)
  rw [show ((28 : Int32)).toNatClampNeg = 28 by decide] at h
  obtain ⟨M34, eM34⟩ : ∃ z : Mm, z = m_up M33 (n + 4) 28 (4 : Int32) := ⟨_, rfl⟩
  rw [← eM34] at h
  have h0 : ∀ a, n + 10 ≤ a → M34 a = fun _ => 0 := fun a ha => by rw [eM34, m_up_ne (by omega)]; exact h0 a (by omega)
  refine lv_iinc (v := 29) (lv' := [(1, .int (29 : Int32)), (0, .ref (G.2.2.2 + (n + 0)))]) hx hb dX9_init_119 hl (k := 0) rfl (by decide) (by decide) rfl (fun ls hl => ?_)
  refine lv_goto (tgt := 103) hx hb dX9_init_122 (by decide) ?_
  refine lv_iload_n hx hb dX9_init_103 rfl (lv_at hl 0 rfl) ?_
  refine lv_bipush (v := 64) hx hb dX9_init_104 (by decide) ?_
  refine lv_icmp_ge (tgt := 125) hx hb dX9_init_106 (by decide) (fun hc => absurd hc (by decide)) (fun _ => ?_)
  refine lv_aload_n hx hb dX9_init_109 rfl (lv_at hl 1 rfl) ?_
  refine fx_getR X h (k := n + 0) (j := 3) (r := n + 4) ((ap_at hn 0).trans rfl) rfl fl_RX9_21 dX9_init_110 ?_
  refine lv_iload_n hx hb dX9_init_113 rfl (lv_at hl 0 rfl) ?_
  refine lv_iload_n hx hb dX9_init_114 rfl (lv_at hl 0 rfl) ?_
  refine lv_bipush (v := 8) hx hb dX9_init_115 (by decide) ?_
  refine lv_irem hx hb dX9_init_117 (by decide) ?_
  rw [show ((29 : Int32) - (29 : Int32) / (8 : Int32) * (8 : Int32)) = (5 : Int32) by decide]
  refine fx_iast X h (k := n + 4) (i := (29 : Int32)) ((ap_at hn 4).trans rfl) (by unfold vp_in; decide) dX9_init_118 (fun H locs h => ?_)
  rw [show ((29 : Int32)).toNatClampNeg = 29 by decide] at h
  obtain ⟨M35, eM35⟩ : ∃ z : Mm, z = m_up M34 (n + 4) 29 (5 : Int32) := ⟨_, rfl⟩
  rw [← eM35] at h
  have h0 : ∀ a, n + 10 ≤ a → M35 a = fun _ => 0 := fun a ha => by rw [eM35, m_up_ne (by omega)]; exact h0 a (by omega)
  refine lv_iinc (v := 30) (lv' := [(1, .int (30 : Int32)), (0, .ref (G.2.2.2 + (n + 0)))]) hx hb dX9_init_119 hl (k := 0) rfl (by decide) (by decide) rfl (fun ls hl => ?_)
  refine lv_goto (tgt := 103) hx hb dX9_init_122 (by decide) ?_
  refine lv_iload_n hx hb dX9_init_103 rfl (lv_at hl 0 rfl) ?_
  refine lv_bipush (v := 64) hx hb dX9_init_104 (by decide) ?_
  refine lv_icmp_ge (tgt := 125) hx hb dX9_init_106 (by decide) (fun hc => absurd hc (by decide)) (fun _ => ?_)
  refine lv_aload_n hx hb dX9_init_109 rfl (lv_at hl 1 rfl) ?_
  refine fx_getR X h (k := n + 0) (j := 3) (r := n + 4) ((ap_at hn 0).trans rfl) rfl fl_RX9_21 dX9_init_110 ?_
  refine lv_iload_n hx hb dX9_init_113 rfl (lv_at hl 0 rfl) ?_
  refine lv_iload_n hx hb dX9_init_114 rfl (lv_at hl 0 rfl) ?_
  refine lv_bipush (v := 8) hx hb dX9_init_115 (by decide) ?_
  refine lv_irem hx hb dX9_init_117 (by decide) ?_
  rw [show ((30 : Int32) - (30 : Int32) / (8 : Int32) * (8 : Int32)) = (6 : Int32) by decide]
  refine fx_iast X h (k := n + 4) (i := (30 : Int32)) ((ap_at hn 4).trans rfl) (by unfold vp_in; decide) dX9_init_118 (fun H locs h => ?_)
  rw [show ((30 : Int32)).toNatClampNeg = 30 by decide] at h
  obtain ⟨M36, eM36⟩ : ∃ z : Mm, z = m_up M35 (n + 4) 30 (6 : Int32) := ⟨_, rfl⟩
  rw [← eM36] at h
  have h0 : ∀ a, n + 10 ≤ a → M36 a = fun _ => 0 := fun a ha => by rw [eM36, m_up_ne (by omega)]; exact h0 a (by omega)
  refine lv_iinc (v := 31) (lv' := [(1, .int (31 : Int32)), (0, .ref (G.2.2.2 + (n + 0)))]) hx hb dX9_init_119 hl (k := 0) rfl (by decide) (by decide) rfl (fun ls hl => ?_)
  refine lv_goto (tgt := 103) hx hb dX9_init_122 (by decide) ?_
  refine lv_iload_n hx hb dX9_init_103 rfl (lv_at hl 0 rfl) ?_
  refine lv_bipush (v := 64) hx hb dX9_init_104 (by decide) ?_
  refine lv_icmp_ge (tgt := 125) hx hb dX9_init_106 (by decide) (fun hc => absurd hc (by decide)) (fun _ => ?_)
  refine lv_aload_n hx hb dX9_init_109 rfl (lv_at hl 1 rfl) ?_
  refine fx_getR X h (k := n + 0) (j := 3) (r := n + 4) ((ap_at hn 0).trans rfl) rfl fl_RX9_21 dX9_init_110 ?_
  refine lv_iload_n hx hb dX9_init_113 rfl (lv_at hl 0 rfl) ?_
  refine lv_iload_n hx hb dX9_init_114 rfl (lv_at hl 0 rfl) ?_
  refine lv_bipush (v := 8) hx hb dX9_init_115 (by decide) ?_
  refine lv_irem hx hb dX9_init_117 (by decide) ?_
  rw [show ((31 : Int32) - (31 : Int32) / (8 : Int32) * (8 : Int32)) = (7 : Int32) by decide]
  refine fx_iast X h (k := n + 4) (i := (31 : Int32)) ((ap_at hn 4).trans rfl) (by unfold vp_in; decide) dX9_init_118 (fun H locs h => ?_)
  rw [show ((31 : Int32)).toNatClampNeg = 31 by decide] at h
  obtain ⟨M37, eM37⟩ : ∃ z : Mm, z = m_up M36 (n + 4) 31 (7 : Int32) := ⟨_, rfl⟩
  rw [← eM37] at h
  have h0 : ∀ a, n + 10 ≤ a → M37 a = fun _ => 0 := fun a ha => by rw [eM37, m_up_ne (by omega)]; exact h0 a (by omega)
  refine lv_iinc (v := 32) (lv' := [(1, .int (32 : Int32)), (0, .ref (G.2.2.2 + (n + 0)))]) hx hb dX9_init_119 hl (k := 0) rfl (by decide) (by decide) rfl (fun ls hl => ?_)
  refine lv_goto (tgt := 103) hx hb dX9_init_122 (by decide) ?_
  refine lv_iload_n hx hb dX9_init_103 rfl (lv_at hl 0 rfl) ?_
  refine lv_bipush (v := 64) hx hb dX9_init_104 (by decide) ?_
  refine lv_icmp_ge (tgt := 125) hx hb dX9_init_106 (by decide) (fun hc => absurd hc (by decide)) (fun _ => ?_)
  refine lv_aload_n hx hb dX9_init_109 rfl (lv_at hl 1 rfl) ?_
  refine fx_getR X h (k := n + 0) (j := 3) (r := n + 4) ((ap_at hn 0).trans rfl) rfl fl_RX9_21 dX9_init_110 ?_
  refine lv_iload_n hx hb dX9_init_113 rfl (lv_at hl 0 rfl) ?_
  refine lv_iload_n hx hb dX9_init_114 rfl (lv_at hl 0 rfl) ?_
  refine lv_bipush (v := 8) hx hb dX9_init_115 (by decide) ?_
  refine lv_irem hx hb dX9_init_117 (by decide) ?_
  rw [show ((32 : Int32) - (32 : Int32) / (8 : Int32) * (8 : Int32)) = (0 : Int32) by decide]
  refine fx_iast X h (k := n + 4) (i := (32 : Int32)) ((ap_at hn 4).trans rfl) (by unfold vp_in; decide) dX9_init_118 (fun H locs h => ?_)
  rw [show ((32 : Int32)).toNatClampNeg = 32 by decide] at h
  obtain ⟨M38, eM38⟩ : ∃ z : Mm, z = m_up M37 (n + 4) 32 (0 : Int32) := ⟨_, rfl⟩
  rw [← eM38] at h
  have h0 : ∀ a, n + 10 ≤ a → M38 a = fun _ => 0 := fun a ha => by rw [eM38, m_up_ne (by omega)]; exact h0 a (by omega)
  refine lv_iinc (v := 33) (lv' := [(1, .int (33 : Int32)), (0, .ref (G.2.2.2 + (n + 0)))]) hx hb dX9_init_119 hl (k := 0) rfl (by decide) (by decide) rfl (fun ls hl => ?_)
  refine lv_goto (tgt := 103) hx hb dX9_init_122 (by decide) ?_
  refine lv_iload_n hx hb dX9_init_103 rfl (lv_at hl 0 rfl) ?_
  refine lv_bipush (v := 64) hx hb dX9_init_104 (by decide) ?_
  refine lv_icmp_ge (tgt := 125) hx hb dX9_init_106 (by decide) (fun hc => absurd hc (by decide)) (fun _ => ?_)
  refine lv_aload_n hx hb dX9_init_109 rfl (lv_at hl 1 rfl) ?_
  refine fx_getR X h (k := n + 0) (j := 3) (r := n + 4) ((ap_at hn 0).trans rfl) rfl fl_RX9_21 dX9_init_110 ?_
  refine lv_iload_n hx hb dX9_init_113 rfl (lv_at hl 0 rfl) ?_
  refine lv_iload_n hx hb dX9_init_114 rfl (lv_at hl 0 rfl) ?_
  refine lv_bipush (v := 8) hx hb dX9_init_115 (by decide) ?_
  refine lv_irem hx hb dX9_init_117 (by decide) ?_
  rw [show ((33 : Int32) - (33 : Int32) / (8 : Int32) * (8 : Int32)) = (1 : Int32) by decide]
  refine fx_iast X h (k := n + 4) (i := (33 : Int32)) ((ap_at hn 4).trans rfl) (by unfold vp_in; decide) dX9_init_118 (fun H locs h => ?_)
  rw [show ((33 : Int32)).toNatClampNeg = 33 by decide] at h
  obtain ⟨M39, eM39⟩ : ∃ z : Mm, z = m_up M38 (n + 4) 33 (1 : Int32) := ⟨_, rfl⟩
  rw [← eM39] at h
  have h0 : ∀ a, n + 10 ≤ a → M39 a = fun _ => 0 := fun a ha => by rw [eM39, m_up_ne (by omega)]; exact h0 a (by omega)
  refine lv_iinc (v := 34) (lv' := [(1, .int (34 : Int32)), (0, .ref (G.2.2.2 + (n + 0)))]) hx hb dX9_init_119 hl (k := 0) rfl (by decide) (by decide) rfl (fun ls hl => ?_)
  refine lv_goto (tgt := 103) hx hb dX9_init_122 (by decide) ?_
  refine lv_iload_n hx hb dX9_init_103 rfl (lv_at hl 0 rfl) ?_
  refine lv_bipush (v := 64) hx hb dX9_init_104 (by decide) ?_
  refine lv_icmp_ge (tgt := 125) hx hb dX9_init_106 (by decide) (fun hc => absurd hc (by decide)) (fun _ => ?_)
  refine lv_aload_n hx hb dX9_init_109 rfl (lv_at hl 1 rfl) ?_
  refine fx_getR X h (k := n + 0) (j := 3) (r := n + 4) ((ap_at hn 0).trans rfl) rfl fl_RX9_21 dX9_init_110 ?_
  refine lv_iload_n hx hb dX9_init_113 rfl (lv_at hl 0 rfl) ?_
  refine lv_iload_n hx hb dX9_init_114 rfl (lv_at hl 0 rfl) ?_
  refine lv_bipush (v := 8) hx hb dX9_init_115 (by decide) ?_
  refine lv_irem hx hb dX9_init_117 (by decide) ?_
  rw [show ((34 : Int32) - (34 : Int32) / (8 : Int32) * (8 : Int32)) = (2 : Int32) by decide]
  refine fx_iast X h (k := n + 4) (i := (34 : Int32)) ((ap_at hn 4).trans rfl) (by unfold vp_in; decide) dX9_init_118 (fun H locs h => ?_)
  rw [show ((34 : Int32)).toNatClampNeg = 34 by decide] at h
  obtain ⟨M40, eM40⟩ : ∃ z : Mm, z = m_up M39 (n + 4) 34 (2 : Int32) := ⟨_, rfl⟩
  rw [← eM40] at h
  have h0 : ∀ a, n + 10 ≤ a → M40 a = fun _ => 0 := fun a ha => by rw [eM40, m_up_ne (by omega)]; exact h0 a (by omega)
  refine lv_iinc (v := 35) (lv' := [(1, .int (35 : Int32)), (0, .ref (G.2.2.2 + (n + 0)))]) hx hb dX9_init_119 hl (k := 0) rfl (by decide) (by decide) rfl (fun ls hl => ?_)
  refine lv_goto (tgt := 103) hx hb dX9_init_122 (by decide) ?_
  refine lv_iload_n hx hb dX9_init_103 rfl (lv_at hl 0 rfl) ?_
  refine lv_bipush (v := 64) hx hb dX9_init_104 (by decide) ?_
  refine lv_icmp_ge (tgt := 125) hx hb dX9_init_106 (by decide) (fun hc => absurd hc (by decide)) (fun _ => ?_)
  refine lv_aload_n hx hb dX9_init_109 rfl (lv_at hl 1 rfl) ?_
  refine fx_getR X h (k := n + 0) (j := 3) (r := n + 4) ((ap_at hn 0).trans rfl) rfl fl_RX9_21 dX9_init_110 ?_
  refine lv_iload_n hx hb dX9_init_113 rfl (lv_at hl 0 rfl) ?_
  refine lv_iload_n hx hb dX9_init_114 rfl (lv_at hl 0 rfl) ?_
  refine lv_bipush (v := 8) hx hb dX9_init_115 (by decide) ?_
  refine lv_irem hx hb dX9_init_117 (by decide) ?_
  rw [show ((35 : Int32) - (35 : Int32) / (8 : Int32) * (8 : Int32)) = (3 : Int32) by decide]
  refine fx_iast X h (k := n + 4) (i := (35 : Int32)) ((ap_at hn 4).trans rfl) (by unfold vp_in; decide) dX9_init_118 (fun H locs h => ?_)
  rw [show ((35 : Int32)).toNatClampNeg = 35 by decide] at h
  obtain ⟨M41, eM41⟩ : ∃ z : Mm, z = m_up M40 (n + 4) 35 (3 : Int32) := ⟨_, rfl⟩
  rw [← eM41] at h
  have h0 : ∀ a, n + 10 ≤ a → M41 a = fun _ => 0 := fun a ha => by rw [eM41, m_up_ne (by omega)]; exact h0 a (by omega)
  refine lv_iinc (v := 36) (lv' := [(1, .int (36 : Int32)), (0, .ref (G.2.2.2 + (n + 0)))]) hx hb dX9_init_119 hl (k := 0) rfl (by decide) (by decide) rfl (fun ls hl => ?_)
  refine lv_goto (tgt := 103) hx hb dX9_init_122 (by decide) ?_
  refine lv_iload_n hx hb dX9_init_103 rfl (lv_at hl 0 rfl) ?_
  refine lv_bipush (v := 64) hx hb dX9_init_104 (by decide) ?_
  refine lv_icmp_ge (tgt := 125) hx hb dX9_init_106 (by decide) (fun hc => absurd hc (by decide)) (fun _ => ?_)
  refine lv_aload_n hx hb dX9_init_109 rfl (lv_at hl 1 rfl) ?_
  refine fx_getR X h (k := n + 0) (j := 3) (r := n + 4) ((ap_at hn 0).trans rfl) rfl fl_RX9_21 dX9_init_110 ?_
  refine lv_iload_n hx hb dX9_init_113 rfl (lv_at hl 0 rfl) ?_
  refine lv_iload_n hx hb dX9_init_114 rfl (lv_at hl 0 rfl) ?_
  refine lv_bipush (v := 8) hx hb dX9_init_115 (by decide) ?_
  refine lv_irem hx hb dX9_init_117 (by decide) ?_
  rw [show ((36 : Int32) - (36 : Int32) / (8 : Int32) * (8 : Int32)) = (4 : Int32) by decide]
  refine fx_iast X h (k := n + 4) (i := (36 : Int32)) ((ap_at hn 4).trans rfl) (by unfold vp_in; decide) dX9_init_118 (fun H locs h => ?_)
  rw [show ((36 : Int32)).toNatClampNeg = 36 by decide] at h
  obtain ⟨M42, eM42⟩ : ∃ z : Mm, z = m_up M41 (n + 4) 36 (4 : Int32) := ⟨_, rfl⟩
  rw [← eM42] at h
  have h0 : ∀ a, n + 10 ≤ a → M42 a = fun _ => 0 := fun a ha => by rw [eM42, m_up_ne (by omega)]; exact h0 a (by omega)
  refine lv_iinc (v := 37) (lv' := [(1, .int (37 : Int32)), (0, .ref (G.2.2.2 + (n + 0)))]) hx hb dX9_init_119 hl (k := 0) rfl (by decide) (by decide) rfl (fun ls hl => ?_)
  refine lv_goto (tgt := 103) hx hb dX9_init_122 (by decide) ?_
  refine lv_iload_n hx hb dX9_init_103 rfl (lv_at hl 0 rfl) ?_
  refine lv_bipush (v := 64) hx hb dX9_init_104 (by decide) ?_
  refine lv_icmp_ge (tgt := 125) hx hb dX9_init_106 (by decide) (fun hc => absurd hc (by decide)) (fun _ => ?_)
  refine lv_aload_n hx hb dX9_init_109 rfl (lv_at hl 1 rfl) ?_
  refine fx_getR X h (k := n + 0) (j := 3) (r := n + 4) ((ap_at hn 0).trans rfl) rfl fl_RX9_21 dX9_init_110 ?_
  refine lv_iload_n hx hb dX9_init_113 rfl (lv_at hl 0 rfl) ?_
  refine lv_iload_n hx hb dX9_init_114 rfl (lv_at hl 0 rfl) ?_
  refine lv_bipush (v := 8) hx hb dX9_init_115 (by decide) ?_
  refine lv_irem hx hb dX9_init_117 (by decide) ?_
  rw [show ((37 : Int32) - (37 : Int32) / (8 : Int32) * (8 : Int32)) = (5 : Int32) by decide]
  refine fx_iast X h (k := n + 4) (i := (37 : Int32)) ((ap_at hn 4).trans rfl) (by unfold vp_in; decide) dX9_init_118 (fun H locs h => ?_)
  rw [show ((37 : Int32)).toNatClampNeg = 37 by decide] at h
  obtain ⟨M43, eM43⟩ : ∃ z : Mm, z = m_up M42 (n + 4) 37 (5 : Int32) := ⟨_, rfl⟩
  rw [← eM43] at h
  have h0 : ∀ a, n + 10 ≤ a → M43 a = fun _ => 0 := fun a ha => by rw [eM43, m_up_ne (by omega)]; exact h0 a (by omega)
  refine lv_iinc (v := 38) (lv' := [(1, .int (38 : Int32)), (0, .ref (G.2.2.2 + (n + 0)))]) hx hb dX9_init_119 hl (k := 0) rfl (by decide) (by decide) rfl (fun ls hl => ?_)
  refine lv_goto (tgt := 103) hx hb dX9_init_122 (by decide) ?_
  refine lv_iload_n hx hb dX9_init_103 rfl (lv_at hl 0 rfl) ?_
  refine lv_bipush (v := 64) hx hb dX9_init_104 (by decide) ?_
  refine lv_icmp_ge (tgt := 125) hx hb dX9_init_106 (by decide) (fun hc => absurd hc (by decide)) (fun _ => ?_)
  refine lv_aload_n hx hb dX9_init_109 rfl (lv_at hl 1 rfl) ?_
  refine fx_getR X h (k := n + 0) (j := 3) (r := n + 4) ((ap_at hn 0).trans rfl) rfl fl_RX9_21 dX9_init_110 ?_
  refine lv_iload_n hx hb dX9_init_113 rfl (lv_at hl 0 rfl) ?_
  refine lv_iload_n hx hb dX9_init_114 rfl (lv_at hl 0 rfl) ?_
  refine lv_bipush (v := 8) hx hb dX9_init_115 (by decide) ?_
  refine lv_irem hx hb dX9_init_117 (by decide) ?_
  rw [show ((38 : Int32) - (38 : Int32) / (8 : Int32) * (8 : Int32)) = (6 : Int32) by decide]
  refine fx_iast X h (k := n + 4) (i := (38 : Int32)) ((ap_at hn 4).trans rfl) (by unfold vp_in; decide) dX9_init_118 (fun H locs h => ?_)
  rw [show ((38 : Int32)).toNatClampNeg = 38 by decide] at h
  obtain ⟨M44, eM44⟩ : ∃ z : Mm, z = m_up M43 (n + 4) 38 (6 : Int32) := ⟨_, rfl⟩
  rw [← eM44] at h
  have h0 : ∀ a, n + 10 ≤ a → M44 a = fun _ => 0 := fun a ha => by rw [eM44, m_up_ne (by omega)]; exact h0 a (by omega)
  refine lv_iinc (v := 39) (lv' := [(1, .int (39 : Int32)), (0, .ref (G.2.2.2 + (n + 0)))]) hx hb dX9_init_119 hl (k := 0) rfl (by decide) (by decide) rfl (fun ls hl => ?_)
  refine lv_goto (tgt := 103) hx hb dX9_init_122 (by decide) ?_
  refine lv_iload_n hx hb dX9_init_103 rfl (lv_at hl 0 rfl) ?_
  refine lv_bipush (v := 64) hx hb dX9_init_104 (by decide) ?_
  refine lv_icmp_ge (tgt := 125) hx hb dX9_init_106 (by decide) (fun hc => absurd hc (by decide)) (fun _ => ?_)
  refine lv_aload_n hx hb dX9_init_109 rfl (lv_at hl 1 rfl) ?_
  refine fx_getR X h (k := n + 0) (j := 3) (r := n + 4) ((ap_at hn 0).trans rfl) rfl fl_RX9_21 dX9_init_110 ?_
  refine lv_iload_n hx hb dX9_init_113 rfl (lv_at hl 0 rfl) ?_
  refine lv_iload_n hx hb dX9_init_114 rfl (lv_at hl 0 rfl) ?_
  refine lv_bipush (v := 8) hx hb dX9_init_115 (by decide) ?_
  refine lv_irem hx hb dX9_init_117 (by decide) ?_
  rw [show ((39 : Int32) - (39 : Int32) / (8 : Int32) * (8 : Int32)) = (7 : Int32) by decide]
  refine fx_iast X h (k := n + 4) (i := (39 : Int32)) ((ap_at hn 4).trans rfl) (by unfold vp_in; decide) dX9_init_118 (fun H locs h => ?_)
  rw [show ((39 : Int32)).toNatClampNeg = 39 by decide] at h
  obtain ⟨M45, eM45⟩ : ∃ z : Mm, z = m_up M44 (n + 4) 39 (7 : Int32) := ⟨_, rfl⟩
  rw [← eM45] at h
  have h0 : ∀ a, n + 10 ≤ a → M45 a = fun _ => 0 := fun a ha => by rw [eM45, m_up_ne (by omega)]; exact h0 a (by omega)
  refine lv_iinc (v := 40) (lv' := [(1, .int (40 : Int32)), (0, .ref (G.2.2.2 + (n + 0)))]) hx hb dX9_init_119 hl (k := 0) rfl (by decide) (by decide) rfl (fun ls hl => ?_)
  refine lv_goto (tgt := 103) hx hb dX9_init_122 (by decide) ?_
  refine lv_iload_n hx hb dX9_init_103 rfl (lv_at hl 0 rfl) ?_
  refine lv_bipush (v := 64) hx hb dX9_init_104 (by decide) ?_
  refine lv_icmp_ge (tgt := 125) hx hb dX9_init_106 (by decide) (fun hc => absurd hc (by decide)) (fun _ => ?_)
  refine lv_aload_n hx hb dX9_init_109 rfl (lv_at hl 1 rfl) ?_
  refine fx_getR X h (k := n + 0) (j := 3) (r := n + 4) ((ap_at hn 0).trans rfl) rfl fl_RX9_21 dX9_init_110 ?_
  refine lv_iload_n hx hb dX9_init_113 rfl (lv_at hl 0 rfl) ?_
  refine lv_iload_n hx hb dX9_init_114 rfl (lv_at hl 0 rfl) ?_
  refine lv_bipush (v := 8) hx hb dX9_init_115 (by decide) ?_
  refine lv_irem hx hb dX9_init_117 (by decide) ?_
  rw [show ((40 : Int32) - (40 : Int32) / (8 : Int32) * (8 : Int32)) = (0 : Int32) by decide]
  refine fx_iast X h (k := n + 4) (i := (40 : Int32)) ((ap_at hn 4).trans rfl) (by unfold vp_in; decide) dX9_init_118 (fun H locs h => ?_)
  rw [show ((40 : Int32)).toNatClampNeg = 40 by decide] at h
  obtain ⟨M46, eM46⟩ : ∃ z : Mm, z = m_up M45 (n + 4) 40 (0 : Int32) := ⟨_, rfl⟩
  rw [← eM46] at h
  have h0 : ∀ a, n + 10 ≤ a → M46 a = fun _ => 0 := fun a ha => by rw [eM46, m_up_ne (by omega)]; exact h0 a (by omega)
  refine lv_iinc (v := 41) (lv' := [(1, .int (41 : Int32)), (0, .ref (G.2.2.2 + (n + 0)))]) hx hb dX9_init_119 hl (k := 0) rfl (by decide) (by decide) rfl (fun ls hl => ?_)
  refine lv_goto (tgt := 103) hx hb dX9_init_122 (by decide) ?_
  refine lv_iload_n hx hb dX9_init_103 rfl (lv_at hl 0 rfl) ?_
  refine lv_bipush (v := 64) hx hb dX9_init_104 (by decide) ?_
  refine lv_icmp_ge (tgt := 125) hx hb dX9_init_106 (by decide) (fun hc => absurd hc (by decide)) (fun _ => ?_)
  refine lv_aload_n hx hb dX9_init_109 rfl (lv_at hl 1 rfl) ?_
  refine fx_getR X h (k := n + 0) (j := 3) (r := n + 4) ((ap_at hn 0).trans rfl) rfl fl_RX9_21 dX9_init_110 ?_
  refine lv_iload_n hx hb dX9_init_113 rfl (lv_at hl 0 rfl) ?_
  refine lv_iload_n hx hb dX9_init_114 rfl (lv_at hl 0 rfl) ?_
  refine lv_bipush (v := 8) hx hb dX9_init_115 (by decide) ?_
  refine lv_irem hx hb dX9_init_117 (by decide) ?_
  rw [show ((41 : Int32) - (41 : Int32) / (8 : Int32) * (8 : Int32)) = (1 : Int32) by decide]
  refine fx_iast X h (k := n + 4) (i := (41 : Int32)) ((ap_at hn 4).trans rfl) (by unfold vp_in; decide) dX9_init_118 (fun H locs h => ?_)
  rw [show ((41 : Int32)).toNatClampNeg = 41 by decide] at h
  obtain ⟨M47, eM47⟩ : ∃ z : Mm, z = m_up M46 (n + 4) 41 (1 : Int32) := ⟨_, rfl⟩
  rw [← eM47] at h
  have h0 : ∀ a, n + 10 ≤ a → M47 a = fun _ => 0 := fun a ha => by rw [eM47, m_up_ne (by omega)]; exact h0 a (by omega)
  refine lv_iinc (v := 42) (lv' := [(1, .int (42 : Int32)), (0, .ref (G.2.2.2 + (n + 0)))]) hx hb dX9_init_119 hl (k := 0) rfl (by decide) (by decide) rfl (fun ls hl => ?_)
  refine lv_goto (tgt := 103) hx hb dX9_init_122 (by decide) ?_
  refine lv_iload_n hx hb dX9_init_103 rfl (lv_at hl 0 rfl) ?_
  refine lv_bipush (v := 64) hx hb dX9_init_104 (by decide) ?_
  refine lv_icmp_ge (tgt := 125) hx hb dX9_init_106 (by decide) (fun hc => absurd hc (by decide)) (fun _ => ?_)
  refine lv_aload_n hx hb dX9_init_109 rfl (lv_at hl 1 rfl) ?_
  refine fx_getR X h (k := n + 0) (j := 3) (r := n + 4) ((ap_at hn 0).trans rfl) rfl fl_RX9_21 dX9_init_110 ?_
  refine lv_iload_n hx hb dX9_init_113 rfl (lv_at hl 0 rfl) ?_
  refine lv_iload_n hx hb dX9_init_114 rfl (lv_at hl 0 rfl) ?_
  refine lv_bipush (v := 8) hx hb dX9_init_115 (by decide) ?_
  refine lv_irem hx hb dX9_init_117 (by decide) ?_
  rw [show ((42 : Int32) - (42 : Int32) / (8 : Int32) * (8 : Int32)) = (2 : Int32) by decide]
  refine fx_iast X h (k := n + 4) (i := (42 : Int32)) ((ap_at hn 4).trans rfl) (by unfold vp_in; decide) dX9_init_118 (fun H locs h => ?_)
  rw [show ((42 : Int32)).toNatClampNeg = 42 by decide] at h
  obtain ⟨M48, eM48⟩ : ∃ z : Mm, z = m_up M47 (n + 4) 42 (2 : Int32) := ⟨_, rfl⟩
  rw [← eM48] at h
  have h0 : ∀ a, n + 10 ≤ a → M48 a = fun _ => 0 := fun a ha => by rw [eM48, m_up_ne (by omega)]; exact h0 a (by omega)
  refine lv_iinc (v := 43) (lv' := [(1, .int (43 : Int32)), (0, .ref (G.2.2.2 + (n + 0)))]) hx hb dX9_init_119 hl (k := 0) rfl (by decide) (by decide) rfl (fun ls hl => ?_)
  refine lv_goto (tgt := 103) hx hb dX9_init_122 (by decide) ?_
  refine lv_iload_n hx hb dX9_init_103 rfl (lv_at hl 0 rfl) ?_
  refine lv_bipush (v := 64) hx hb dX9_init_104 (by decide) ?_
  refine lv_icmp_ge (tgt := 125) hx hb dX9_init_106 (by decide) (fun hc => absurd hc (by decide)) (fun _ => ?_)
  refine lv_aload_n hx hb dX9_init_109 rfl (lv_at hl 1 rfl) ?_
  refine fx_getR X h (k := n + 0) (j := 3) (r := n + 4) ((ap_at hn 0).trans rfl) rfl fl_RX9_21 dX9_init_110 ?_
  refine lv_iload_n hx hb dX9_init_113 rfl (lv_at hl 0 rfl) ?_
  refine lv_iload_n hx hb dX9_init_114 rfl (lv_at hl 0 rfl) ?_
  refine lv_bipush (v := 8) hx hb dX9_init_115 (by decide) ?_
  refine lv_irem hx hb dX9_init_117 (by decide) ?_
  rw [show ((43 : Int32) - (43 : Int32) / (8 : Int32) * (8 : Int32)) = (3 : Int32) by decide]
  refine fx_iast X h (k := n + 4) (i := (43 : Int32)) ((ap_at hn 4).trans rfl) (by unfold vp_in; decide) dX9_init_118 (fun H locs h => ?_)
  rw [show ((43 : Int32)).toNatClampNeg = 43 by decide] at h
  obtain ⟨M49, eM49⟩ : ∃ z : Mm, z = m_up M48 (n + 4) 43 (3 : Int32) := ⟨_, rfl⟩
  rw [← eM49] at h
  have h0 : ∀ a, n + 10 ≤ a → M49 a = fun _ => 0 := fun a ha => by rw [eM49, m_up_ne (by omega)]; exact h0 a (by omega)
  refine lv_iinc (v := 44) (lv' := [(1, .int (44 : Int32)), (0, .ref (G.2.2.2 + (n + 0)))]) hx hb dX9_init_119 hl (k := 0) rfl (by decide) (by decide) rfl (fun ls hl => ?_)
  refine lv_goto (tgt := 103) hx hb dX9_init_122 (by decide) ?_
  refine lv_iload_n hx hb dX9_init_103 rfl (lv_at hl 0 rfl) ?_
  refine lv_bipush (v := 64) hx hb dX9_init_104 (by decide) ?_
  refine lv_icmp_ge (tgt := 125) hx hb dX9_init_106 (by decide) (fun hc => absurd hc (by decide)) (fun _ => ?_)
  refine lv_aload_n hx hb dX9_init_109 rfl (lv_at hl 1 rfl) ?_
  refine fx_getR X h (k := n + 0) (j := 3) (r := n + 4) ((ap_at hn 0).trans rfl) rfl fl_RX9_21 dX9_init_110 ?_
  refine lv_iload_n hx hb dX9_init_113 rfl (lv_at hl 0 rfl) ?_
  refine lv_iload_n hx hb dX9_init_114 rfl (lv_at hl 0 rfl) ?_
  refine lv_bipush (v := 8) hx hb dX9_init_115 (by decide) ?_
  refine lv_irem hx hb dX9_init_117 (by decide) ?_
  rw [show ((44 : Int32) - (44 : Int32) / (8 : Int32) * (8 : Int32)) = (4 : Int32) by decide]
  refine fx_iast X h (k := n + 4) (i := (44 : Int32)) ((ap_at hn 4).trans rfl) (by unfold vp_in; decide) dX9_init_118 (fun H locs h => ?_)
  rw [show ((44 : Int32)).toNatClampNeg = 44 by decide] at h
  obtain ⟨M50, eM50⟩ : ∃ z : Mm, z = m_up M49 (n + 4) 44 (4 : Int32) := ⟨_, rfl⟩
  rw [← eM50] at h
  have h0 : ∀ a, n + 10 ≤ a → M50 a = fun _ => 0 := fun a ha => by rw [eM50, m_up_ne (by omega)]; exact h0 a (by omega)
  refine lv_iinc (v := 45) (lv' := [(1, .int (45 : Int32)), (0, .ref (G.2.2.2 + (n + 0)))]) hx hb dX9_init_119 hl (k := 0) rfl (by decide) (by decide) rfl (fun ls hl => ?_)
  refine lv_goto (tgt := 103) hx hb dX9_init_122 (by decide) ?_
  refine lv_iload_n hx hb dX9_init_103 rfl (lv_at hl 0 rfl) ?_
  refine lv_bipush (v := 64) hx hb dX9_init_104 (by decide) ?_
  refine lv_icmp_ge (tgt := 125) hx hb dX9_init_106 (by decide) (fun hc => absurd hc (by decide)) (fun _ => ?_)
  refine lv_aload_n hx hb dX9_init_109 rfl (lv_at hl 1 rfl) ?_
  refine fx_getR X h (k := n + 0) (j := 3) (r := n + 4) ((ap_at hn 0).trans rfl) rfl fl_RX9_21 dX9_init_110 ?_
  refine lv_iload_n hx hb dX9_init_113 rfl (lv_at hl 0 rfl) ?_
  refine lv_iload_n hx hb dX9_init_114 rfl (lv_at hl 0 rfl) ?_
  refine lv_bipush (v := 8) hx hb dX9_init_115 (by decide) ?_
  refine lv_irem hx hb dX9_init_117 (by decide) ?_
  rw [show ((45 : Int32) - (45 : Int32) / (8 : Int32) * (8 : Int32)) = (5 : Int32) by decide]
  refine fx_iast X h (k := n + 4) (i := (45 : Int32)) ((ap_at hn 4).trans rfl) (by unfold vp_in; decide) dX9_init_118 (fun H locs h => ?_)
  rw [show ((45 : Int32)).toNatClampNeg = 45 by decide] at h
  obtain ⟨M51, eM51⟩ : ∃ z : Mm, z = m_up M50 (n + 4) 45 (5 : Int32) := ⟨_, rfl⟩
  rw [← eM51] at h
  have h0 : ∀ a, n + 10 ≤ a → M51 a = fun _ => 0 := fun a ha => by rw [eM51, m_up_ne (by omega)]; exact h0 a (by omega)
  refine lv_iinc (v := 46) (lv' := [(1, .int (46 : Int32)), (0, .ref (G.2.2.2 + (n + 0)))]) hx hb dX9_init_119 hl (k := 0) rfl (by decide) (by decide) rfl (fun ls hl => ?_)
  refine lv_goto (tgt := 103) hx hb dX9_init_122 (by decide) ?_
  refine lv_iload_n hx hb dX9_init_103 rfl (lv_at hl 0 rfl) ?_
  refine lv_bipush (v := 64) hx hb dX9_init_104 (by decide) ?_
  refine lv_icmp_ge (tgt := 125) hx hb dX9_init_106 (by decide) (fun hc => absurd hc (by decide)) (fun _ => ?_)
  refine lv_aload_n hx hb dX9_init_109 rfl (lv_at hl 1 rfl) ?_
  refine fx_getR X h (k := n + 0) (j := 3) (r := n + 4) ((ap_at hn 0).trans rfl) rfl fl_RX9_21 dX9_init_110 ?_
  refine lv_iload_n hx hb dX9_init_113 rfl (lv_at hl 0 rfl) ?_
  refine lv_iload_n hx hb dX9_init_114 rfl (lv_at hl 0 rfl) ?_
  refine lv_bipush (v := 8) hx hb dX9_init_115 (by decide) ?_
  refine lv_irem hx hb dX9_init_117 (by decide) ?_
  rw [show ((46 : Int32) - (46 : Int32) / (8 : Int32) * (8 : Int32)) = (6 : Int32) by decide]
  refine fx_iast X h (k := n + 4) (i := (46 : Int32)) ((ap_at hn 4).trans rfl) (by unfold vp_in; decide) dX9_init_118 (fun H locs h => ?_)
  rw [show ((46 : Int32)).toNatClampNeg = 46 by decide] at h
  obtain ⟨M52, eM52⟩ : ∃ z : Mm, z = m_up M51 (n + 4) 46 (6 : Int32) := ⟨_, rfl⟩
  rw [← eM52] at h
  have h0 : ∀ a, n + 10 ≤ a → M52 a = fun _ => 0 := fun a ha => by rw [eM52, m_up_ne (by omega)]; exact h0 a (by omega)
  refine lv_iinc (v := 47) (lv' := [(1, .int (47 : Int32)), (0, .ref (G.2.2.2 + (n + 0)))]) hx hb dX9_init_119 hl (k := 0) rfl (by decide) (by decide) rfl (fun ls hl => ?_)
  refine lv_goto (tgt := 103) hx hb dX9_init_122 (by decide) ?_
  refine lv_iload_n hx hb dX9_init_103 rfl (lv_at hl 0 rfl) ?_
  refine lv_bipush (v := 64) hx hb dX9_init_104 (by decide) ?_
  refine lv_icmp_ge (tgt := 125) hx hb dX9_init_106 (by decide) (fun hc => absurd hc (by decide)) (fun _ => ?_)
  refine lv_aload_n hx hb dX9_init_109 rfl (lv_at hl 1 rfl) ?_
  refine fx_getR X h (k := n + 0) (j := 3) (r := n + 4) ((ap_at hn 0).trans rfl) rfl fl_RX9_21 dX9_init_110 ?_
  refine lv_iload_n hx hb dX9_init_113 rfl (lv_at hl 0 rfl) ?_
  refine lv_iload_n hx hb dX9_init_114 rfl (lv_at hl 0 rfl) ?_
  refine lv_bipush (v := 8) hx hb dX9_init_115 (by decide) ?_
  refine lv_irem hx hb dX9_init_117 (by decide) ?_
  rw [show ((47 : Int32) - (47 : Int32) / (8 : Int32) * (8 : Int32)) = (7 : Int32) by decide]
  refine fx_iast X h (k := n + 4) (i := (47 : Int32)) ((ap_at hn 4).trans rfl) (by unfold vp_in; decide) dX9_init_118 (fun H locs h => ?_)
  rw [show ((47 : Int32)).toNatClampNeg = 47 by decide] at h
  obtain ⟨M53, eM53⟩ : ∃ z : Mm, z = m_up M52 (n + 4) 47 (7 : Int32) := ⟨_, rfl⟩
  rw [← eM53] at h
  have h0 : ∀ a, n + 10 ≤ a → M53 a = fun _ => 0 := fun a ha => by rw [eM53, m_up_ne (by omega)]; exact h0 a (by omega)
  refine lv_iinc (v := 48) (lv' := [(1, .int (48 : Int32)), (0, .ref (G.2.2.2 + (n + 0)))]) hx hb dX9_init_119 hl (k := 0) rfl (by decide) (by decide) rfl (fun ls hl => ?_)
  refine lv_goto (tgt := 103) hx hb dX9_init_122 (by decide) ?_
  refine lv_iload_n hx hb dX9_init_103 rfl (lv_at hl 0 rfl) ?_
  refine lv_bipush (v := 64) hx hb dX9_init_104 (by decide) ?_
  refine lv_icmp_ge (tgt := 125) hx hb dX9_init_106 (by decide) (fun hc => absurd hc (by decide)) (fun _ => ?_)
  refine lv_aload_n hx hb dX9_init_109 rfl (lv_at hl 1 rfl) ?_
  refine fx_getR X h (k := n + 0) (j := 3) (r := n + 4) ((ap_at hn 0).trans rfl) rfl fl_RX9_21 dX9_init_110 ?_
  refine lv_iload_n hx hb dX9_init_113 rfl (lv_at hl 0 rfl) ?_
  refine lv_iload_n hx hb dX9_init_114 rfl (lv_at hl 0 rfl) ?_
  refine lv_bipush (v := 8) hx hb dX9_init_115 (by decide) ?_
  refine lv_irem hx hb dX9_init_117 (by decide) ?_
  rw [show ((48 : Int32) - (48 : Int32) / (8 : Int32) * (8 : Int32)) = (0 : Int32) by decide]
  refine fx_iast X h (k := n + 4) (i := (48 : Int32)) ((ap_at hn 4).trans rfl) (by unfold vp_in; decide) dX9_init_118 (fun H locs h => ?_)
  rw [show ((48 : Int32)).toNatClampNeg = 48 by decide] at h
  obtain ⟨M54, eM54⟩ : ∃ z : Mm, z = m_up M53 (n + 4) 48 (0 : Int32) := ⟨_, rfl⟩
  rw [← eM54] at h
  have h0 : ∀ a, n + 10 ≤ a → M54 a = fun _ => 0 := fun a ha => by rw [eM54, m_up_ne (by omega)]; exact h0 a (by omega)
  refine lv_iinc (v := 49) (lv' := [(1, .int (49 : Int32)), (0, .ref (G.2.2.2 + (n + 0)))]) hx hb dX9_init_119 hl (k := 0) rfl (by decide) (by decide) rfl (fun ls hl => ?_)
  refine lv_goto (tgt := 103) hx hb dX9_init_122 (by decide) ?_
  refine lv_iload_n hx hb dX9_init_103 rfl (lv_at hl 0 rfl) ?_
  refine lv_bipush (v := 64) hx hb dX9_init_104 (by decide) ?_
  refine lv_icmp_ge (tgt := 125) hx hb dX9_init_106 (by decide) (fun hc => absurd hc (by decide)) (fun _ => ?_)
  refine lv_aload_n hx hb dX9_init_109 rfl (lv_at hl 1 rfl) ?_
  refine fx_getR X h (k := n + 0) (j := 3) (r := n + 4) ((ap_at hn 0).trans rfl) rfl fl_RX9_21 dX9_init_110 ?_
  refine lv_iload_n hx hb dX9_init_113 rfl (lv_at hl 0 rfl) ?_
  refine lv_iload_n hx hb dX9_init_114 rfl (lv_at hl 0 rfl) ?_
  refine lv_bipush (v := 8) hx hb dX9_init_115 (by decide) ?_
  refine lv_irem hx hb dX9_init_117 (by decide) ?_
  rw [show ((49 : Int32) - (49 : Int32) / (8 : Int32) * (8 : Int32)) = (1 : Int32) by decide]
  refine fx_iast X h (k := n + 4) (i := (49 : Int32)) ((ap_at hn 4).trans rfl) (by unfold vp_in; decide) dX9_init_118 (fun H locs h => ?_)
  rw [show ((49 : Int32)).toNatClampNeg = 49 by decide] at h
  obtain ⟨M55, eM55⟩ : ∃ z : Mm, z = m_up M54 (n + 4) 49 (1 : Int32) := ⟨_, rfl⟩
  rw [← eM55] at h
  have h0 : ∀ a, n + 10 ≤ a → M55 a = fun _ => 0 := fun a ha => by rw [eM55, m_up_ne (by omega)]; exact h0 a (by omega)
  refine lv_iinc (v := 50) (lv' := [(1, .int (50 : Int32)), (0, .ref (G.2.2.2 + (n + 0)))]) hx hb dX9_init_119 hl (k := 0) rfl (by decide) (by decide) rfl (fun ls hl => ?_)
  refine lv_goto (tgt := 103) hx hb dX9_init_122 (by decide) ?_
  refine lv_iload_n hx hb dX9_init_103 rfl (lv_at hl 0 rfl) ?_
  refine lv_bipush (v := 64) hx hb dX9_init_104 (by decide) ?_
  refine lv_icmp_ge (tgt := 125) hx hb dX9_init_106 (by decide) (fun hc => absurd hc (by decide)) (fun _ => ?_)
  refine lv_aload_n hx hb dX9_init_109 rfl (lv_at hl 1 rfl) ?_
  refine fx_getR X h (k := n + 0) (j := 3) (r := n + 4) ((ap_at hn 0).trans rfl) rfl fl_RX9_21 dX9_init_110 ?_
  refine lv_iload_n hx hb dX9_init_113 rfl (lv_at hl 0 rfl) ?_
  refine lv_iload_n hx hb dX9_init_114 rfl (lv_at hl 0 rfl) ?_
  refine lv_bipush (v := 8) hx hb dX9_init_115 (by decide) ?_
  refine lv_irem hx hb dX9_init_117 (by decide) ?_
  rw [show ((50 : Int32) - (50 : Int32) / (8 : Int32) * (8 : Int32)) = (2 : Int32) by decide]
  refine fx_iast X h (k := n + 4) (i := (50 : Int32)) ((ap_at hn 4).trans rfl) (by unfold vp_in; decide) dX9_init_118 (fun H locs h => ?_)
  rw [show ((50 : Int32)).toNatClampNeg = 50 by decide] at h
  obtain ⟨M56, eM56⟩ : ∃ z : Mm, z = m_up M55 (n + 4) 50 (2 : Int32) := ⟨_, rfl⟩
  rw [← eM56] at h
  have h0 : ∀ a, n + 10 ≤ a → M56 a = fun _ => 0 := fun a ha => by rw [eM56, m_up_ne (by omega)]; exact h0 a (by omega)
  refine lv_iinc (v := 51) (lv' := [(1, .int (51 : Int32)), (0, .ref (G.2.2.2 + (n + 0)))]) hx hb dX9_init_119 hl (k := 0) rfl (by decide) (by decide) rfl (fun ls hl => ?_)
  refine lv_goto (tgt := 103) hx hb dX9_init_122 (by decide) ?_
  refine lv_iload_n hx hb dX9_init_103 rfl (lv_at hl 0 rfl) ?_
  refine lv_bipush (v := 64) hx hb dX9_init_104 (by decide) ?_
  refine lv_icmp_ge (tgt := 125) hx hb dX9_init_106 (by decide) (fun hc => absurd hc (by decide)) (fun _ => ?_)
  refine lv_aload_n hx hb dX9_init_109 rfl (lv_at hl 1 rfl) ?_
  refine fx_getR X h (k := n + 0) (j := 3) (r := n + 4) ((ap_at hn 0).trans rfl) rfl fl_RX9_21 dX9_init_110 ?_
  refine lv_iload_n hx hb dX9_init_113 rfl (lv_at hl 0 rfl) ?_
  refine lv_iload_n hx hb dX9_init_114 rfl (lv_at hl 0 rfl) ?_
  refine lv_bipush (v := 8) hx hb dX9_init_115 (by decide) ?_
  refine lv_irem hx hb dX9_init_117 (by decide) ?_
  rw [show ((51 : Int32) - (51 : Int32) / (8 : Int32) * (8 : Int32)) = (3 : Int32) by decide]
  refine fx_iast X h (k := n + 4) (i := (51 : Int32)) ((ap_at hn 4).trans rfl) (by unfold vp_in; decide) dX9_init_118 (fun H locs h => ?_)
  rw [show ((51 : Int32)).toNatClampNeg = 51 by decide] at h
  obtain ⟨M57, eM57⟩ : ∃ z : Mm, z = m_up M56 (n + 4) 51 (3 : Int32) := ⟨_, rfl⟩
  rw [← eM57] at h
  have h0 : ∀ a, n + 10 ≤ a → M57 a = fun _ => 0 := fun a ha => by rw [eM57, m_up_ne (by omega)]; exact h0 a (by omega)
  refine lv_iinc (v := 52) (lv' := [(1, .int (52 : Int32)), (0, .ref (G.2.2.2 + (n + 0)))]) hx hb dX9_init_119 hl (k := 0) rfl (by decide) (by decide) rfl (fun ls hl => ?_)
  refine lv_goto (tgt := 103) hx hb dX9_init_122 (by decide) ?_
  refine lv_iload_n hx hb dX9_init_103 rfl (lv_at hl 0 rfl) ?_
  refine lv_bipush (v := 64) hx hb dX9_init_104 (by decide) ?_
  refine lv_icmp_ge (tgt := 125) hx hb dX9_init_106 (by decide) (fun hc => absurd hc (by decide)) (fun _ => ?_)
  refine lv_aload_n hx hb dX9_init_109 rfl (lv_at hl 1 rfl) ?_
  refine fx_getR X h (k := n + 0) (j := 3) (r := n + 4) ((ap_at hn 0).trans rfl) rfl fl_RX9_21 dX9_init_110 ?_
  refine lv_iload_n hx hb dX9_init_113 rfl (lv_at hl 0 rfl) ?_
  refine lv_iload_n hx hb dX9_init_114 rfl (lv_at hl 0 rfl) ?_
  refine lv_bipush (v := 8) hx hb dX9_init_115 (by decide) ?_
  refine lv_irem hx hb dX9_init_117 (by decide) ?_
  rw [show ((52 : Int32) - (52 : Int32) / (8 : Int32) * (8 : Int32)) = (4 : Int32) by decide]
  refine fx_iast X h (k := n + 4) (i := (52 : Int32)) ((ap_at hn 4).trans rfl) (by unfold vp_in; decide) dX9_init_118 (fun H locs h => ?_)
  rw [show ((52 : Int32)).toNatClampNeg = 52 by decide] at h
  obtain ⟨M58, eM58⟩ : ∃ z : Mm, z = m_up M57 (n + 4) 52 (4 : Int32) := ⟨_, rfl⟩
  rw [← eM58] at h
  have h0 : ∀ a, n + 10 ≤ a → M58 a = fun _ => 0 := fun a ha => by rw [eM58, m_up_ne (by omega)]; exact h0 a (by omega)
  refine lv_iinc (v := 53) (lv' := [(1, .int (53 : Int32)), (0, .ref (G.2.2.2 + (n + 0)))]) hx hb dX9_init_119 hl (k := 0) rfl (by decide) (by decide) rfl (fun ls hl => ?_)
  refine lv_goto (tgt := 103) hx hb dX9_init_122 (by decide) ?_
  refine lv_iload_n hx hb dX9_init_103 rfl (lv_at hl 0 rfl) ?_
  refine lv_bipush (v := 64) hx hb dX9_init_104 (by decide) ?_
  refine lv_icmp_ge (tgt := 125) hx hb dX9_init_106 (by decide) (fun hc => absurd hc (by decide)) (fun _ => ?_)
  refine lv_aload_n hx hb dX9_init_109 rfl (lv_at hl 1 rfl) ?_
  refine fx_getR X h (k := n + 0) (j := 3) (r := n + 4) ((ap_at hn 0).trans rfl) rfl fl_RX9_21 dX9_init_110 ?_
  refine lv_iload_n hx hb dX9_init_113 rfl (lv_at hl 0 rfl) ?_
  refine lv_iload_n hx hb dX9_init_114 rfl (lv_at hl 0 rfl) ?_
  refine lv_bipush (v := 8) hx hb dX9_init_115 (by decide) ?_
  refine lv_irem hx hb dX9_init_117 (by decide) ?_
  rw [show ((53 : Int32) - (53 : Int32) / (8 : Int32) * (8 : Int32)) = (5 : Int32) by decide]
  refine fx_iast X h (k := n + 4) (i := (53 : Int32)) ((ap_at hn 4).trans rfl) (by unfold vp_in; decide) dX9_init_118 (fun H locs h => ?_)
  rw [show ((53 : Int32)).toNatClampNeg = 53 by decide] at h
  obtain ⟨M59, eM59⟩ : ∃ z : Mm, z = m_up M58 (n + 4) 53 (5 : Int32) := ⟨_, rfl⟩
  rw [← eM59] at h
  have h0 : ∀ a, n + 10 ≤ a → M59 a = fun _ => 0 := fun a ha => by rw [eM59, m_up_ne (by omega)]; exact h0 a (by omega)
  refine lv_iinc (v := 54) (lv' := [(1, .int (54 : Int32)), (0, .ref (G.2.2.2 + (n + 0)))]) hx hb dX9_init_119 hl (k := 0) rfl (by decide) (by decide) rfl (fun ls hl => ?_)
  refine lv_goto (tgt := 103) hx hb dX9_init_122 (by decide) ?_
  refine lv_iload_n hx hb dX9_init_103 rfl (lv_at hl 0 rfl) ?_
  refine lv_bipush (v := 64) hx hb dX9_init_104 (by decide) ?_
  refine lv_icmp_ge (tgt := 125) hx hb dX9_init_106 (by decide) (fun hc => absurd hc (by decide)) (fun _ => ?_)
  refine lv_aload_n hx hb dX9_init_109 rfl (lv_at hl 1 rfl) ?_
  refine fx_getR X h (k := n + 0) (j := 3) (r := n + 4) ((ap_at hn 0).trans rfl) rfl fl_RX9_21 dX9_init_110 ?_
  refine lv_iload_n hx hb dX9_init_113 rfl (lv_at hl 0 rfl) ?_
  refine lv_iload_n hx hb dX9_init_114 rfl (lv_at hl 0 rfl) ?_
  refine lv_bipush (v := 8) hx hb dX9_init_115 (by decide) ?_
  refine lv_irem hx hb dX9_init_117 (by decide) ?_
  rw [show ((54 : Int32) - (54 : Int32) / (8 : Int32) * (8 : Int32)) = (6 : Int32) by decide]
  refine fx_iast X h (k := n + 4) (i := (54 : Int32)) ((ap_at hn 4).trans rfl) (by unfold vp_in; decide) dX9_init_118 (fun H locs h => ?_)
  rw [show ((54 : Int32)).toNatClampNeg = 54 by decide] at h
  obtain ⟨M60, eM60⟩ : ∃ z : Mm, z = m_up M59 (n + 4) 54 (6 : Int32) := ⟨_, rfl⟩
  rw [← eM60] at h
  have h0 : ∀ a, n + 10 ≤ a → M60 a = fun _ => 0 := fun a ha => by rw [eM60, m_up_ne (by omega)]; exact h0 a (by omega)
  refine lv_iinc (v := 55) (lv' := [(1, .int (55 : Int32)), (0, .ref (G.2.2.2 + (n + 0)))]) hx hb dX9_init_119 hl (k := 0) rfl (by decide) (by decide) rfl (fun ls hl => ?_)
  refine lv_goto (tgt := 103) hx hb dX9_init_122 (by decide) ?_
  refine lv_iload_n hx hb dX9_init_103 rfl (lv_at hl 0 rfl) ?_
  refine lv_bipush (v := 64) hx hb dX9_init_104 (by decide) ?_
  refine lv_icmp_ge (tgt := 125) hx hb dX9_init_106 (by decide) (fun hc => absurd hc (by decide)) (fun _ => ?_)
  refine lv_aload_n hx hb dX9_init_109 rfl (lv_at hl 1 rfl) ?_
  refine fx_getR X h (k := n + 0) (j := 3) (r := n + 4) ((ap_at hn 0).trans rfl) rfl fl_RX9_21 dX9_init_110 ?_
  refine lv_iload_n hx hb dX9_init_113 rfl (lv_at hl 0 rfl) ?_
  refine lv_iload_n hx hb dX9_init_114 rfl (lv_at hl 0 rfl) ?_
  refine lv_bipush (v := 8) hx hb dX9_init_115 (by decide) ?_
  refine lv_irem hx hb dX9_init_117 (by decide) ?_
  rw [show ((55 : Int32) - (55 : Int32) / (8 : Int32) * (8 : Int32)) = (7 : Int32) by decide]
  refine fx_iast X h (k := n + 4) (i := (55 : Int32)) ((ap_at hn 4).trans rfl) (by unfold vp_in; decide) dX9_init_118 (fun H locs h => ?_)
  rw [show ((55 : Int32)).toNatClampNeg = 55 by decide] at h
  obtain ⟨M61, eM61⟩ : ∃ z : Mm, z = m_up M60 (n + 4) 55 (7 : Int32) := ⟨_, rfl⟩
  rw [← eM61] at h
  have h0 : ∀ a, n + 10 ≤ a → M61 a = fun _ => 0 := fun a ha => by rw [eM61, m_up_ne (by omega)]; exact h0 a (by omega)
  refine lv_iinc (v := 56) (lv' := [(1, .int (56 : Int32)), (0, .ref (G.2.2.2 + (n + 0)))]) hx hb dX9_init_119 hl (k := 0) rfl (by decide) (by decide) rfl (fun ls hl => ?_)
  refine lv_goto (tgt := 103) hx hb dX9_init_122 (by decide) ?_
  refine lv_iload_n hx hb dX9_init_103 rfl (lv_at hl 0 rfl) ?_
  refine lv_bipush (v := 64) hx hb dX9_init_104 (by decide) ?_
  refine lv_icmp_ge (tgt := 125) hx hb dX9_init_106 (by decide) (fun hc => absurd hc (by decide)) (fun _ => ?_)
  refine lv_aload_n hx hb dX9_init_109 rfl (lv_at hl 1 rfl) ?_
  refine fx_getR X h (k := n + 0) (j := 3) (r := n + 4) ((ap_at hn 0).trans rfl) rfl fl_RX9_21 dX9_init_110 ?_
  refine lv_iload_n hx hb dX9_init_113 rfl (lv_at hl 0 rfl) ?_
  refine lv_iload_n hx hb dX9_init_114 rfl (lv_at hl 0 rfl) ?_
  refine lv_bipush (v := 8) hx hb dX9_init_115 (by decide) ?_
  refine lv_irem hx hb dX9_init_117 (by decide) ?_
  rw [show ((56 : Int32) - (56 : Int32) / (8 : Int32) * (8 : Int32)) = (0 : Int32) by decide]
  refine fx_iast X h (k := n + 4) (i := (56 : Int32)) ((ap_at hn 4).trans rfl) (by unfold vp_in; decide) dX9_init_118 (fun H locs h => ?_)
  rw [show ((56 : Int32)).toNatClampNeg = 56 by decide] at h
  obtain ⟨M62, eM62⟩ : ∃ z : Mm, z = m_up M61 (n + 4) 56 (0 : Int32) := ⟨_, rfl⟩
  rw [← eM62] at h
  have h0 : ∀ a, n + 10 ≤ a → M62 a = fun _ => 0 := fun a ha => by rw [eM62, m_up_ne (by omega)]; exact h0 a (by omega)
  refine lv_iinc (v := 57) (lv' := [(1, .int (57 : Int32)), (0, .ref (G.2.2.2 + (n + 0)))]) hx hb dX9_init_119 hl (k := 0) rfl (by decide) (by decide) rfl (fun ls hl => ?_)
  refine lv_goto (tgt := 103) hx hb dX9_init_122 (by decide) ?_
  refine lv_iload_n hx hb dX9_init_103 rfl (lv_at hl 0 rfl) ?_
  refine lv_bipush (v := 64) hx hb dX9_init_104 (by decide) ?_
  refine lv_icmp_ge (tgt := 125) hx hb dX9_init_106 (by decide) (fun hc => absurd hc (by decide)) (fun _ => ?_)
  refine lv_aload_n hx hb dX9_init_109 rfl (lv_at hl 1 rfl) ?_
  refine fx_getR X h (k := n + 0) (j := 3) (r := n + 4) ((ap_at hn 0).trans rfl) rfl fl_RX9_21 dX9_init_110 ?_
  refine lv_iload_n hx hb dX9_init_113 rfl (lv_at hl 0 rfl) ?_
  refine lv_iload_n hx hb dX9_init_114 rfl (lv_at hl 0 rfl) ?_
  refine lv_bipush (v := 8) hx hb dX9_init_115 (by decide) ?_
  refine lv_irem hx hb dX9_init_117 (by decide) ?_
  rw [show ((57 : Int32) - (57 : Int32) / (8 : Int32) * (8 : Int32)) = (1 : Int32) by decide]
  refine fx_iast X h (k := n + 4) (i := (57 : Int32)) ((ap_at hn 4).trans rfl) (by unfold vp_in; decide) dX9_init_118 (fun H locs h => ?_)
  rw [show ((57 : Int32)).toNatClampNeg = 57 by decide] at h
  obtain ⟨M63, eM63⟩ : ∃ z : Mm, z = m_up M62 (n + 4) 57 (1 : Int32) := ⟨_, rfl⟩
  rw [← eM63] at h
  have h0 : ∀ a, n + 10 ≤ a → M63 a = fun _ => 0 := fun a ha => by rw [eM63, m_up_ne (by omega)]; exact h0 a (by omega)
  refine lv_iinc (v := 58) (lv' := [(1, .int (58 : Int32)), (0, .ref (G.2.2.2 + (n + 0)))]) hx hb dX9_init_119 hl (k := 0) rfl (by decide) (by decide) rfl (fun ls hl => ?_)
  refine lv_goto (tgt := 103) hx hb dX9_init_122 (by decide) ?_
  refine lv_iload_n hx hb dX9_init_103 rfl (lv_at hl 0 rfl) ?_
  refine lv_bipush (v := 64) hx hb dX9_init_104 (by decide) ?_
  refine lv_icmp_ge (tgt := 125) hx hb dX9_init_106 (by decide) (fun hc => absurd hc (by decide)) (fun _ => ?_)
  refine lv_aload_n hx hb dX9_init_109 rfl (lv_at hl 1 rfl) ?_
  refine fx_getR X h (k := n + 0) (j := 3) (r := n + 4) ((ap_at hn 0).trans rfl) rfl fl_RX9_21 dX9_init_110 ?_
  refine lv_iload_n hx hb dX9_init_113 rfl (lv_at hl 0 rfl) ?_
  refine lv_iload_n hx hb dX9_init_114 rfl (lv_at hl 0 rfl) ?_
  refine lv_bipush (v := 8) hx hb dX9_init_115 (by decide) ?_
  refine lv_irem hx hb dX9_init_117 (by decide) ?_
  rw [show ((58 : Int32) - (58 : Int32) / (8 : Int32) * (8 : Int32)) = (2 : Int32) by decide]
  refine fx_iast X h (k := n + 4) (i := (58 : Int32)) ((ap_at hn 4).trans rfl) (by unfold vp_in; decide) dX9_init_118 (fun H locs h => ?_)
  rw [show ((58 : Int32)).toNatClampNeg = 58 by decide] at h
  obtain ⟨M64, eM64⟩ : ∃ z : Mm, z = m_up M63 (n + 4) 58 (2 : Int32) := ⟨_, rfl⟩
  rw [← eM64] at h
  have h0 : ∀ a, n + 10 ≤ a → M64 a = fun _ => 0 := fun a ha => by rw [eM64, m_up_ne (by omega)]; exact h0 a (by omega)
  refine lv_iinc (v := 59) (lv' := [(1, .int (59 : Int32)), (0, .ref (G.2.2.2 + (n + 0)))]) hx hb dX9_init_119 hl (k := 0) rfl (by decide) (by decide) rfl (fun ls hl => ?_)
  refine lv_goto (tgt := 103) hx hb dX9_init_122 (by decide) ?_
  refine lv_iload_n hx hb dX9_init_103 rfl (lv_at hl 0 rfl) ?_
  refine lv_bipush (v := 64) hx hb dX9_init_104 (by decide) ?_
  refine lv_icmp_ge (tgt := 125) hx hb dX9_init_106 (by decide) (fun hc => absurd hc (by decide)) (fun _ => ?_)
  refine lv_aload_n hx hb dX9_init_109 rfl (lv_at hl 1 rfl) ?_
  refine fx_getR X h (k := n + 0) (j := 3) (r := n + 4) ((ap_at hn 0).trans rfl) rfl fl_RX9_21 dX9_init_110 ?_
  refine lv_iload_n hx hb dX9_init_113 rfl (lv_at hl 0 rfl) ?_
  refine lv_iload_n hx hb dX9_init_114 rfl (lv_at hl 0 rfl) ?_
  refine lv_bipush (v := 8) hx hb dX9_init_115 (by decide) ?_
  refine lv_irem hx hb dX9_init_117 (by decide) ?_
  rw [show ((59 : Int32) - (59 : Int32) / (8 : Int32) * (8 : Int32)) = (3 : Int32) by decide]
  refine fx_iast X h (k := n + 4) (i := (59 : Int32)) ((ap_at hn 4).trans rfl) (by unfold vp_in; decide) dX9_init_118 (fun H locs h => ?_)
  rw [show ((59 : Int32)).toNatClampNeg = 59 by decide] at h
  obtain ⟨M65, eM65⟩ : ∃ z : Mm, z = m_up M64 (n + 4) 59 (3 : Int32) := ⟨_, rfl⟩
  rw [← eM65] at h
  have h0 : ∀ a, n + 10 ≤ a → M65 a = fun _ => 0 := fun a ha => by rw [eM65, m_up_ne (by omega)]; exact h0 a (by omega)
  refine lv_iinc (v := 60) (lv' := [(1, .int (60 : Int32)), (0, .ref (G.2.2.2 + (n + 0)))]) hx hb dX9_init_119 hl (k := 0) rfl (by decide) (by decide) rfl (fun ls hl => ?_)
  refine lv_goto (tgt := 103) hx hb dX9_init_122 (by decide) ?_
  refine lv_iload_n hx hb dX9_init_103 rfl (lv_at hl 0 rfl) ?_
  refine lv_bipush (v := 64) hx hb dX9_init_104 (by decide) ?_
  refine lv_icmp_ge (tgt := 125) hx hb dX9_init_106 (by decide) (fun hc => absurd hc (by decide)) (fun _ => ?_)
  refine lv_aload_n hx hb dX9_init_109 rfl (lv_at hl 1 rfl) ?_
  refine fx_getR X h (k := n + 0) (j := 3) (r := n + 4) ((ap_at hn 0).trans rfl) rfl fl_RX9_21 dX9_init_110 ?_
  refine lv_iload_n hx hb dX9_init_113 rfl (lv_at hl 0 rfl) ?_
  refine lv_iload_n hx hb dX9_init_114 rfl (lv_at hl 0 rfl) ?_
  refine lv_bipush (v := 8) hx hb dX9_init_115 (by decide) ?_
  refine lv_irem hx hb dX9_init_117 (by decide) ?_
  rw [show ((60 : Int32) - (60 : Int32) / (8 : Int32) * (8 : Int32)) = (4 : Int32) by decide]
  refine fx_iast X h (k := n + 4) (i := (60 : Int32)) ((ap_at hn 4).trans rfl) (by unfold vp_in; decide) dX9_init_118 (fun H locs h => ?_)
  rw [show ((60 : Int32)).toNatClampNeg = 60 by decide] at h
  obtain ⟨M66, eM66⟩ : ∃ z : Mm, z = m_up M65 (n + 4) 60 (4 : Int32) := ⟨_, rfl⟩
  rw [← eM66] at h
  have h0 : ∀ a, n + 10 ≤ a → M66 a = fun _ => 0 := fun a ha => by rw [eM66, m_up_ne (by omega)]; exact h0 a (by omega)
  refine lv_iinc (v := 61) (lv' := [(1, .int (61 : Int32)), (0, .ref (G.2.2.2 + (n + 0)))]) hx hb dX9_init_119 hl (k := 0) rfl (by decide) (by decide) rfl (fun ls hl => ?_)
  refine lv_goto (tgt := 103) hx hb dX9_init_122 (by decide) ?_
  refine lv_iload_n hx hb dX9_init_103 rfl (lv_at hl 0 rfl) ?_
  refine lv_bipush (v := 64) hx hb dX9_init_104 (by decide) ?_
  refine lv_icmp_ge (tgt := 125) hx hb dX9_init_106 (by decide) (fun hc => absurd hc (by decide)) (fun _ => ?_)
  refine lv_aload_n hx hb dX9_init_109 rfl (lv_at hl 1 rfl) ?_
  refine fx_getR X h (k := n + 0) (j := 3) (r := n + 4) ((ap_at hn 0).trans rfl) rfl fl_RX9_21 dX9_init_110 ?_
  refine lv_iload_n hx hb dX9_init_113 rfl (lv_at hl 0 rfl) ?_
  refine lv_iload_n hx hb dX9_init_114 rfl (lv_at hl 0 rfl) ?_
  refine lv_bipush (v := 8) hx hb dX9_init_115 (by decide) ?_
  refine lv_irem hx hb dX9_init_117 (by decide) ?_
  rw [show ((61 : Int32) - (61 : Int32) / (8 : Int32) * (8 : Int32)) = (5 : Int32) by decide]
  refine fx_iast X h (k := n + 4) (i := (61 : Int32)) ((ap_at hn 4).trans rfl) (by unfold vp_in; decide) dX9_init_118 (fun H locs h => ?_)
  rw [show ((61 : Int32)).toNatClampNeg = 61 by decide] at h
  obtain ⟨M67, eM67⟩ : ∃ z : Mm, z = m_up M66 (n + 4) 61 (5 : Int32) := ⟨_, rfl⟩
  rw [← eM67] at h
  have h0 : ∀ a, n + 10 ≤ a → M67 a = fun _ => 0 := fun a ha => by rw [eM67, m_up_ne (by omega)]; exact h0 a (by omega)
  refine lv_iinc (v := 62) (lv' := [(1, .int (62 : Int32)), (0, .ref (G.2.2.2 + (n + 0)))]) hx hb dX9_init_119 hl (k := 0) rfl (by decide) (by decide) rfl (fun ls hl => ?_)
  refine lv_goto (tgt := 103) hx hb dX9_init_122 (by decide) ?_
  refine lv_iload_n hx hb dX9_init_103 rfl (lv_at hl 0 rfl) ?_
  refine lv_bipush (v := 64) hx hb dX9_init_104 (by decide) ?_
  refine lv_icmp_ge (tgt := 125) hx hb dX9_init_106 (by decide) (fun hc => absurd hc (by decide)) (fun _ => ?_)
  refine lv_aload_n hx hb dX9_init_109 rfl (lv_at hl 1 rfl) ?_
  refine fx_getR X h (k := n + 0) (j := 3) (r := n + 4) ((ap_at hn 0).trans rfl) rfl fl_RX9_21 dX9_init_110 ?_
  refine lv_iload_n hx hb dX9_init_113 rfl (lv_at hl 0 rfl) ?_
  refine lv_iload_n hx hb dX9_init_114 rfl (lv_at hl 0 rfl) ?_
  refine lv_bipush (v := 8) hx hb dX9_init_115 (by decide) ?_
  refine lv_irem hx hb dX9_init_117 (by decide) ?_
  rw [show ((62 : Int32) - (62 : Int32) / (8 : Int32) * (8 : Int32)) = (6 : Int32) by decide]
  refine fx_iast X h (k := n + 4) (i := (62 : Int32)) ((ap_at hn 4).trans rfl) (by unfold vp_in; decide) dX9_init_118 (fun H locs h => ?_)
  rw [show ((62 : Int32)).toNatClampNeg = 62 by decide] at h
  obtain ⟨M68, eM68⟩ : ∃ z : Mm, z = m_up M67 (n + 4) 62 (6 : Int32) := ⟨_, rfl⟩
  rw [← eM68] at h
  have h0 : ∀ a, n + 10 ≤ a → M68 a = fun _ => 0 := fun a ha => by rw [eM68, m_up_ne (by omega)]; exact h0 a (by omega)
  refine lv_iinc (v := 63) (lv' := [(1, .int (63 : Int32)), (0, .ref (G.2.2.2 + (n + 0)))]) hx hb dX9_init_119 hl (k := 0) rfl (by decide) (by decide) rfl (fun ls hl => ?_)
  refine lv_goto (tgt := 103) hx hb dX9_init_122 (by decide) ?_
  refine lv_iload_n hx hb dX9_init_103 rfl (lv_at hl 0 rfl) ?_
  refine lv_bipush (v := 64) hx hb dX9_init_104 (by decide) ?_
  refine lv_icmp_ge (tgt := 125) hx hb dX9_init_106 (by decide) (fun hc => absurd hc (by decide)) (fun _ => ?_)
  refine lv_aload_n hx hb dX9_init_109 rfl (lv_at hl 1 rfl) ?_
  refine fx_getR X h (k := n + 0) (j := 3) (r := n + 4) ((ap_at hn 0).trans rfl) rfl fl_RX9_21 dX9_init_110 ?_
  refine lv_iload_n hx hb dX9_init_113 rfl (lv_at hl 0 rfl) ?_
  refine lv_iload_n hx hb dX9_init_114 rfl (lv_at hl 0 rfl) ?_
  refine lv_bipush (v := 8) hx hb dX9_init_115 (by decide) ?_
  refine lv_irem hx hb dX9_init_117 (by decide) ?_
  rw [show ((63 : Int32) - (63 : Int32) / (8 : Int32) * (8 : Int32)) = (7 : Int32) by decide]
  refine fx_iast X h (k := n + 4) (i := (63 : Int32)) ((ap_at hn 4).trans rfl) (by unfold vp_in; decide) dX9_init_118 (fun H locs h => ?_)
  rw [show ((63 : Int32)).toNatClampNeg = 63 by decide] at h
  obtain ⟨M69, eM69⟩ : ∃ z : Mm, z = m_up M68 (n + 4) 63 (7 : Int32) := ⟨_, rfl⟩
  rw [← eM69] at h
  have h0 : ∀ a, n + 10 ≤ a → M69 a = fun _ => 0 := fun a ha => by rw [eM69, m_up_ne (by omega)]; exact h0 a (by omega)
  refine lv_iinc (v := 64) (lv' := [(1, .int (64 : Int32)), (0, .ref (G.2.2.2 + (n + 0)))]) hx hb dX9_init_119 hl (k := 0) rfl (by decide) (by decide) rfl (fun ls hl => ?_)
  refine lv_goto (tgt := 103) hx hb dX9_init_122 (by decide) ?_
  refine lv_iload_n hx hb dX9_init_103 rfl (lv_at hl 0 rfl) ?_
  refine lv_bipush (v := 64) hx hb dX9_init_104 (by decide) ?_
  refine lv_icmp_ge (tgt := 125) hx hb dX9_init_106 (by decide) (fun _ => ?_) (fun hc => absurd (by decide) hc)
  exact cy_ret X hr hk h (Prod.ext_iff.mpr ⟨rfl, by rw [eM69, eM68, eM67, eM66, eM65, eM64, eM63, eM62, eM61, eM60, eM59, eM58, eM57, eM56, eM55, eM54, eM53, eM52, eM51, eM50, eM49, eM48, eM47, eM46, eM45, eM44, eM43, eM42, eM41, eM40, eM39, eM38, eM37, eM36, eM35, eM34, eM33, eM32, eM31, eM30, eM29, eM28, eM27, eM26, eM25, eM24, eM23, eM22, eM21, eM20, eM19, eM18, eM17, eM16, eM15, eM14, eM13, eM12, eM11, eM10, eM9, eM8, eM7, eM6, eM5, eM4, eM3, eM2, eM1]; rfl⟩) dX9_init_125
theorem dX0_init_0 : decode cX0_init 0 = .ok (.aload_n 0, 1) := by decide +kernel
theorem dX0_init_1 : decode cX0_init 1 = .ok (.invokespecial 3, 3) := by decide +kernel
theorem dX0_init_4 : decode cX0_init 4 = .ok (.aload_n 0, 1) := by decide +kernel
theorem dX0_init_5 : decode cX0_init 5 = .ok (.iconst (-1), 1) := by decide +kernel
theorem dX0_init_6 : decode cX0_init 6 = .ok (.putfield 9, 3) := by decide +kernel
theorem dX0_init_9 : decode cX0_init 9 = .ok (.aload_n 0, 1) := by decide +kernel
theorem dX0_init_10 : decode cX0_init 10 = .ok (.iconst 0, 1) := by decide +kernel
theorem dX0_init_11 : decode cX0_init 11 = .ok (.putfield 15, 3) := by decide +kernel
theorem dX0_init_14 : decode cX0_init 14 = .ok (.aload_n 0, 1) := by decide +kernel
theorem dX0_init_15 : decode cX0_init 15 = .ok (.iconst 0, 1) := by decide +kernel
theorem dX0_init_16 : decode cX0_init 16 = .ok (.putfield 18, 3) := by decide +kernel
theorem dX0_init_19 : decode cX0_init 19 = .ok (.aload_n 0, 1) := by decide +kernel
theorem dX0_init_20 : decode cX0_init 20 = .ok (.aload_n 1, 1) := by decide +kernel
theorem dX0_init_21 : decode cX0_init 21 = .ok (.getfield 21, 3) := by decide +kernel
theorem dX0_init_24 : decode cX0_init 24 = .ok (.putfield 27, 3) := by decide +kernel
theorem dX0_init_27 : decode cX0_init 27 = .ok (.aload_n 0, 1) := by decide +kernel
theorem dX0_init_28 : decode cX0_init 28 = .ok (.aload_n 1, 1) := by decide +kernel
theorem dX0_init_29 : decode cX0_init 29 = .ok (.getfield 28, 3) := by decide +kernel
theorem dX0_init_32 : decode cX0_init 32 = .ok (.putfield 32, 3) := by decide +kernel
theorem dX0_init_35 : decode cX0_init 35 = .ok (.aload_n 0, 1) := by decide +kernel
theorem dX0_init_36 : decode cX0_init 36 = .ok (.aload_n 1, 1) := by decide +kernel
theorem dX0_init_37 : decode cX0_init 37 = .ok (.getfield 33, 3) := by decide +kernel
theorem dX0_init_40 : decode cX0_init 40 = .ok (.putfield 37, 3) := by decide +kernel
theorem dX0_init_43 : decode cX0_init 43 = .ok (.aload_n 0, 1) := by decide +kernel
theorem dX0_init_44 : decode cX0_init 44 = .ok (.aload_n 1, 1) := by decide +kernel
theorem dX0_init_45 : decode cX0_init 45 = .ok (.getfield 38, 3) := by decide +kernel
theorem dX0_init_48 : decode cX0_init 48 = .ok (.putfield 42, 3) := by decide +kernel
theorem dX0_init_51 : decode cX0_init 51 = .ok (.aload_n 0, 1) := by decide +kernel
theorem dX0_init_52 : decode cX0_init 52 = .ok (.aload_n 2, 1) := by decide +kernel
theorem dX0_init_53 : decode cX0_init 53 = .ok (.putfield 43, 3) := by decide +kernel
theorem dX0_init_56 : decode cX0_init 56 = .ok (.aload_n 0, 1) := by decide +kernel
theorem dX0_init_57 : decode cX0_init 57 = .ok (.iload_n 3, 1) := by decide +kernel
theorem dX0_init_58 : decode cX0_init 58 = .ok (.putfield 47, 3) := by decide +kernel
theorem dX0_init_61 : decode cX0_init 61 = .ok (.return_, 1) := by decide +kernel
def CM_Auction (x3 : Int32) (n : Nat) (M : Mm) : Mm := (m_up (m_up (m_up (m_up M (n + 0) 6 (-1 : Int32)) (n + 0) 7 (0 : Int32)) (n + 0) 8 (0 : Int32)) (n + 0) 5 x3)
set_option maxRecDepth 100000 in
theorem cz_Auction (n : Nat) (M : Mm) (a : Nat) (x3 : Int32) (h : n + 1 ≤ a) : CM_Auction x3 n M a = M a := by
  unfold CM_Auction
  rw [m_up_ne (by omega), m_up_ne (by omega), m_up_ne (by omega), m_up_ne (by omega)]
set_option maxHeartbeats 4000000 in
set_option maxRecDepth 100000 in
theorem ci_Auction (l : Launch) (G : fx_G) {S0 : List fx_S} {n : Nat} {M : Mm} (hn : S0.length = n) (h0 : ∀ a, n ≤ a → M a = fun _ => 0) {w q : Nat} {x3 : Int32} {w1 w2 w3 w4 w5 w6 : Nat} (hw : S0[w]? = some (.inr (.inr (10, [w1 + 2, w2 + 2, w3 + 2, w4 + 2, w5 + 2, w6 + 2])))) (hx3 : x3 = 0 ∨ x3 = 1) : Met l yX0_init (fx_ws yX0_init cX0_init 4 none) (cx_rm 1 0 0) (va_Pc [.ref (G.2.2.2 + (n + 0)), .ref (G.2.2.2 + w), .ref (G.2.2.2 + q), .int x3] (cx_P G (S0 ++ [.inr (.inr (0, [1, 1, 1, 1, 1, 0, 0, 0, 0]))]) M)) (va_Qv (fun u => u = (S0 ++ [.inr (.inr (0, [w1 + 2, w4 + 2, w5 + 2, w3 + 2, q + 2, 0, 0, 0, 0]))], CM_Auction x3 n M)) (cx_R G) (fx_A G)) 0 0 (fx_A G) := by
  refine cy_met (own := RX0) (by decide +kernel) rfl rfl (Nat.le_of_ble_eq_true rfl) (fun p e s m below meth c X hr hk hin hO h hsz ls hl => ?_)
  obtain ⟨⟨hx, hb, hml, hown, hts⟩, hK, hQ⟩ := id X
  have hsz : s.heap.size = G.2.2.2 + (n + 1) := by rw [hsz, List.length_append, hn]; rfl
  have hz : G.2.2.2 ≤ s.heap.size := by omega
  have h0 : ∀ a, n + 1 ≤ a → M a = fun _ => 0 := fun a ha => h0 a (by omega)
  have hl : lv_has ls 4 [(0, .ref (G.2.2.2 + (n + 0))), (1, .ref (G.2.2.2 + w)), (2, .ref (G.2.2.2 + q)), (3, .int x3)] := hl
  refine lv_aload_n hx hb dX0_init_0 rfl (lv_at hl 0 rfl) ?_
  refine W.objInit hx hb hown (hts _ (fx_s2 (List.mem_of_getElem? (i := 126) rfl) rfl)) (hts _ (fx_s1 (List.mem_of_getElem? (i := 27) rfl) rfl)) (hts _ ob_c) rfl (by rw [hml]; exact hl.1) rfl dX0_init_1 (Nat.le_of_ble_eq_true rfl) (Nat.le_of_ble_eq_true rfl) ?_
  refine W.eq (g2 := F0 m 4 ls []) rfl ?_
  refine lv_aload_n hx hb dX0_init_4 rfl (lv_at hl 0 rfl) ?_
  refine lv_iconst (v := -1) hx hb dX0_init_5 (by decide) ?_
  refine fx_putI X h (k := n + 0) (j := 6) ((ap_at hn 0).trans rfl) rfl fl_RX0_9 dX0_init_6 (fun H locs h => ?_)
  obtain ⟨M1, eM1⟩ : ∃ z : Mm, z = m_up M (n + 0) 6 (-1 : Int32) := ⟨_, rfl⟩
  rw [← eM1] at h
  have h0 : ∀ a, n + 1 ≤ a → M1 a = fun _ => 0 := fun a ha => by rw [eM1, m_up_ne (by omega)]; exact h0 a (by omega)
  refine lv_aload_n hx hb dX0_init_9 rfl (lv_at hl 0 rfl) ?_
  refine lv_iconst (v := 0) hx hb dX0_init_10 (by decide) ?_
  refine fx_putI X h (k := n + 0) (j := 7) ((ap_at hn 0).trans rfl) rfl fl_RX0_15 dX0_init_11 (fun H locs h => ?_)
  obtain ⟨M2, eM2⟩ : ∃ z : Mm, z = m_up M1 (n + 0) 7 (0 : Int32) := ⟨_, rfl⟩
  rw [← eM2] at h
  have h0 : ∀ a, n + 1 ≤ a → M2 a = fun _ => 0 := fun a ha => by rw [eM2, m_up_ne (by omega)]; exact h0 a (by omega)
  refine lv_aload_n hx hb dX0_init_14 rfl (lv_at hl 0 rfl) ?_
  refine lv_iconst (v := 0) hx hb dX0_init_15 (by decide) ?_
  refine fx_putI X h (k := n + 0) (j := 8) ((ap_at hn 0).trans rfl) rfl fl_RX0_18 dX0_init_16 (fun H locs h => ?_)
  obtain ⟨M3, eM3⟩ : ∃ z : Mm, z = m_up M2 (n + 0) 8 (0 : Int32) := ⟨_, rfl⟩
  rw [← eM3] at h
  have h0 : ∀ a, n + 1 ≤ a → M3 a = fun _ => 0 := fun a ha => by rw [eM3, m_up_ne (by omega)]; exact h0 a (by omega)
  refine lv_aload_n hx hb dX0_init_19 rfl (lv_at hl 0 rfl) ?_
  refine lv_aload_n hx hb dX0_init_20 rfl (lv_at hl 1 rfl) ?_
  refine fx_getR X h (k := w) (j := 0) (r := w1) ((List.getElem?_append_left (List.getElem?_eq_some_iff.mp hw).1).trans hw) rfl fl_RX0_21 dX0_init_21 ?_
  refine cx_putR (k := n + 0) (j := 0) (r := w1) (ty := .object "MockParcels$Cast") X hin h ((ap_at hn 0).trans rfl) fl_RX0_27 (Nat.le_of_ble_eq_true rfl) (fun C T N q => by cases q; rfl) (by decide +kernel) rfl rfl dX0_init_24 (fun H locs h => ?_)
  rw [ap_set hn 0] at h
  have h : fx_H G (S0 ++ [.inr (.inr (0, [w1 + 2, 1, 1, 1, 1, 0, 0, 0, 0]))]) M3 s H locs := h
  refine lv_aload_n hx hb dX0_init_27 rfl (lv_at hl 0 rfl) ?_
  refine lv_aload_n hx hb dX0_init_28 rfl (lv_at hl 1 rfl) ?_
  refine fx_getR X h (k := w) (j := 3) (r := w4) ((List.getElem?_append_left (List.getElem?_eq_some_iff.mp hw).1).trans hw) rfl fl_RX0_28 dX0_init_29 ?_
  refine cx_putR (k := n + 0) (j := 1) (r := w4) (ty := .object "MockParcels$Law") X hin h ((ap_at hn 0).trans rfl) fl_RX0_32 (Nat.le_of_ble_eq_true rfl) (fun C T N q => by cases q; rfl) (by decide +kernel) rfl rfl dX0_init_32 (fun H locs h => ?_)
  rw [ap_set hn 0] at h
  have h : fx_H G (S0 ++ [.inr (.inr (0, [w1 + 2, w4 + 2, 1, 1, 1, 0, 0, 0, 0]))]) M3 s H locs := h
  refine lv_aload_n hx hb dX0_init_35 rfl (lv_at hl 0 rfl) ?_
  refine lv_aload_n hx hb dX0_init_36 rfl (lv_at hl 1 rfl) ?_
  refine fx_getR X h (k := w) (j := 4) (r := w5) ((List.getElem?_append_left (List.getElem?_eq_some_iff.mp hw).1).trans hw) rfl fl_RX0_33 dX0_init_37 ?_
  refine cx_putR (k := n + 0) (j := 2) (r := w5) (ty := .object "MockParcels$Plans") X hin h ((ap_at hn 0).trans rfl) fl_RX0_37 (Nat.le_of_ble_eq_true rfl) (fun C T N q => by cases q; rfl) (by decide +kernel) rfl rfl dX0_init_40 (fun H locs h => ?_)
  rw [ap_set hn 0] at h
  have h : fx_H G (S0 ++ [.inr (.inr (0, [w1 + 2, w4 + 2, w5 + 2, 1, 1, 0, 0, 0, 0]))]) M3 s H locs := h
  refine lv_aload_n hx hb dX0_init_43 rfl (lv_at hl 0 rfl) ?_
  refine lv_aload_n hx hb dX0_init_44 rfl (lv_at hl 1 rfl) ?_
  refine fx_getR X h (k := w) (j := 2) (r := w3) ((List.getElem?_append_left (List.getElem?_eq_some_iff.mp hw).1).trans hw) rfl fl_RX0_38 dX0_init_45 ?_
  refine cx_putR (k := n + 0) (j := 3) (r := w3) (ty := .array .int) X hin h ((ap_at hn 0).trans rfl) fl_RX0_42 (Nat.le_of_ble_eq_true rfl) (fun C T N q => by cases q; rfl) (by decide +kernel) rfl rfl dX0_init_48 (fun H locs h => ?_)
  rw [ap_set hn 0] at h
  have h : fx_H G (S0 ++ [.inr (.inr (0, [w1 + 2, w4 + 2, w5 + 2, w3 + 2, 1, 0, 0, 0, 0]))]) M3 s H locs := h
  refine lv_aload_n hx hb dX0_init_51 rfl (lv_at hl 0 rfl) ?_
  refine lv_aload_n hx hb dX0_init_52 rfl (lv_at hl 2 rfl) ?_
  refine cx_putR (k := n + 0) (j := 4) (r := q) (ty := .object "MockParcels$Quay") X hin h ((ap_at hn 0).trans rfl) fl_RX0_43 (Nat.le_of_ble_eq_true rfl) (fun C T N q => by cases q; rfl) (by decide +kernel) rfl rfl dX0_init_53 (fun H locs h => ?_)
  rw [ap_set hn 0] at h
  have h : fx_H G (S0 ++ [.inr (.inr (0, [w1 + 2, w4 + 2, w5 + 2, w3 + 2, q + 2, 0, 0, 0, 0]))]) M3 s H locs := h
  refine lv_aload_n hx hb dX0_init_56 rfl (lv_at hl 0 rfl) ?_
  refine lv_iload_n hx hb dX0_init_57 rfl (lv_at hl 3 rfl) ?_
  refine cx_putZF (k := n + 0) (j := 5) X hin h hx3 ((ap_at hn 0).trans rfl) rfl fl_RX0_47 (fun C T N q => by cases q; rfl) dX0_init_58 (fun H locs h => ?_)
  obtain ⟨M4, eM4⟩ : ∃ z : Mm, z = m_up M3 (n + 0) 5 x3 := ⟨_, rfl⟩
  rw [← eM4] at h
  have h0 : ∀ a, n + 1 ≤ a → M4 a = fun _ => 0 := fun a ha => by rw [eM4, m_up_ne (by omega)]; exact h0 a (by omega)
  exact cy_ret X hr hk h (Prod.ext_iff.mpr ⟨rfl, by rw [eM4, eM3, eM2, eM1]; rfl⟩) dX0_init_61
theorem dX7_init_0 : decode cX7_init 0 = .ok (.aload_n 0, 1) := by decide +kernel
theorem dX7_init_1 : decode cX7_init 1 = .ok (.invokespecial 3, 3) := by decide +kernel
theorem dX7_init_4 : decode cX7_init 4 = .ok (.aload_n 0, 1) := by decide +kernel
theorem dX7_init_5 : decode cX7_init 5 = .ok (.sipush 400, 3) := by decide +kernel
theorem dX7_init_8 : decode cX7_init 8 = .ok (.newarray .int, 2) := by decide +kernel
theorem dX7_init_10 : decode cX7_init 10 = .ok (.putfield 9, 3) := by decide +kernel
theorem dX7_init_13 : decode cX7_init 13 = .ok (.aload_n 0, 1) := by decide +kernel
theorem dX7_init_14 : decode cX7_init 14 = .ok (.iconst 0, 1) := by decide +kernel
theorem dX7_init_15 : decode cX7_init 15 = .ok (.putfield 15, 3) := by decide +kernel
theorem dX7_init_18 : decode cX7_init 18 = .ok (.aload_n 0, 1) := by decide +kernel
theorem dX7_init_19 : decode cX7_init 19 = .ok (.sipush 401, 3) := by decide +kernel
theorem dX7_init_22 : decode cX7_init 22 = .ok (.newarray .int, 2) := by decide +kernel
theorem dX7_init_24 : decode cX7_init 24 = .ok (.putfield 19, 3) := by decide +kernel
theorem dX7_init_27 : decode cX7_init 27 = .ok (.aload_n 0, 1) := by decide +kernel
theorem dX7_init_28 : decode cX7_init 28 = .ok (.sipush 401, 3) := by decide +kernel
theorem dX7_init_31 : decode cX7_init 31 = .ok (.newarray .int, 2) := by decide +kernel
theorem dX7_init_33 : decode cX7_init 33 = .ok (.putfield 22, 3) := by decide +kernel
theorem dX7_init_36 : decode cX7_init 36 = .ok (.aload_n 0, 1) := by decide +kernel
theorem dX7_init_37 : decode cX7_init 37 = .ok (.iconst 0, 1) := by decide +kernel
theorem dX7_init_38 : decode cX7_init 38 = .ok (.putfield 25, 3) := by decide +kernel
theorem dX7_init_41 : decode cX7_init 41 = .ok (.aload_n 0, 1) := by decide +kernel
theorem dX7_init_42 : decode cX7_init 42 = .ok (.iconst 0, 1) := by decide +kernel
theorem dX7_init_43 : decode cX7_init 43 = .ok (.putfield 28, 3) := by decide +kernel
theorem dX7_init_46 : decode cX7_init 46 = .ok (.aload_n 0, 1) := by decide +kernel
theorem dX7_init_47 : decode cX7_init 47 = .ok (.iconst 0, 1) := by decide +kernel
theorem dX7_init_48 : decode cX7_init 48 = .ok (.putfield 31, 3) := by decide +kernel
theorem dX7_init_51 : decode cX7_init 51 = .ok (.aload_n 0, 1) := by decide +kernel
theorem dX7_init_52 : decode cX7_init 52 = .ok (.iconst 0, 1) := by decide +kernel
theorem dX7_init_53 : decode cX7_init 53 = .ok (.putfield 34, 3) := by decide +kernel
theorem dX7_init_56 : decode cX7_init 56 = .ok (.aload_n 0, 1) := by decide +kernel
theorem dX7_init_57 : decode cX7_init 57 = .ok (.iconst (-1), 1) := by decide +kernel
theorem dX7_init_58 : decode cX7_init 58 = .ok (.putfield 37, 3) := by decide +kernel
theorem dX7_init_61 : decode cX7_init 61 = .ok (.return_, 1) := by decide +kernel
def CM_Reader (n : Nat) (M : Mm) : Mm := (m_up (m_up (m_up (m_up (m_up (m_up M (n + 0) 1 (0 : Int32)) (n + 0) 4 (0 : Int32)) (n + 0) 5 (0 : Int32)) (n + 0) 6 (0 : Int32)) (n + 0) 7 (0 : Int32)) (n + 0) 8 (-1 : Int32))
set_option maxRecDepth 100000 in
theorem cz_Reader (n : Nat) (M : Mm) (a : Nat) (h : n + 4 ≤ a) : CM_Reader n M a = M a := by
  unfold CM_Reader
  rw [m_up_ne (by omega), m_up_ne (by omega), m_up_ne (by omega), m_up_ne (by omega), m_up_ne (by omega), m_up_ne (by omega)]
set_option maxHeartbeats 4000000 in
set_option maxRecDepth 100000 in
theorem ci_Reader (l : Launch) (G : fx_G) {S0 : List fx_S} {n : Nat} {M : Mm} (hn : S0.length = n) (h0 : ∀ a, n ≤ a → M a = fun _ => 0) : Met l yX7_init (fx_ws yX7_init cX7_init 1 none) (cx_rm 1 3 1202) (va_Pc [.ref (G.2.2.2 + (n + 0))] (cx_P G (S0 ++ [.inr (.inr (7, [1, 0, 1, 1, 0, 0, 0, 0, 0]))]) M)) (va_Qv (fun u => u = (S0 ++ [.inr (.inr (7, [n + 1 + 2, 0, n + 2 + 2, n + 3 + 2, 0, 0, 0, 0, 0])), .inl 400, .inl 401, .inl 401], CM_Reader n M)) (cx_R G) (fx_A G)) 3 1202 (fx_A G) := by
  refine cy_met (own := RX7) (by decide +kernel) rfl rfl (Nat.le_of_ble_eq_true rfl) (fun p e s m below meth c X hr hk hin hO h hsz ls hl => ?_)
  obtain ⟨⟨hx, hb, hml, hown, hts⟩, hK, hQ⟩ := id X
  have hsz : s.heap.size = G.2.2.2 + (n + 1) := by rw [hsz, List.length_append, hn]; rfl
  have hz : G.2.2.2 ≤ s.heap.size := by omega
  have h0 : ∀ a, n + 1 ≤ a → M a = fun _ => 0 := fun a ha => h0 a (by omega)
  have hl : lv_has ls 1 [(0, .ref (G.2.2.2 + (n + 0)))] := hl
  refine lv_aload_n hx hb dX7_init_0 rfl (lv_at hl 0 rfl) ?_
  refine W.objInit hx hb hown (hts _ (fx_s2 (List.mem_of_getElem? (i := 163) rfl) rfl)) (hts _ (fx_s1 (List.mem_of_getElem? (i := 27) rfl) rfl)) (hts _ ob_c) rfl (by rw [hml]; exact hl.1) rfl dX7_init_1 (Nat.le_of_ble_eq_true rfl) (Nat.le_of_ble_eq_true rfl) ?_
  refine W.eq (g2 := F0 m 4 ls []) rfl ?_
  refine lv_aload_n hx hb dX7_init_4 rfl (lv_at hl 0 rfl) ?_
  refine lv_sipush (v := 400) hx hb dX7_init_5 (by decide) ?_
  refine cy_newa (i0 := 1) (N := 400) hn rfl X h hz (by omega) (h0 _ (by omega)) ak_int (by decide) (by decide) (by decide) (Nat.le_of_ble_eq_true rfl) (Nat.le_of_ble_eq_true rfl) dX7_init_8 (fun H h => ?_)
  have h : fx_H G (S0 ++ [.inr (.inr (7, [1, 0, 1, 1, 0, 0, 0, 0, 0])), .inl 400]) M s H _ := h
  refine W.widen (k := 1) (n := 400) (by omega) (by omega) ?_
  refine cx_putR (k := n + 0) (j := 0) (r := n + 1) (ty := .array .int) X hin h ((ap_at hn 0).trans rfl) fl_RX7_9 (Nat.le_of_ble_eq_true rfl) (fun C T N q => by cases q; rfl) (by decide +kernel) rfl rfl dX7_init_10 (fun H locs h => ?_)
  rw [ap_set hn 0] at h
  have h : fx_H G (S0 ++ [.inr (.inr (7, [n + 1 + 2, 0, 1, 1, 0, 0, 0, 0, 0])), .inl 400]) M s H locs := h
  refine lv_aload_n hx hb dX7_init_13 rfl (lv_at hl 0 rfl) ?_
  refine lv_iconst (v := 0) hx hb dX7_init_14 (by decide) ?_
  refine fx_putI X h (k := n + 0) (j := 1) ((ap_at hn 0).trans rfl) rfl fl_RX7_15 dX7_init_15 (fun H locs h => ?_)
  obtain ⟨M1, eM1⟩ : ∃ z : Mm, z = m_up M (n + 0) 1 (0 : Int32) := ⟨_, rfl⟩
  rw [← eM1] at h
  have h0 : ∀ a, n + 2 ≤ a → M1 a = fun _ => 0 := fun a ha => by rw [eM1, m_up_ne (by omega)]; exact h0 a (by omega)
  refine lv_aload_n hx hb dX7_init_18 rfl (lv_at hl 0 rfl) ?_
  refine lv_sipush (v := 401) hx hb dX7_init_19 (by decide) ?_
  refine cy_newa (i0 := 2) (N := 401) hn rfl X h hz (by omega) (h0 _ (by omega)) ak_int (by decide) (by decide) (by decide) (Nat.le_of_ble_eq_true rfl) (Nat.le_of_ble_eq_true rfl) dX7_init_22 (fun H h => ?_)
  have h : fx_H G (S0 ++ [.inr (.inr (7, [n + 1 + 2, 0, 1, 1, 0, 0, 0, 0, 0])), .inl 400, .inl 401]) M1 s H _ := h
  refine W.widen (k := 2) (n := 801) (by omega) (by omega) ?_
  refine cx_putR (k := n + 0) (j := 2) (r := n + 2) (ty := .array .int) X hin h ((ap_at hn 0).trans rfl) fl_RX7_19 (Nat.le_of_ble_eq_true rfl) (fun C T N q => by cases q; rfl) (by decide +kernel) rfl rfl dX7_init_24 (fun H locs h => ?_)
  rw [ap_set hn 0] at h
  have h : fx_H G (S0 ++ [.inr (.inr (7, [n + 1 + 2, 0, n + 2 + 2, 1, 0, 0, 0, 0, 0])), .inl 400, .inl 401]) M1 s H locs := h
  refine lv_aload_n hx hb dX7_init_27 rfl (lv_at hl 0 rfl) ?_
  refine lv_sipush (v := 401) hx hb dX7_init_28 (by decide) ?_
  refine cy_newa (i0 := 3) (N := 401) hn rfl X h hz (by omega) (h0 _ (by omega)) ak_int (by decide) (by decide) (by decide) (Nat.le_of_ble_eq_true rfl) (Nat.le_of_ble_eq_true rfl) dX7_init_31 (fun H h => ?_)
  have h : fx_H G (S0 ++ [.inr (.inr (7, [n + 1 + 2, 0, n + 2 + 2, 1, 0, 0, 0, 0, 0])), .inl 400, .inl 401, .inl 401]) M1 s H _ := h
  refine W.widen (k := 3) (n := 1202) (by omega) (by omega) ?_
  refine cx_putR (k := n + 0) (j := 3) (r := n + 3) (ty := .array .int) X hin h ((ap_at hn 0).trans rfl) fl_RX7_22 (Nat.le_of_ble_eq_true rfl) (fun C T N q => by cases q; rfl) (by decide +kernel) rfl rfl dX7_init_33 (fun H locs h => ?_)
  rw [ap_set hn 0] at h
  have h : fx_H G (S0 ++ [.inr (.inr (7, [n + 1 + 2, 0, n + 2 + 2, n + 3 + 2, 0, 0, 0, 0, 0])), .inl 400, .inl 401, .inl 401]) M1 s H locs := h
  refine lv_aload_n hx hb dX7_init_36 rfl (lv_at hl 0 rfl) ?_
  refine lv_iconst (v := 0) hx hb dX7_init_37 (by decide) ?_
  refine fx_putI X h (k := n + 0) (j := 4) ((ap_at hn 0).trans rfl) rfl fl_RX7_25 dX7_init_38 (fun H locs h => ?_)
  obtain ⟨M2, eM2⟩ : ∃ z : Mm, z = m_up M1 (n + 0) 4 (0 : Int32) := ⟨_, rfl⟩
  rw [← eM2] at h
  have h0 : ∀ a, n + 4 ≤ a → M2 a = fun _ => 0 := fun a ha => by rw [eM2, m_up_ne (by omega)]; exact h0 a (by omega)
  refine lv_aload_n hx hb dX7_init_41 rfl (lv_at hl 0 rfl) ?_
  refine lv_iconst (v := 0) hx hb dX7_init_42 (by decide) ?_
  refine fx_putI X h (k := n + 0) (j := 5) ((ap_at hn 0).trans rfl) rfl fl_RX7_28 dX7_init_43 (fun H locs h => ?_)
  obtain ⟨M3, eM3⟩ : ∃ z : Mm, z = m_up M2 (n + 0) 5 (0 : Int32) := ⟨_, rfl⟩
  rw [← eM3] at h
  have h0 : ∀ a, n + 4 ≤ a → M3 a = fun _ => 0 := fun a ha => by rw [eM3, m_up_ne (by omega)]; exact h0 a (by omega)
  refine lv_aload_n hx hb dX7_init_46 rfl (lv_at hl 0 rfl) ?_
  refine lv_iconst (v := 0) hx hb dX7_init_47 (by decide) ?_
  refine fx_putI X h (k := n + 0) (j := 6) ((ap_at hn 0).trans rfl) rfl fl_RX7_31 dX7_init_48 (fun H locs h => ?_)
  obtain ⟨M4, eM4⟩ : ∃ z : Mm, z = m_up M3 (n + 0) 6 (0 : Int32) := ⟨_, rfl⟩
  rw [← eM4] at h
  have h0 : ∀ a, n + 4 ≤ a → M4 a = fun _ => 0 := fun a ha => by rw [eM4, m_up_ne (by omega)]; exact h0 a (by omega)
  refine lv_aload_n hx hb dX7_init_51 rfl (lv_at hl 0 rfl) ?_
  refine lv_iconst (v := 0) hx hb dX7_init_52 (by decide) ?_
  refine fx_putI X h (k := n + 0) (j := 7) ((ap_at hn 0).trans rfl) rfl fl_RX7_34 dX7_init_53 (fun H locs h => ?_)
  obtain ⟨M5, eM5⟩ : ∃ z : Mm, z = m_up M4 (n + 0) 7 (0 : Int32) := ⟨_, rfl⟩
  rw [← eM5] at h
  have h0 : ∀ a, n + 4 ≤ a → M5 a = fun _ => 0 := fun a ha => by rw [eM5, m_up_ne (by omega)]; exact h0 a (by omega)
  refine lv_aload_n hx hb dX7_init_56 rfl (lv_at hl 0 rfl) ?_
  refine lv_iconst (v := -1) hx hb dX7_init_57 (by decide) ?_
  refine fx_putI X h (k := n + 0) (j := 8) ((ap_at hn 0).trans rfl) rfl fl_RX7_37 dX7_init_58 (fun H locs h => ?_)
  obtain ⟨M6, eM6⟩ : ∃ z : Mm, z = m_up M5 (n + 0) 8 (-1 : Int32) := ⟨_, rfl⟩
  rw [← eM6] at h
  have h0 : ∀ a, n + 4 ≤ a → M6 a = fun _ => 0 := fun a ha => by rw [eM6, m_up_ne (by omega)]; exact h0 a (by omega)
  exact cy_ret X hr hk h (Prod.ext_iff.mpr ⟨rfl, by rw [eM6, eM5, eM4, eM3, eM2, eM1]; rfl⟩) dX7_init_61
theorem dX8_init_0 : decode cX8_init 0 = .ok (.aload_n 0, 1) := by decide +kernel
theorem dX8_init_1 : decode cX8_init 1 = .ok (.invokespecial 5, 3) := by decide +kernel
theorem dX8_init_4 : decode cX8_init 4 = .ok (.aload_n 0, 1) := by decide +kernel
theorem dX8_init_5 : decode cX8_init 5 = .ok (.sipush 1000, 3) := by decide +kernel
theorem dX8_init_8 : decode cX8_init 8 = .ok (.newarray .int, 2) := by decide +kernel
theorem dX8_init_10 : decode cX8_init 10 = .ok (.putfield 11, 3) := by decide +kernel
theorem dX8_init_13 : decode cX8_init 13 = .ok (.aload_n 0, 1) := by decide +kernel
theorem dX8_init_14 : decode cX8_init 14 = .ok (.sipush 1000, 3) := by decide +kernel
theorem dX8_init_17 : decode cX8_init 17 = .ok (.newarray .int, 2) := by decide +kernel
theorem dX8_init_19 : decode cX8_init 19 = .ok (.putfield 15, 3) := by decide +kernel
theorem dX8_init_22 : decode cX8_init 22 = .ok (.aload_n 0, 1) := by decide +kernel
theorem dX8_init_23 : decode cX8_init 23 = .ok (.bipush 8, 2) := by decide +kernel
theorem dX8_init_25 : decode cX8_init 25 = .ok (.newarray .int, 2) := by decide +kernel
theorem dX8_init_27 : decode cX8_init 27 = .ok (.putfield 18, 3) := by decide +kernel
theorem dX8_init_30 : decode cX8_init 30 = .ok (.aload_n 0, 1) := by decide +kernel
theorem dX8_init_31 : decode cX8_init 31 = .ok (.sipush 512, 3) := by decide +kernel
theorem dX8_init_34 : decode cX8_init 34 = .ok (.newarray .int, 2) := by decide +kernel
theorem dX8_init_36 : decode cX8_init 36 = .ok (.putfield 21, 3) := by decide +kernel
theorem dX8_init_39 : decode cX8_init 39 = .ok (.aload_n 0, 1) := by decide +kernel
theorem dX8_init_40 : decode cX8_init 40 = .ok (.sipush 1152, 3) := by decide +kernel
theorem dX8_init_43 : decode cX8_init 43 = .ok (.newarray .int, 2) := by decide +kernel
theorem dX8_init_45 : decode cX8_init 45 = .ok (.putfield 24, 3) := by decide +kernel
theorem dX8_init_48 : decode cX8_init 48 = .ok (.aload_n 0, 1) := by decide +kernel
theorem dX8_init_49 : decode cX8_init 49 = .ok (.bipush 16, 2) := by decide +kernel
theorem dX8_init_51 : decode cX8_init 51 = .ok (.newarray .int, 2) := by decide +kernel
theorem dX8_init_53 : decode cX8_init 53 = .ok (.putfield 27, 3) := by decide +kernel
theorem dX8_init_56 : decode cX8_init 56 = .ok (.aload_n 0, 1) := by decide +kernel
theorem dX8_init_57 : decode cX8_init 57 = .ok (.bipush 8, 2) := by decide +kernel
theorem dX8_init_59 : decode cX8_init 59 = .ok (.newarray .int, 2) := by decide +kernel
theorem dX8_init_61 : decode cX8_init 61 = .ok (.putfield 30, 3) := by decide +kernel
theorem dX8_init_64 : decode cX8_init 64 = .ok (.return_, 1) := by decide +kernel
def CM_Sums (n : Nat) (M : Mm) : Mm := M
set_option maxRecDepth 100000 in
theorem cz_Sums (n : Nat) (M : Mm) (a : Nat) (h : n + 8 ≤ a) : CM_Sums n M a = M a := by
  unfold CM_Sums
  rfl
set_option maxHeartbeats 4000000 in
set_option maxRecDepth 100000 in
theorem ci_Sums (l : Launch) (G : fx_G) {S0 : List fx_S} {n : Nat} {M : Mm} (hn : S0.length = n) (h0 : ∀ a, n ≤ a → M a = fun _ => 0) : Met l yX8_init (fx_ws yX8_init cX8_init 1 none) (cx_rm 1 7 3696) (va_Pc [.ref (G.2.2.2 + (n + 0))] (cx_P G (S0 ++ [.inr (.inr (8, [1, 1, 1, 1, 1, 1, 1]))]) M)) (va_Qv (fun u => u = (S0 ++ [.inr (.inr (8, [n + 1 + 2, n + 2 + 2, n + 3 + 2, n + 4 + 2, n + 5 + 2, n + 6 + 2, n + 7 + 2])), .inl 1000, .inl 1000, .inl 8, .inl 512, .inl 1152, .inl 16, .inl 8], CM_Sums n M)) (cx_R G) (fx_A G)) 7 3696 (fx_A G) := by
  refine cy_met (own := RX8) (by decide +kernel) rfl rfl (Nat.le_of_ble_eq_true rfl) (fun p e s m below meth c X hr hk hin hO h hsz ls hl => ?_)
  obtain ⟨⟨hx, hb, hml, hown, hts⟩, hK, hQ⟩ := id X
  have hsz : s.heap.size = G.2.2.2 + (n + 1) := by rw [hsz, List.length_append, hn]; rfl
  have hz : G.2.2.2 ≤ s.heap.size := by omega
  have h0 : ∀ a, n + 1 ≤ a → M a = fun _ => 0 := fun a ha => h0 a (by omega)
  have hl : lv_has ls 1 [(0, .ref (G.2.2.2 + (n + 0)))] := hl
  refine lv_aload_n hx hb dX8_init_0 rfl (lv_at hl 0 rfl) ?_
  refine W.objInit hx hb hown (hts _ (fx_s2 (List.mem_of_getElem? (i := 229) rfl) rfl)) (hts _ (fx_s1 (List.mem_of_getElem? (i := 27) rfl) rfl)) (hts _ ob_c) rfl (by rw [hml]; exact hl.1) rfl dX8_init_1 (Nat.le_of_ble_eq_true rfl) (Nat.le_of_ble_eq_true rfl) ?_
  refine W.eq (g2 := F0 m 4 ls []) rfl ?_
  refine lv_aload_n hx hb dX8_init_4 rfl (lv_at hl 0 rfl) ?_
  refine lv_sipush (v := 1000) hx hb dX8_init_5 (by decide) ?_
  refine cy_newa (i0 := 1) (N := 1000) hn rfl X h hz (by omega) (h0 _ (by omega)) ak_int (by decide) (by decide) (by decide) (Nat.le_of_ble_eq_true rfl) (Nat.le_of_ble_eq_true rfl) dX8_init_8 (fun H h => ?_)
  have h : fx_H G (S0 ++ [.inr (.inr (8, [1, 1, 1, 1, 1, 1, 1])), .inl 1000]) M s H _ := h
  refine W.widen (k := 1) (n := 1000) (by omega) (by omega) ?_
  refine cx_putR (k := n + 0) (j := 0) (r := n + 1) (ty := .array .int) X hin h ((ap_at hn 0).trans rfl) fl_RX8_11 (Nat.le_of_ble_eq_true rfl) (fun C T N q => by cases q; rfl) (by decide +kernel) rfl rfl dX8_init_10 (fun H locs h => ?_)
  rw [ap_set hn 0] at h
  have h : fx_H G (S0 ++ [.inr (.inr (8, [n + 1 + 2, 1, 1, 1, 1, 1, 1])), .inl 1000]) M s H locs := h
  refine lv_aload_n hx hb dX8_init_13 rfl (lv_at hl 0 rfl) ?_
  refine lv_sipush (v := 1000) hx hb dX8_init_14 (by decide) ?_
  refine cy_newa (i0 := 2) (N := 1000) hn rfl X h hz (by omega) (h0 _ (by omega)) ak_int (by decide) (by decide) (by decide) (Nat.le_of_ble_eq_true rfl) (Nat.le_of_ble_eq_true rfl) dX8_init_17 (fun H h => ?_)
  have h : fx_H G (S0 ++ [.inr (.inr (8, [n + 1 + 2, 1, 1, 1, 1, 1, 1])), .inl 1000, .inl 1000]) M s H _ := h
  refine W.widen (k := 2) (n := 2000) (by omega) (by omega) ?_
  refine cx_putR (k := n + 0) (j := 1) (r := n + 2) (ty := .array .int) X hin h ((ap_at hn 0).trans rfl) fl_RX8_15 (Nat.le_of_ble_eq_true rfl) (fun C T N q => by cases q; rfl) (by decide +kernel) rfl rfl dX8_init_19 (fun H locs h => ?_)
  rw [ap_set hn 0] at h
  have h : fx_H G (S0 ++ [.inr (.inr (8, [n + 1 + 2, n + 2 + 2, 1, 1, 1, 1, 1])), .inl 1000, .inl 1000]) M s H locs := h
  refine lv_aload_n hx hb dX8_init_22 rfl (lv_at hl 0 rfl) ?_
  refine lv_bipush (v := 8) hx hb dX8_init_23 (by decide) ?_
  refine cy_newa (i0 := 3) (N := 8) hn rfl X h hz (by omega) (h0 _ (by omega)) ak_int (by decide) (by decide) (by decide) (Nat.le_of_ble_eq_true rfl) (Nat.le_of_ble_eq_true rfl) dX8_init_25 (fun H h => ?_)
  have h : fx_H G (S0 ++ [.inr (.inr (8, [n + 1 + 2, n + 2 + 2, 1, 1, 1, 1, 1])), .inl 1000, .inl 1000, .inl 8]) M s H _ := h
  refine W.widen (k := 3) (n := 2008) (by omega) (by omega) ?_
  refine cx_putR (k := n + 0) (j := 2) (r := n + 3) (ty := .array .int) X hin h ((ap_at hn 0).trans rfl) fl_RX8_18 (Nat.le_of_ble_eq_true rfl) (fun C T N q => by cases q; rfl) (by decide +kernel) rfl rfl dX8_init_27 (fun H locs h => ?_)
  rw [ap_set hn 0] at h
  have h : fx_H G (S0 ++ [.inr (.inr (8, [n + 1 + 2, n + 2 + 2, n + 3 + 2, 1, 1, 1, 1])), .inl 1000, .inl 1000, .inl 8]) M s H locs := h
  refine lv_aload_n hx hb dX8_init_30 rfl (lv_at hl 0 rfl) ?_
  refine lv_sipush (v := 512) hx hb dX8_init_31 (by decide) ?_
  refine cy_newa (i0 := 4) (N := 512) hn rfl X h hz (by omega) (h0 _ (by omega)) ak_int (by decide) (by decide) (by decide) (Nat.le_of_ble_eq_true rfl) (Nat.le_of_ble_eq_true rfl) dX8_init_34 (fun H h => ?_)
  have h : fx_H G (S0 ++ [.inr (.inr (8, [n + 1 + 2, n + 2 + 2, n + 3 + 2, 1, 1, 1, 1])), .inl 1000, .inl 1000, .inl 8, .inl 512]) M s H _ := h
  refine W.widen (k := 4) (n := 2520) (by omega) (by omega) ?_
  refine cx_putR (k := n + 0) (j := 3) (r := n + 4) (ty := .array .int) X hin h ((ap_at hn 0).trans rfl) fl_RX8_21 (Nat.le_of_ble_eq_true rfl) (fun C T N q => by cases q; rfl) (by decide +kernel) rfl rfl dX8_init_36 (fun H locs h => ?_)
  rw [ap_set hn 0] at h
  have h : fx_H G (S0 ++ [.inr (.inr (8, [n + 1 + 2, n + 2 + 2, n + 3 + 2, n + 4 + 2, 1, 1, 1])), .inl 1000, .inl 1000, .inl 8, .inl 512]) M s H locs := h
  refine lv_aload_n hx hb dX8_init_39 rfl (lv_at hl 0 rfl) ?_
  refine lv_sipush (v := 1152) hx hb dX8_init_40 (by decide) ?_
  refine cy_newa (i0 := 5) (N := 1152) hn rfl X h hz (by omega) (h0 _ (by omega)) ak_int (by decide) (by decide) (by decide) (Nat.le_of_ble_eq_true rfl) (Nat.le_of_ble_eq_true rfl) dX8_init_43 (fun H h => ?_)
  have h : fx_H G (S0 ++ [.inr (.inr (8, [n + 1 + 2, n + 2 + 2, n + 3 + 2, n + 4 + 2, 1, 1, 1])), .inl 1000, .inl 1000, .inl 8, .inl 512, .inl 1152]) M s H _ := h
  refine W.widen (k := 5) (n := 3672) (by omega) (by omega) ?_
  refine cx_putR (k := n + 0) (j := 4) (r := n + 5) (ty := .array .int) X hin h ((ap_at hn 0).trans rfl) fl_RX8_24 (Nat.le_of_ble_eq_true rfl) (fun C T N q => by cases q; rfl) (by decide +kernel) rfl rfl dX8_init_45 (fun H locs h => ?_)
  rw [ap_set hn 0] at h
  have h : fx_H G (S0 ++ [.inr (.inr (8, [n + 1 + 2, n + 2 + 2, n + 3 + 2, n + 4 + 2, n + 5 + 2, 1, 1])), .inl 1000, .inl 1000, .inl 8, .inl 512, .inl 1152]) M s H locs := h
  refine lv_aload_n hx hb dX8_init_48 rfl (lv_at hl 0 rfl) ?_
  refine lv_bipush (v := 16) hx hb dX8_init_49 (by decide) ?_
  refine cy_newa (i0 := 6) (N := 16) hn rfl X h hz (by omega) (h0 _ (by omega)) ak_int (by decide) (by decide) (by decide) (Nat.le_of_ble_eq_true rfl) (Nat.le_of_ble_eq_true rfl) dX8_init_51 (fun H h => ?_)
  have h : fx_H G (S0 ++ [.inr (.inr (8, [n + 1 + 2, n + 2 + 2, n + 3 + 2, n + 4 + 2, n + 5 + 2, 1, 1])), .inl 1000, .inl 1000, .inl 8, .inl 512, .inl 1152, .inl 16]) M s H _ := h
  refine W.widen (k := 6) (n := 3688) (by omega) (by omega) ?_
  refine cx_putR (k := n + 0) (j := 5) (r := n + 6) (ty := .array .int) X hin h ((ap_at hn 0).trans rfl) fl_RX8_27 (Nat.le_of_ble_eq_true rfl) (fun C T N q => by cases q; rfl) (by decide +kernel) rfl rfl dX8_init_53 (fun H locs h => ?_)
  rw [ap_set hn 0] at h
  have h : fx_H G (S0 ++ [.inr (.inr (8, [n + 1 + 2, n + 2 + 2, n + 3 + 2, n + 4 + 2, n + 5 + 2, n + 6 + 2, 1])), .inl 1000, .inl 1000, .inl 8, .inl 512, .inl 1152, .inl 16]) M s H locs := h
  refine lv_aload_n hx hb dX8_init_56 rfl (lv_at hl 0 rfl) ?_
  refine lv_bipush (v := 8) hx hb dX8_init_57 (by decide) ?_
  refine cy_newa (i0 := 7) (N := 8) hn rfl X h hz (by omega) (h0 _ (by omega)) ak_int (by decide) (by decide) (by decide) (Nat.le_of_ble_eq_true rfl) (Nat.le_of_ble_eq_true rfl) dX8_init_59 (fun H h => ?_)
  have h : fx_H G (S0 ++ [.inr (.inr (8, [n + 1 + 2, n + 2 + 2, n + 3 + 2, n + 4 + 2, n + 5 + 2, n + 6 + 2, 1])), .inl 1000, .inl 1000, .inl 8, .inl 512, .inl 1152, .inl 16, .inl 8]) M s H _ := h
  refine W.widen (k := 7) (n := 3696) (by omega) (by omega) ?_
  refine cx_putR (k := n + 0) (j := 6) (r := n + 7) (ty := .array .int) X hin h ((ap_at hn 0).trans rfl) fl_RX8_30 (Nat.le_of_ble_eq_true rfl) (fun C T N q => by cases q; rfl) (by decide +kernel) rfl rfl dX8_init_61 (fun H locs h => ?_)
  rw [ap_set hn 0] at h
  have h : fx_H G (S0 ++ [.inr (.inr (8, [n + 1 + 2, n + 2 + 2, n + 3 + 2, n + 4 + 2, n + 5 + 2, n + 6 + 2, n + 7 + 2])), .inl 1000, .inl 1000, .inl 8, .inl 512, .inl 1152, .inl 16, .inl 8]) M s H locs := h
  exact cy_ret X hr hk h (Prod.ext_iff.mpr ⟨rfl, by rw [show M = M from rfl]; rfl⟩) dX8_init_64
theorem dX3_init_0 : decode cX3_init 0 = .ok (.aload_n 0, 1) := by decide +kernel
theorem dX3_init_1 : decode cX3_init 1 = .ok (.invokespecial 3, 3) := by decide +kernel
theorem dX3_init_4 : decode cX3_init 4 = .ok (.aload_n 0, 1) := by decide +kernel
theorem dX3_init_5 : decode cX3_init 5 = .ok (.new 9, 3) := by decide +kernel
theorem dX3_init_8 : decode cX3_init 8 = .ok (.dup, 1) := by decide +kernel
theorem dX3_init_9 : decode cX3_init 9 = .ok (.invokespecial 11, 3) := by decide +kernel
theorem dX3_init_12 : decode cX3_init 12 = .ok (.putfield 12, 3) := by decide +kernel
theorem dX3_init_15 : decode cX3_init 15 = .ok (.aload_n 0, 1) := by decide +kernel
theorem dX3_init_16 : decode cX3_init 16 = .ok (.new 18, 3) := by decide +kernel
theorem dX3_init_19 : decode cX3_init 19 = .ok (.dup, 1) := by decide +kernel
theorem dX3_init_20 : decode cX3_init 20 = .ok (.invokespecial 20, 3) := by decide +kernel
theorem dX3_init_23 : decode cX3_init 23 = .ok (.putfield 21, 3) := by decide +kernel
theorem dX3_init_26 : decode cX3_init 26 = .ok (.aload_n 0, 1) := by decide +kernel
theorem dX3_init_27 : decode cX3_init 27 = .ok (.iconst 0, 1) := by decide +kernel
theorem dX3_init_28 : decode cX3_init 28 = .ok (.putfield 25, 3) := by decide +kernel
theorem dX3_init_31 : decode cX3_init 31 = .ok (.aload_n 0, 1) := by decide +kernel
theorem dX3_init_32 : decode cX3_init 32 = .ok (.iconst 0, 1) := by decide +kernel
theorem dX3_init_33 : decode cX3_init 33 = .ok (.putfield 29, 3) := by decide +kernel
theorem dX3_init_36 : decode cX3_init 36 = .ok (.aload_n 0, 1) := by decide +kernel
theorem dX3_init_37 : decode cX3_init 37 = .ok (.aload_n 1, 1) := by decide +kernel
theorem dX3_init_38 : decode cX3_init 38 = .ok (.putfield 32, 3) := by decide +kernel
theorem dX3_init_41 : decode cX3_init 41 = .ok (.return_, 1) := by decide +kernel
def CM_Parser (n : Nat) (M : Mm) : Mm := (m_up (m_up (CM_Plans (n + 8) (CM_Law (n + 1) M)) (n + 0) 3 (0 : Int32)) (n + 0) 4 (0 : Int32))
set_option maxRecDepth 100000 in
theorem cz_Parser (n : Nat) (M : Mm) (a : Nat) (h : n + 15 ≤ a) : CM_Parser n M a = M a := by
  unfold CM_Parser
  rw [m_up_ne (by omega), m_up_ne (by omega), cz_Plans _ _ _ (by omega), cz_Law _ _ _ (by omega)]
set_option maxHeartbeats 4000000 in
set_option maxRecDepth 100000 in
theorem ci_Parser (l : Launch) (G : fx_G) {S0 : List fx_S} {n : Nat} {M : Mm} (hn : S0.length = n) (h0 : ∀ a, n ≤ a → M a = fun _ => 0) {w : Nat} : Met l yX3_init (fx_ws yX3_init cX3_init 2 none) (cx_rm 2 14 645) (va_Pc [.ref (G.2.2.2 + (n + 0)), .ref (G.2.2.2 + w)] (cx_P G (S0 ++ [.inr (.inr (3, [1, 1, 1, 0, 0]))]) M)) (va_Qv (fun u => u = (S0 ++ [.inr (.inr (3, [n + 1 + 2, n + 8 + 2, w + 2, 0, 0])), .inr (.inr (2, [n + 2 + 2, n + 3 + 2, n + 4 + 2, n + 5 + 2, n + 6 + 2, n + 7 + 2, 0, 0])), .inl 400, .inl 16, .inl 16, .inl 16, .inl 12, .inl 32, .inr (.inr (5, [n + 9 + 2, n + 10 + 2, n + 11 + 2, n + 12 + 2, n + 13 + 2, n + 14 + 2, 0, 0, 0])), .inl 8, .inl 64, .inl 16, .inl 16, .inl 16, .inl 16], CM_Parser n M)) (cx_R G) (fx_A G)) 14 645 (fx_A G) := by
  refine cy_met (own := RX3) (by decide +kernel) rfl rfl (Nat.le_of_ble_eq_true rfl) (fun p e s m below meth c X hr hk hin hO h hsz ls hl => ?_)
  obtain ⟨⟨hx, hb, hml, hown, hts⟩, hK, hQ⟩ := id X
  have hsz : s.heap.size = G.2.2.2 + (n + 1) := by rw [hsz, List.length_append, hn]; rfl
  have hz : G.2.2.2 ≤ s.heap.size := by omega
  have h0 : ∀ a, n + 1 ≤ a → M a = fun _ => 0 := fun a ha => h0 a (by omega)
  have hl : lv_has ls 2 [(0, .ref (G.2.2.2 + (n + 0))), (1, .ref (G.2.2.2 + w))] := hl
  refine lv_aload_n hx hb dX3_init_0 rfl (lv_at hl 0 rfl) ?_
  refine W.objInit hx hb hown (hts _ (fx_s2 (List.mem_of_getElem? (i := 201) rfl) rfl)) (hts _ (fx_s1 (List.mem_of_getElem? (i := 27) rfl) rfl)) (hts _ ob_c) rfl (by rw [hml]; exact hl.1) rfl dX3_init_1 (Nat.le_of_ble_eq_true rfl) (Nat.le_of_ble_eq_true rfl) ?_
  refine W.eq (g2 := F0 m 4 ls []) rfl ?_
  refine lv_aload_n hx hb dX3_init_4 rfl (lv_at hl 0 rfl) ?_
  refine cy_new (i0 := 1) hn rfl X h hz (by omega) (h0 _ (by omega)) (fsN := [1, 1, 1, 1, 1, 1, 0, 0]) (ci := 2) inX2 tyX2_ok (fx_s2 (List.mem_of_getElem? (i := 202) rfl) rfl) (fx_s1 (List.mem_of_getElem? (i := 157) rfl) rfl) (fx_s1 (List.mem_of_getElem? (i := 5) rfl) rfl) rfl (nd_2 _) (Nat.le_of_ble_eq_true rfl) (Nat.le_of_ble_eq_true rfl) dX3_init_5 (fun H h => ?_)
  have h : fx_H G (S0 ++ [.inr (.inr (3, [1, 1, 1, 0, 0])), .inr (.inr (2, [1, 1, 1, 1, 1, 1, 0, 0]))]) M s H _ := h
  refine W.widen (k := 1) (n := 8) (by omega) (by omega) ?_
  refine lv_dup hx hb dX3_init_8 rfl ?_
  refine cy_call (L := [.inr (.inr (3, [1, 1, 1, 0, 0]))]) (x := .inr (.inr (2, [1, 1, 1, 1, 1, 1, 0, 0]))) (i0 := 1) (k := n + 1) (d := 1) hn rfl X hO h hz (by omega) ym_X2_init yi_X2_init (Or.inr ⟨_, nq_RX3_11⟩) rfl (ci_Law l G (S0 := S0 ++ [.inr (.inr (3, [1, 1, 1, 0, 0]))]) (n := n + 1) (M := M) (cy_len hn rfl) (fun a ha => h0 a (by omega))) (As := []) (rest := [.ref (G.2.2.2 + (n + 1)), .ref (G.2.2.2 + (n + 0))]) rfl rfl ⟨by simp only [cx_rm]; omega, by simp only [cx_rm]; omega⟩ ⟨by simp only [cx_rm]; omega, by simp only [cx_rm]; omega⟩ hl.1 (Nat.le_of_ble_eq_true rfl) dX3_init_9 (fun S9 M9 H locs hK9 h => ?_)
  have hK9 : (S9, M9) = _ := hK9
  obtain ⟨rfl, eK9⟩ := Prod.mk.inj hK9
  rw [List.append_assoc] at h
  have h : fx_H G (S0 ++ [.inr (.inr (3, [1, 1, 1, 0, 0])), .inr (.inr (2, [n + 2 + 2, n + 3 + 2, n + 4 + 2, n + 5 + 2, n + 6 + 2, n + 7 + 2, 0, 0])), .inl 400, .inl 16, .inl 16, .inl 16, .inl 12, .inl 32]) M9 s H locs := h
  refine W.widen (k := 7) (n := 500) (by omega) (by omega) ?_
  rw [eK9] at h
  obtain ⟨M1, eM1⟩ : ∃ z : Mm, z = CM_Law (n + 1) M := ⟨_, rfl⟩
  rw [← eM1] at h
  have h0 : ∀ a, n + 8 ≤ a → M1 a = fun _ => 0 := fun a ha => by rw [eM1, cz_Law _ _ _ (by omega)]; exact h0 a (by omega)
  refine cx_putR (k := n + 0) (j := 0) (r := n + 1) (ty := .object "MockParcels$Law") X hin h ((ap_at hn 0).trans rfl) fl_RX3_12 (Nat.le_of_ble_eq_true rfl) (fun C T N q => by cases q; rfl) (by decide +kernel) rfl rfl dX3_init_12 (fun H locs h => ?_)
  rw [ap_set hn 0] at h
  have h : fx_H G (S0 ++ [.inr (.inr (3, [n + 1 + 2, 1, 1, 0, 0])), .inr (.inr (2, [n + 2 + 2, n + 3 + 2, n + 4 + 2, n + 5 + 2, n + 6 + 2, n + 7 + 2, 0, 0])), .inl 400, .inl 16, .inl 16, .inl 16, .inl 12, .inl 32]) M1 s H locs := h
  refine lv_aload_n hx hb dX3_init_15 rfl (lv_at hl 0 rfl) ?_
  refine cy_new (i0 := 8) hn rfl X h hz (by omega) (h0 _ (by omega)) (fsN := [1, 1, 1, 1, 1, 1, 0, 0, 0]) (ci := 5) inX5 tyX5_ok (fx_s2 (List.mem_of_getElem? (i := 204) rfl) rfl) (fx_s1 (List.mem_of_getElem? (i := 191) rfl) rfl) (fx_s1 (List.mem_of_getElem? (i := 6) rfl) rfl) rfl (nd_5 _) (Nat.le_of_ble_eq_true rfl) (Nat.le_of_ble_eq_true rfl) dX3_init_16 (fun H h => ?_)
  have h : fx_H G (S0 ++ [.inr (.inr (3, [n + 1 + 2, 1, 1, 0, 0])), .inr (.inr (2, [n + 2 + 2, n + 3 + 2, n + 4 + 2, n + 5 + 2, n + 6 + 2, n + 7 + 2, 0, 0])), .inl 400, .inl 16, .inl 16, .inl 16, .inl 12, .inl 32, .inr (.inr (5, [1, 1, 1, 1, 1, 1, 0, 0, 0]))]) M1 s H _ := h
  refine W.widen (k := 8) (n := 509) (by omega) (by omega) ?_
  refine lv_dup hx hb dX3_init_19 rfl ?_
  refine cy_call (L := [.inr (.inr (3, [n + 1 + 2, 1, 1, 0, 0])), .inr (.inr (2, [n + 2 + 2, n + 3 + 2, n + 4 + 2, n + 5 + 2, n + 6 + 2, n + 7 + 2, 0, 0])), .inl 400, .inl 16, .inl 16, .inl 16, .inl 12, .inl 32]) (x := .inr (.inr (5, [1, 1, 1, 1, 1, 1, 0, 0, 0]))) (i0 := 8) (k := n + 8) (d := 1) hn rfl X hO h hz (by omega) ym_X5_init yi_X5_init (Or.inl (fx_s2 (List.mem_of_getElem? (i := 205) rfl) rfl)) rfl (ci_Plans l G (S0 := S0 ++ [.inr (.inr (3, [n + 1 + 2, 1, 1, 0, 0])), .inr (.inr (2, [n + 2 + 2, n + 3 + 2, n + 4 + 2, n + 5 + 2, n + 6 + 2, n + 7 + 2, 0, 0])), .inl 400, .inl 16, .inl 16, .inl 16, .inl 12, .inl 32]) (n := n + 8) (M := M1) (cy_len hn rfl) (fun a ha => h0 a (by omega))) (As := []) (rest := [.ref (G.2.2.2 + (n + 8)), .ref (G.2.2.2 + (n + 0))]) rfl rfl ⟨by simp only [cx_rm]; omega, by simp only [cx_rm]; omega⟩ ⟨by simp only [cx_rm]; omega, by simp only [cx_rm]; omega⟩ hl.1 (Nat.le_of_ble_eq_true rfl) dX3_init_20 (fun S9 M9 H locs hK9 h => ?_)
  have hK9 : (S9, M9) = _ := hK9
  obtain ⟨rfl, eK9⟩ := Prod.mk.inj hK9
  rw [List.append_assoc] at h
  have h : fx_H G (S0 ++ [.inr (.inr (3, [n + 1 + 2, 1, 1, 0, 0])), .inr (.inr (2, [n + 2 + 2, n + 3 + 2, n + 4 + 2, n + 5 + 2, n + 6 + 2, n + 7 + 2, 0, 0])), .inl 400, .inl 16, .inl 16, .inl 16, .inl 12, .inl 32, .inr (.inr (5, [n + 9 + 2, n + 10 + 2, n + 11 + 2, n + 12 + 2, n + 13 + 2, n + 14 + 2, 0, 0, 0])), .inl 8, .inl 64, .inl 16, .inl 16, .inl 16, .inl 16]) M9 s H locs := h
  refine W.widen (k := 14) (n := 645) (by omega) (by omega) ?_
  rw [eK9] at h
  obtain ⟨M2, eM2⟩ : ∃ z : Mm, z = CM_Plans (n + 8) M1 := ⟨_, rfl⟩
  rw [← eM2] at h
  have h0 : ∀ a, n + 15 ≤ a → M2 a = fun _ => 0 := fun a ha => by rw [eM2, cz_Plans _ _ _ (by omega)]; exact h0 a (by omega)
  refine cx_putR (k := n + 0) (j := 1) (r := n + 8) (ty := .object "MockParcels$Plans") X hin h ((ap_at hn 0).trans rfl) fl_RX3_21 (Nat.le_of_ble_eq_true rfl) (fun C T N q => by cases q; rfl) (by decide +kernel) rfl rfl dX3_init_23 (fun H locs h => ?_)
  rw [ap_set hn 0] at h
  have h : fx_H G (S0 ++ [.inr (.inr (3, [n + 1 + 2, n + 8 + 2, 1, 0, 0])), .inr (.inr (2, [n + 2 + 2, n + 3 + 2, n + 4 + 2, n + 5 + 2, n + 6 + 2, n + 7 + 2, 0, 0])), .inl 400, .inl 16, .inl 16, .inl 16, .inl 12, .inl 32, .inr (.inr (5, [n + 9 + 2, n + 10 + 2, n + 11 + 2, n + 12 + 2, n + 13 + 2, n + 14 + 2, 0, 0, 0])), .inl 8, .inl 64, .inl 16, .inl 16, .inl 16, .inl 16]) M2 s H locs := h
  refine lv_aload_n hx hb dX3_init_26 rfl (lv_at hl 0 rfl) ?_
  refine lv_iconst (v := 0) hx hb dX3_init_27 (by decide) ?_
  refine fx_putI X h (k := n + 0) (j := 3) ((ap_at hn 0).trans rfl) rfl fl_RX3_25 dX3_init_28 (fun H locs h => ?_)
  obtain ⟨M3, eM3⟩ : ∃ z : Mm, z = m_up M2 (n + 0) 3 (0 : Int32) := ⟨_, rfl⟩
  rw [← eM3] at h
  have h0 : ∀ a, n + 15 ≤ a → M3 a = fun _ => 0 := fun a ha => by rw [eM3, m_up_ne (by omega)]; exact h0 a (by omega)
  refine lv_aload_n hx hb dX3_init_31 rfl (lv_at hl 0 rfl) ?_
  refine lv_iconst (v := 0) hx hb dX3_init_32 (by decide) ?_
  refine fx_putI X h (k := n + 0) (j := 4) ((ap_at hn 0).trans rfl) rfl fl_RX3_29 dX3_init_33 (fun H locs h => ?_)
  obtain ⟨M4, eM4⟩ : ∃ z : Mm, z = m_up M3 (n + 0) 4 (0 : Int32) := ⟨_, rfl⟩
  rw [← eM4] at h
  have h0 : ∀ a, n + 15 ≤ a → M4 a = fun _ => 0 := fun a ha => by rw [eM4, m_up_ne (by omega)]; exact h0 a (by omega)
  refine lv_aload_n hx hb dX3_init_36 rfl (lv_at hl 0 rfl) ?_
  refine lv_aload_n hx hb dX3_init_37 rfl (lv_at hl 1 rfl) ?_
  refine cx_putR (k := n + 0) (j := 2) (r := w) (ty := .object "MockParcels$Reader") X hin h ((ap_at hn 0).trans rfl) fl_RX3_32 (Nat.le_of_ble_eq_true rfl) (fun C T N q => by cases q; rfl) (by decide +kernel) rfl rfl dX3_init_38 (fun H locs h => ?_)
  rw [ap_set hn 0] at h
  have h : fx_H G (S0 ++ [.inr (.inr (3, [n + 1 + 2, n + 8 + 2, w + 2, 0, 0])), .inr (.inr (2, [n + 2 + 2, n + 3 + 2, n + 4 + 2, n + 5 + 2, n + 6 + 2, n + 7 + 2, 0, 0])), .inl 400, .inl 16, .inl 16, .inl 16, .inl 12, .inl 32, .inr (.inr (5, [n + 9 + 2, n + 10 + 2, n + 11 + 2, n + 12 + 2, n + 13 + 2, n + 14 + 2, 0, 0, 0])), .inl 8, .inl 64, .inl 16, .inl 16, .inl 16, .inl 16]) M4 s H locs := h
  exact cy_ret X hr hk h (Prod.ext_iff.mpr ⟨rfl, by rw [eM4, eM3, eM2, eM1]; rfl⟩) dX3_init_41
theorem dX10_init_0 : decode cX10_init 0 = .ok (.aload_n 0, 1) := by decide +kernel
theorem dX10_init_1 : decode cX10_init 1 = .ok (.invokespecial 3, 3) := by decide +kernel
theorem dX10_init_4 : decode cX10_init 4 = .ok (.aload_n 0, 1) := by decide +kernel
theorem dX10_init_5 : decode cX10_init 5 = .ok (.new 9, 3) := by decide +kernel
theorem dX10_init_8 : decode cX10_init 8 = .ok (.dup, 1) := by decide +kernel
theorem dX10_init_9 : decode cX10_init 9 = .ok (.invokespecial 11, 3) := by decide +kernel
theorem dX10_init_12 : decode cX10_init 12 = .ok (.putfield 12, 3) := by decide +kernel
theorem dX10_init_15 : decode cX10_init 15 = .ok (.aload_n 0, 1) := by decide +kernel
theorem dX10_init_16 : decode cX10_init 16 = .ok (.new 18, 3) := by decide +kernel
theorem dX10_init_19 : decode cX10_init 19 = .ok (.dup, 1) := by decide +kernel
theorem dX10_init_20 : decode cX10_init 20 = .ok (.invokespecial 20, 3) := by decide +kernel
theorem dX10_init_23 : decode cX10_init 23 = .ok (.putfield 21, 3) := by decide +kernel
theorem dX10_init_26 : decode cX10_init 26 = .ok (.aload_n 0, 1) := by decide +kernel
theorem dX10_init_27 : decode cX10_init 27 = .ok (.sipush 600, 3) := by decide +kernel
theorem dX10_init_30 : decode cX10_init 30 = .ok (.newarray .int, 2) := by decide +kernel
theorem dX10_init_32 : decode cX10_init 32 = .ok (.putfield 25, 3) := by decide +kernel
theorem dX10_init_35 : decode cX10_init 35 = .ok (.aload_n 0, 1) := by decide +kernel
theorem dX10_init_36 : decode cX10_init 36 = .ok (.new 29, 3) := by decide +kernel
theorem dX10_init_39 : decode cX10_init 39 = .ok (.dup, 1) := by decide +kernel
theorem dX10_init_40 : decode cX10_init 40 = .ok (.invokespecial 31, 3) := by decide +kernel
theorem dX10_init_43 : decode cX10_init 43 = .ok (.putfield 32, 3) := by decide +kernel
theorem dX10_init_46 : decode cX10_init 46 = .ok (.aload_n 0, 1) := by decide +kernel
theorem dX10_init_47 : decode cX10_init 47 = .ok (.new 36, 3) := by decide +kernel
theorem dX10_init_50 : decode cX10_init 50 = .ok (.dup, 1) := by decide +kernel
theorem dX10_init_51 : decode cX10_init 51 = .ok (.invokespecial 38, 3) := by decide +kernel
theorem dX10_init_54 : decode cX10_init 54 = .ok (.putfield 39, 3) := by decide +kernel
theorem dX10_init_57 : decode cX10_init 57 = .ok (.aload_n 0, 1) := by decide +kernel
theorem dX10_init_58 : decode cX10_init 58 = .ok (.new 43, 3) := by decide +kernel
theorem dX10_init_61 : decode cX10_init 61 = .ok (.dup, 1) := by decide +kernel
theorem dX10_init_62 : decode cX10_init 62 = .ok (.invokespecial 45, 3) := by decide +kernel
theorem dX10_init_65 : decode cX10_init 65 = .ok (.putfield 46, 3) := by decide +kernel
theorem dX10_init_68 : decode cX10_init 68 = .ok (.return_, 1) := by decide +kernel
def CM_Whole (n : Nat) (M : Mm) : Mm := (CM_Told (n + 29) (CM_Plans (n + 22) (CM_Law (n + 15) (CM_Quay (n + 7) (CM_Cast (n + 1) M)))))
set_option maxRecDepth 100000 in
theorem cz_Whole (n : Nat) (M : Mm) (a : Nat) (h : n + 39 ≤ a) : CM_Whole n M a = M a := by
  unfold CM_Whole
  rw [cz_Told _ _ _ (by omega), cz_Plans _ _ _ (by omega), cz_Law _ _ _ (by omega), cz_Quay _ _ _ (by omega), cz_Cast _ _ _ (by omega)]
set_option maxHeartbeats 4000000 in
set_option maxRecDepth 100000 in
theorem ci_Whole (l : Launch) (G : fx_G) {S0 : List fx_S} {n : Nat} {M : Mm} (hn : S0.length = n) (h0 : ∀ a, n ≤ a → M a = fun _ => 0) : Met l yX10_init (fx_ws yX10_init cX10_init 1 none) (cx_rm 2 38 1608) (va_Pc [.ref (G.2.2.2 + (n + 0))] (cx_P G (S0 ++ [.inr (.inr (10, [1, 1, 1, 1, 1, 1]))]) M)) (va_Qv (fun u => u = (S0 ++ [.inr (.inr (10, [n + 1 + 2, n + 7 + 2, n + 14 + 2, n + 15 + 2, n + 22 + 2, n + 29 + 2])), .inr (.inr (1, [0, 0, n + 2 + 2, n + 3 + 2, n + 4 + 2, n + 5 + 2, n + 6 + 2])), .inl 16, .inl 16, .inl 16, .inl 8, .inl 8, .inr (.inr (6, [n + 8 + 2, n + 9 + 2, n + 10 + 2, n + 11 + 2, n + 12 + 2, n + 13 + 2, 0, 0, 0, 0, 0, 0, 0])), .inl 16, .inl 16, .inl 16, .inl 8, .inl 8, .inl 64, .inl 600, .inr (.inr (2, [n + 16 + 2, n + 17 + 2, n + 18 + 2, n + 19 + 2, n + 20 + 2, n + 21 + 2, 0, 0])), .inl 400, .inl 16, .inl 16, .inl 16, .inl 12, .inl 32, .inr (.inr (5, [n + 23 + 2, n + 24 + 2, n + 25 + 2, n + 26 + 2, n + 27 + 2, n + 28 + 2, 0, 0, 0])), .inl 8, .inl 64, .inl 16, .inl 16, .inl 16, .inl 16, .inr (.inr (9, [n + 30 + 2, n + 31 + 2, n + 32 + 2, n + 33 + 2, n + 34 + 2, n + 35 + 2, n + 36 + 2, n + 37 + 2, n + 38 + 2, 0, 0, 0, 0, 0])), .inl 8, .inl 9, .inl 6, .inl 64, .inl 7, .inl 7, .inl 8, .inl 8, .inl 20], CM_Whole n M)) (cx_R G) (fx_A G)) 38 1608 (fx_A G) := by
  refine cy_met (own := RX10) (by decide +kernel) rfl rfl (Nat.le_of_ble_eq_true rfl) (fun p e s m below meth c X hr hk hin hO h hsz ls hl => ?_)
  obtain ⟨⟨hx, hb, hml, hown, hts⟩, hK, hQ⟩ := id X
  have hsz : s.heap.size = G.2.2.2 + (n + 1) := by rw [hsz, List.length_append, hn]; rfl
  have hz : G.2.2.2 ≤ s.heap.size := by omega
  have h0 : ∀ a, n + 1 ≤ a → M a = fun _ => 0 := fun a ha => h0 a (by omega)
  have hl : lv_has ls 1 [(0, .ref (G.2.2.2 + (n + 0)))] := hl
  refine lv_aload_n hx hb dX10_init_0 rfl (lv_at hl 0 rfl) ?_
  refine W.objInit hx hb hown (hts _ (fx_s1 (List.mem_of_getElem? (i := 34) rfl) rfl)) (hts _ (fx_s1 (List.mem_of_getElem? (i := 27) rfl) rfl)) (hts _ ob_c) rfl (by rw [hml]; exact hl.1) rfl dX10_init_1 (Nat.le_of_ble_eq_true rfl) (Nat.le_of_ble_eq_true rfl) ?_
  refine W.eq (g2 := F0 m 4 ls []) rfl ?_
  refine lv_aload_n hx hb dX10_init_4 rfl (lv_at hl 0 rfl) ?_
  refine cy_new (i0 := 1) hn rfl X h hz (by omega) (h0 _ (by omega)) (fsN := [0, 0, 1, 1, 1, 1, 1]) (ci := 1) inX1 tyX1_ok (fx_s1 (List.mem_of_getElem? (i := 35) rfl) rfl) (fx_s1 (List.mem_of_getElem? (i := 36) rfl) rfl) (fx_s1 (List.mem_of_getElem? (i := 3) rfl) rfl) rfl (nd_1 _) (Nat.le_of_ble_eq_true rfl) (Nat.le_of_ble_eq_true rfl) dX10_init_5 (fun H h => ?_)
  have h : fx_H G (S0 ++ [.inr (.inr (10, [1, 1, 1, 1, 1, 1])), .inr (.inr (1, [0, 0, 1, 1, 1, 1, 1]))]) M s H _ := h
  refine W.widen (k := 1) (n := 7) (by omega) (by omega) ?_
  refine lv_dup hx hb dX10_init_8 rfl ?_
  refine cy_call (L := [.inr (.inr (10, [1, 1, 1, 1, 1, 1]))]) (x := .inr (.inr (1, [0, 0, 1, 1, 1, 1, 1]))) (i0 := 1) (k := n + 1) (d := 1) hn rfl X hO h hz (by omega) ym_X1_init yi_X1_init (Or.inr ⟨_, nq_RX10_11⟩) rfl (ci_Cast l G (S0 := S0 ++ [.inr (.inr (10, [1, 1, 1, 1, 1, 1]))]) (n := n + 1) (M := M) (cy_len hn rfl) (fun a ha => h0 a (by omega))) (As := []) (rest := [.ref (G.2.2.2 + (n + 1)), .ref (G.2.2.2 + (n + 0))]) rfl rfl ⟨by simp only [cx_rm]; omega, by simp only [cx_rm]; omega⟩ ⟨by simp only [cx_rm]; omega, by simp only [cx_rm]; omega⟩ hl.1 (Nat.le_of_ble_eq_true rfl) dX10_init_9 (fun S9 M9 H locs hK9 h => ?_)
  have hK9 : (S9, M9) = _ := hK9
  obtain ⟨rfl, eK9⟩ := Prod.mk.inj hK9
  rw [List.append_assoc] at h
  have h : fx_H G (S0 ++ [.inr (.inr (10, [1, 1, 1, 1, 1, 1])), .inr (.inr (1, [0, 0, n + 2 + 2, n + 3 + 2, n + 4 + 2, n + 5 + 2, n + 6 + 2])), .inl 16, .inl 16, .inl 16, .inl 8, .inl 8]) M9 s H locs := h
  refine W.widen (k := 6) (n := 71) (by omega) (by omega) ?_
  rw [eK9] at h
  obtain ⟨M1, eM1⟩ : ∃ z : Mm, z = CM_Cast (n + 1) M := ⟨_, rfl⟩
  rw [← eM1] at h
  have h0 : ∀ a, n + 7 ≤ a → M1 a = fun _ => 0 := fun a ha => by rw [eM1, cz_Cast _ _ _ (by omega)]; exact h0 a (by omega)
  refine cx_putR (k := n + 0) (j := 0) (r := n + 1) (ty := .object "MockParcels$Cast") X hin h ((ap_at hn 0).trans rfl) fl_RX10_12 (Nat.le_of_ble_eq_true rfl) (fun C T N q => by cases q; rfl) (by decide +kernel) rfl rfl dX10_init_12 (fun H locs h => ?_)
  rw [ap_set hn 0] at h
  have h : fx_H G (S0 ++ [.inr (.inr (10, [n + 1 + 2, 1, 1, 1, 1, 1])), .inr (.inr (1, [0, 0, n + 2 + 2, n + 3 + 2, n + 4 + 2, n + 5 + 2, n + 6 + 2])), .inl 16, .inl 16, .inl 16, .inl 8, .inl 8]) M1 s H locs := h
  refine lv_aload_n hx hb dX10_init_15 rfl (lv_at hl 0 rfl) ?_
  refine cy_new (i0 := 7) hn rfl X h hz (by omega) (h0 _ (by omega)) (fsN := [1, 1, 1, 1, 1, 1, 0, 0, 0, 0, 0, 0, 0]) (ci := 6) inX6 tyX6_ok (fx_s1 (List.mem_of_getElem? (i := 81) rfl) rfl) (fx_s1 (List.mem_of_getElem? (i := 82) rfl) rfl) (fx_s1 (List.mem_of_getElem? (i := 4) rfl) rfl) rfl (nd_6 _) (Nat.le_of_ble_eq_true rfl) (Nat.le_of_ble_eq_true rfl) dX10_init_16 (fun H h => ?_)
  have h : fx_H G (S0 ++ [.inr (.inr (10, [n + 1 + 2, 1, 1, 1, 1, 1])), .inr (.inr (1, [0, 0, n + 2 + 2, n + 3 + 2, n + 4 + 2, n + 5 + 2, n + 6 + 2])), .inl 16, .inl 16, .inl 16, .inl 8, .inl 8, .inr (.inr (6, [1, 1, 1, 1, 1, 1, 0, 0, 0, 0, 0, 0, 0]))]) M1 s H _ := h
  refine W.widen (k := 7) (n := 84) (by omega) (by omega) ?_
  refine lv_dup hx hb dX10_init_19 rfl ?_
  refine cy_call (L := [.inr (.inr (10, [n + 1 + 2, 1, 1, 1, 1, 1])), .inr (.inr (1, [0, 0, n + 2 + 2, n + 3 + 2, n + 4 + 2, n + 5 + 2, n + 6 + 2])), .inl 16, .inl 16, .inl 16, .inl 8, .inl 8]) (x := .inr (.inr (6, [1, 1, 1, 1, 1, 1, 0, 0, 0, 0, 0, 0, 0]))) (i0 := 7) (k := n + 7) (d := 1) hn rfl X hO h hz (by omega) ym_X6_init yi_X6_init (Or.inl (fx_s1 (List.mem_of_getElem? (i := 83) rfl) rfl)) rfl (ci_Quay l G (S0 := S0 ++ [.inr (.inr (10, [n + 1 + 2, 1, 1, 1, 1, 1])), .inr (.inr (1, [0, 0, n + 2 + 2, n + 3 + 2, n + 4 + 2, n + 5 + 2, n + 6 + 2])), .inl 16, .inl 16, .inl 16, .inl 8, .inl 8]) (n := n + 7) (M := M1) (cy_len hn rfl) (fun a ha => h0 a (by omega))) (As := []) (rest := [.ref (G.2.2.2 + (n + 7)), .ref (G.2.2.2 + (n + 0))]) rfl rfl ⟨by simp only [cx_rm]; omega, by simp only [cx_rm]; omega⟩ ⟨by simp only [cx_rm]; omega, by simp only [cx_rm]; omega⟩ hl.1 (Nat.le_of_ble_eq_true rfl) dX10_init_20 (fun S9 M9 H locs hK9 h => ?_)
  have hK9 : (S9, M9) = _ := hK9
  obtain ⟨rfl, eK9⟩ := Prod.mk.inj hK9
  rw [List.append_assoc] at h
  have h : fx_H G (S0 ++ [.inr (.inr (10, [n + 1 + 2, 1, 1, 1, 1, 1])), .inr (.inr (1, [0, 0, n + 2 + 2, n + 3 + 2, n + 4 + 2, n + 5 + 2, n + 6 + 2])), .inl 16, .inl 16, .inl 16, .inl 8, .inl 8, .inr (.inr (6, [n + 8 + 2, n + 9 + 2, n + 10 + 2, n + 11 + 2, n + 12 + 2, n + 13 + 2, 0, 0, 0, 0, 0, 0, 0])), .inl 16, .inl 16, .inl 16, .inl 8, .inl 8, .inl 64]) M9 s H locs := h
  refine W.widen (k := 13) (n := 212) (by omega) (by omega) ?_
  rw [eK9] at h
  obtain ⟨M2, eM2⟩ : ∃ z : Mm, z = CM_Quay (n + 7) M1 := ⟨_, rfl⟩
  rw [← eM2] at h
  have h0 : ∀ a, n + 14 ≤ a → M2 a = fun _ => 0 := fun a ha => by rw [eM2, cz_Quay _ _ _ (by omega)]; exact h0 a (by omega)
  refine cx_putR (k := n + 0) (j := 1) (r := n + 7) (ty := .object "MockParcels$Quay") X hin h ((ap_at hn 0).trans rfl) fl_RX10_21 (Nat.le_of_ble_eq_true rfl) (fun C T N q => by cases q; rfl) (by decide +kernel) rfl rfl dX10_init_23 (fun H locs h => ?_)
  rw [ap_set hn 0] at h
  have h : fx_H G (S0 ++ [.inr (.inr (10, [n + 1 + 2, n + 7 + 2, 1, 1, 1, 1])), .inr (.inr (1, [0, 0, n + 2 + 2, n + 3 + 2, n + 4 + 2, n + 5 + 2, n + 6 + 2])), .inl 16, .inl 16, .inl 16, .inl 8, .inl 8, .inr (.inr (6, [n + 8 + 2, n + 9 + 2, n + 10 + 2, n + 11 + 2, n + 12 + 2, n + 13 + 2, 0, 0, 0, 0, 0, 0, 0])), .inl 16, .inl 16, .inl 16, .inl 8, .inl 8, .inl 64]) M2 s H locs := h
  refine lv_aload_n hx hb dX10_init_26 rfl (lv_at hl 0 rfl) ?_
  refine lv_sipush (v := 600) hx hb dX10_init_27 (by decide) ?_
  refine cy_newa (i0 := 14) (N := 600) hn rfl X h hz (by omega) (h0 _ (by omega)) ak_int (by decide) (by decide) (by decide) (Nat.le_of_ble_eq_true rfl) (Nat.le_of_ble_eq_true rfl) dX10_init_30 (fun H h => ?_)
  have h : fx_H G (S0 ++ [.inr (.inr (10, [n + 1 + 2, n + 7 + 2, 1, 1, 1, 1])), .inr (.inr (1, [0, 0, n + 2 + 2, n + 3 + 2, n + 4 + 2, n + 5 + 2, n + 6 + 2])), .inl 16, .inl 16, .inl 16, .inl 8, .inl 8, .inr (.inr (6, [n + 8 + 2, n + 9 + 2, n + 10 + 2, n + 11 + 2, n + 12 + 2, n + 13 + 2, 0, 0, 0, 0, 0, 0, 0])), .inl 16, .inl 16, .inl 16, .inl 8, .inl 8, .inl 64, .inl 600]) M2 s H _ := h
  refine W.widen (k := 14) (n := 812) (by omega) (by omega) ?_
  refine cx_putR (k := n + 0) (j := 2) (r := n + 14) (ty := .array .int) X hin h ((ap_at hn 0).trans rfl) fl_RX10_25 (Nat.le_of_ble_eq_true rfl) (fun C T N q => by cases q; rfl) (by decide +kernel) rfl rfl dX10_init_32 (fun H locs h => ?_)
  rw [ap_set hn 0] at h
  have h : fx_H G (S0 ++ [.inr (.inr (10, [n + 1 + 2, n + 7 + 2, n + 14 + 2, 1, 1, 1])), .inr (.inr (1, [0, 0, n + 2 + 2, n + 3 + 2, n + 4 + 2, n + 5 + 2, n + 6 + 2])), .inl 16, .inl 16, .inl 16, .inl 8, .inl 8, .inr (.inr (6, [n + 8 + 2, n + 9 + 2, n + 10 + 2, n + 11 + 2, n + 12 + 2, n + 13 + 2, 0, 0, 0, 0, 0, 0, 0])), .inl 16, .inl 16, .inl 16, .inl 8, .inl 8, .inl 64, .inl 600]) M2 s H locs := h
  refine lv_aload_n hx hb dX10_init_35 rfl (lv_at hl 0 rfl) ?_
  refine cy_new (i0 := 15) hn rfl X h hz (by omega) (h0 _ (by omega)) (fsN := [1, 1, 1, 1, 1, 1, 0, 0]) (ci := 2) inX2 tyX2_ok (fx_s1 (List.mem_of_getElem? (i := 156) rfl) rfl) (fx_s1 (List.mem_of_getElem? (i := 157) rfl) rfl) (fx_s1 (List.mem_of_getElem? (i := 5) rfl) rfl) rfl (nd_2 _) (Nat.le_of_ble_eq_true rfl) (Nat.le_of_ble_eq_true rfl) dX10_init_36 (fun H h => ?_)
  have h : fx_H G (S0 ++ [.inr (.inr (10, [n + 1 + 2, n + 7 + 2, n + 14 + 2, 1, 1, 1])), .inr (.inr (1, [0, 0, n + 2 + 2, n + 3 + 2, n + 4 + 2, n + 5 + 2, n + 6 + 2])), .inl 16, .inl 16, .inl 16, .inl 8, .inl 8, .inr (.inr (6, [n + 8 + 2, n + 9 + 2, n + 10 + 2, n + 11 + 2, n + 12 + 2, n + 13 + 2, 0, 0, 0, 0, 0, 0, 0])), .inl 16, .inl 16, .inl 16, .inl 8, .inl 8, .inl 64, .inl 600, .inr (.inr (2, [1, 1, 1, 1, 1, 1, 0, 0]))]) M2 s H _ := h
  refine W.widen (k := 15) (n := 820) (by omega) (by omega) ?_
  refine lv_dup hx hb dX10_init_39 rfl ?_
  refine cy_call (L := [.inr (.inr (10, [n + 1 + 2, n + 7 + 2, n + 14 + 2, 1, 1, 1])), .inr (.inr (1, [0, 0, n + 2 + 2, n + 3 + 2, n + 4 + 2, n + 5 + 2, n + 6 + 2])), .inl 16, .inl 16, .inl 16, .inl 8, .inl 8, .inr (.inr (6, [n + 8 + 2, n + 9 + 2, n + 10 + 2, n + 11 + 2, n + 12 + 2, n + 13 + 2, 0, 0, 0, 0, 0, 0, 0])), .inl 16, .inl 16, .inl 16, .inl 8, .inl 8, .inl 64, .inl 600]) (x := .inr (.inr (2, [1, 1, 1, 1, 1, 1, 0, 0]))) (i0 := 15) (k := n + 15) (d := 1) hn rfl X hO h hz (by omega) ym_X2_init yi_X2_init (Or.inr ⟨_, nq_RX10_31⟩) rfl (ci_Law l G (S0 := S0 ++ [.inr (.inr (10, [n + 1 + 2, n + 7 + 2, n + 14 + 2, 1, 1, 1])), .inr (.inr (1, [0, 0, n + 2 + 2, n + 3 + 2, n + 4 + 2, n + 5 + 2, n + 6 + 2])), .inl 16, .inl 16, .inl 16, .inl 8, .inl 8, .inr (.inr (6, [n + 8 + 2, n + 9 + 2, n + 10 + 2, n + 11 + 2, n + 12 + 2, n + 13 + 2, 0, 0, 0, 0, 0, 0, 0])), .inl 16, .inl 16, .inl 16, .inl 8, .inl 8, .inl 64, .inl 600]) (n := n + 15) (M := M2) (cy_len hn rfl) (fun a ha => h0 a (by omega))) (As := []) (rest := [.ref (G.2.2.2 + (n + 15)), .ref (G.2.2.2 + (n + 0))]) rfl rfl ⟨by simp only [cx_rm]; omega, by simp only [cx_rm]; omega⟩ ⟨by simp only [cx_rm]; omega, by simp only [cx_rm]; omega⟩ hl.1 (Nat.le_of_ble_eq_true rfl) dX10_init_40 (fun S9 M9 H locs hK9 h => ?_)
  have hK9 : (S9, M9) = _ := hK9
  obtain ⟨rfl, eK9⟩ := Prod.mk.inj hK9
  rw [List.append_assoc] at h
  have h : fx_H G (S0 ++ [.inr (.inr (10, [n + 1 + 2, n + 7 + 2, n + 14 + 2, 1, 1, 1])), .inr (.inr (1, [0, 0, n + 2 + 2, n + 3 + 2, n + 4 + 2, n + 5 + 2, n + 6 + 2])), .inl 16, .inl 16, .inl 16, .inl 8, .inl 8, .inr (.inr (6, [n + 8 + 2, n + 9 + 2, n + 10 + 2, n + 11 + 2, n + 12 + 2, n + 13 + 2, 0, 0, 0, 0, 0, 0, 0])), .inl 16, .inl 16, .inl 16, .inl 8, .inl 8, .inl 64, .inl 600, .inr (.inr (2, [n + 16 + 2, n + 17 + 2, n + 18 + 2, n + 19 + 2, n + 20 + 2, n + 21 + 2, 0, 0])), .inl 400, .inl 16, .inl 16, .inl 16, .inl 12, .inl 32]) M9 s H locs := h
  refine W.widen (k := 21) (n := 1312) (by omega) (by omega) ?_
  rw [eK9] at h
  obtain ⟨M3, eM3⟩ : ∃ z : Mm, z = CM_Law (n + 15) M2 := ⟨_, rfl⟩
  rw [← eM3] at h
  have h0 : ∀ a, n + 22 ≤ a → M3 a = fun _ => 0 := fun a ha => by rw [eM3, cz_Law _ _ _ (by omega)]; exact h0 a (by omega)
  refine cx_putR (k := n + 0) (j := 3) (r := n + 15) (ty := .object "MockParcels$Law") X hin h ((ap_at hn 0).trans rfl) fl_RX10_32 (Nat.le_of_ble_eq_true rfl) (fun C T N q => by cases q; rfl) (by decide +kernel) rfl rfl dX10_init_43 (fun H locs h => ?_)
  rw [ap_set hn 0] at h
  have h : fx_H G (S0 ++ [.inr (.inr (10, [n + 1 + 2, n + 7 + 2, n + 14 + 2, n + 15 + 2, 1, 1])), .inr (.inr (1, [0, 0, n + 2 + 2, n + 3 + 2, n + 4 + 2, n + 5 + 2, n + 6 + 2])), .inl 16, .inl 16, .inl 16, .inl 8, .inl 8, .inr (.inr (6, [n + 8 + 2, n + 9 + 2, n + 10 + 2, n + 11 + 2, n + 12 + 2, n + 13 + 2, 0, 0, 0, 0, 0, 0, 0])), .inl 16, .inl 16, .inl 16, .inl 8, .inl 8, .inl 64, .inl 600, .inr (.inr (2, [n + 16 + 2, n + 17 + 2, n + 18 + 2, n + 19 + 2, n + 20 + 2, n + 21 + 2, 0, 0])), .inl 400, .inl 16, .inl 16, .inl 16, .inl 12, .inl 32]) M3 s H locs := h
  refine lv_aload_n hx hb dX10_init_46 rfl (lv_at hl 0 rfl) ?_
  refine cy_new (i0 := 22) hn rfl X h hz (by omega) (h0 _ (by omega)) (fsN := [1, 1, 1, 1, 1, 1, 0, 0, 0]) (ci := 5) inX5 tyX5_ok (fx_s1 (List.mem_of_getElem? (i := 190) rfl) rfl) (fx_s1 (List.mem_of_getElem? (i := 191) rfl) rfl) (fx_s1 (List.mem_of_getElem? (i := 6) rfl) rfl) rfl (nd_5 _) (Nat.le_of_ble_eq_true rfl) (Nat.le_of_ble_eq_true rfl) dX10_init_47 (fun H h => ?_)
  have h : fx_H G (S0 ++ [.inr (.inr (10, [n + 1 + 2, n + 7 + 2, n + 14 + 2, n + 15 + 2, 1, 1])), .inr (.inr (1, [0, 0, n + 2 + 2, n + 3 + 2, n + 4 + 2, n + 5 + 2, n + 6 + 2])), .inl 16, .inl 16, .inl 16, .inl 8, .inl 8, .inr (.inr (6, [n + 8 + 2, n + 9 + 2, n + 10 + 2, n + 11 + 2, n + 12 + 2, n + 13 + 2, 0, 0, 0, 0, 0, 0, 0])), .inl 16, .inl 16, .inl 16, .inl 8, .inl 8, .inl 64, .inl 600, .inr (.inr (2, [n + 16 + 2, n + 17 + 2, n + 18 + 2, n + 19 + 2, n + 20 + 2, n + 21 + 2, 0, 0])), .inl 400, .inl 16, .inl 16, .inl 16, .inl 12, .inl 32, .inr (.inr (5, [1, 1, 1, 1, 1, 1, 0, 0, 0]))]) M3 s H _ := h
  refine W.widen (k := 22) (n := 1321) (by omega) (by omega) ?_
  refine lv_dup hx hb dX10_init_50 rfl ?_
  refine cy_call (L := [.inr (.inr (10, [n + 1 + 2, n + 7 + 2, n + 14 + 2, n + 15 + 2, 1, 1])), .inr (.inr (1, [0, 0, n + 2 + 2, n + 3 + 2, n + 4 + 2, n + 5 + 2, n + 6 + 2])), .inl 16, .inl 16, .inl 16, .inl 8, .inl 8, .inr (.inr (6, [n + 8 + 2, n + 9 + 2, n + 10 + 2, n + 11 + 2, n + 12 + 2, n + 13 + 2, 0, 0, 0, 0, 0, 0, 0])), .inl 16, .inl 16, .inl 16, .inl 8, .inl 8, .inl 64, .inl 600, .inr (.inr (2, [n + 16 + 2, n + 17 + 2, n + 18 + 2, n + 19 + 2, n + 20 + 2, n + 21 + 2, 0, 0])), .inl 400, .inl 16, .inl 16, .inl 16, .inl 12, .inl 32]) (x := .inr (.inr (5, [1, 1, 1, 1, 1, 1, 0, 0, 0]))) (i0 := 22) (k := n + 22) (d := 1) hn rfl X hO h hz (by omega) ym_X5_init yi_X5_init (Or.inl (fx_s1 (List.mem_of_getElem? (i := 192) rfl) rfl)) rfl (ci_Plans l G (S0 := S0 ++ [.inr (.inr (10, [n + 1 + 2, n + 7 + 2, n + 14 + 2, n + 15 + 2, 1, 1])), .inr (.inr (1, [0, 0, n + 2 + 2, n + 3 + 2, n + 4 + 2, n + 5 + 2, n + 6 + 2])), .inl 16, .inl 16, .inl 16, .inl 8, .inl 8, .inr (.inr (6, [n + 8 + 2, n + 9 + 2, n + 10 + 2, n + 11 + 2, n + 12 + 2, n + 13 + 2, 0, 0, 0, 0, 0, 0, 0])), .inl 16, .inl 16, .inl 16, .inl 8, .inl 8, .inl 64, .inl 600, .inr (.inr (2, [n + 16 + 2, n + 17 + 2, n + 18 + 2, n + 19 + 2, n + 20 + 2, n + 21 + 2, 0, 0])), .inl 400, .inl 16, .inl 16, .inl 16, .inl 12, .inl 32]) (n := n + 22) (M := M3) (cy_len hn rfl) (fun a ha => h0 a (by omega))) (As := []) (rest := [.ref (G.2.2.2 + (n + 22)), .ref (G.2.2.2 + (n + 0))]) rfl rfl ⟨by simp only [cx_rm]; omega, by simp only [cx_rm]; omega⟩ ⟨by simp only [cx_rm]; omega, by simp only [cx_rm]; omega⟩ hl.1 (Nat.le_of_ble_eq_true rfl) dX10_init_51 (fun S9 M9 H locs hK9 h => ?_)
  have hK9 : (S9, M9) = _ := hK9
  obtain ⟨rfl, eK9⟩ := Prod.mk.inj hK9
  rw [List.append_assoc] at h
  have h : fx_H G (S0 ++ [.inr (.inr (10, [n + 1 + 2, n + 7 + 2, n + 14 + 2, n + 15 + 2, 1, 1])), .inr (.inr (1, [0, 0, n + 2 + 2, n + 3 + 2, n + 4 + 2, n + 5 + 2, n + 6 + 2])), .inl 16, .inl 16, .inl 16, .inl 8, .inl 8, .inr (.inr (6, [n + 8 + 2, n + 9 + 2, n + 10 + 2, n + 11 + 2, n + 12 + 2, n + 13 + 2, 0, 0, 0, 0, 0, 0, 0])), .inl 16, .inl 16, .inl 16, .inl 8, .inl 8, .inl 64, .inl 600, .inr (.inr (2, [n + 16 + 2, n + 17 + 2, n + 18 + 2, n + 19 + 2, n + 20 + 2, n + 21 + 2, 0, 0])), .inl 400, .inl 16, .inl 16, .inl 16, .inl 12, .inl 32, .inr (.inr (5, [n + 23 + 2, n + 24 + 2, n + 25 + 2, n + 26 + 2, n + 27 + 2, n + 28 + 2, 0, 0, 0])), .inl 8, .inl 64, .inl 16, .inl 16, .inl 16, .inl 16]) M9 s H locs := h
  refine W.widen (k := 28) (n := 1457) (by omega) (by omega) ?_
  rw [eK9] at h
  obtain ⟨M4, eM4⟩ : ∃ z : Mm, z = CM_Plans (n + 22) M3 := ⟨_, rfl⟩
  rw [← eM4] at h
  have h0 : ∀ a, n + 29 ≤ a → M4 a = fun _ => 0 := fun a ha => by rw [eM4, cz_Plans _ _ _ (by omega)]; exact h0 a (by omega)
  refine cx_putR (k := n + 0) (j := 4) (r := n + 22) (ty := .object "MockParcels$Plans") X hin h ((ap_at hn 0).trans rfl) fl_RX10_39 (Nat.le_of_ble_eq_true rfl) (fun C T N q => by cases q; rfl) (by decide +kernel) rfl rfl dX10_init_54 (fun H locs h => ?_)
  rw [ap_set hn 0] at h
  have h : fx_H G (S0 ++ [.inr (.inr (10, [n + 1 + 2, n + 7 + 2, n + 14 + 2, n + 15 + 2, n + 22 + 2, 1])), .inr (.inr (1, [0, 0, n + 2 + 2, n + 3 + 2, n + 4 + 2, n + 5 + 2, n + 6 + 2])), .inl 16, .inl 16, .inl 16, .inl 8, .inl 8, .inr (.inr (6, [n + 8 + 2, n + 9 + 2, n + 10 + 2, n + 11 + 2, n + 12 + 2, n + 13 + 2, 0, 0, 0, 0, 0, 0, 0])), .inl 16, .inl 16, .inl 16, .inl 8, .inl 8, .inl 64, .inl 600, .inr (.inr (2, [n + 16 + 2, n + 17 + 2, n + 18 + 2, n + 19 + 2, n + 20 + 2, n + 21 + 2, 0, 0])), .inl 400, .inl 16, .inl 16, .inl 16, .inl 12, .inl 32, .inr (.inr (5, [n + 23 + 2, n + 24 + 2, n + 25 + 2, n + 26 + 2, n + 27 + 2, n + 28 + 2, 0, 0, 0])), .inl 8, .inl 64, .inl 16, .inl 16, .inl 16, .inl 16]) M4 s H locs := h
  refine lv_aload_n hx hb dX10_init_57 rfl (lv_at hl 0 rfl) ?_
  refine cy_new (i0 := 29) hn rfl X h hz (by omega) (h0 _ (by omega)) (fsN := [1, 1, 1, 1, 1, 1, 1, 1, 1, 0, 0, 0, 0, 0]) (ci := 9) inX9 tyX9_ok (fx_s1 (List.mem_of_getElem? (i := 237) rfl) rfl) (fx_s1 (List.mem_of_getElem? (i := 238) rfl) rfl) (fx_s1 (List.mem_of_getElem? (i := 7) rfl) rfl) rfl (nd_9 _) (Nat.le_of_ble_eq_true rfl) (Nat.le_of_ble_eq_true rfl) dX10_init_58 (fun H h => ?_)
  have h : fx_H G (S0 ++ [.inr (.inr (10, [n + 1 + 2, n + 7 + 2, n + 14 + 2, n + 15 + 2, n + 22 + 2, 1])), .inr (.inr (1, [0, 0, n + 2 + 2, n + 3 + 2, n + 4 + 2, n + 5 + 2, n + 6 + 2])), .inl 16, .inl 16, .inl 16, .inl 8, .inl 8, .inr (.inr (6, [n + 8 + 2, n + 9 + 2, n + 10 + 2, n + 11 + 2, n + 12 + 2, n + 13 + 2, 0, 0, 0, 0, 0, 0, 0])), .inl 16, .inl 16, .inl 16, .inl 8, .inl 8, .inl 64, .inl 600, .inr (.inr (2, [n + 16 + 2, n + 17 + 2, n + 18 + 2, n + 19 + 2, n + 20 + 2, n + 21 + 2, 0, 0])), .inl 400, .inl 16, .inl 16, .inl 16, .inl 12, .inl 32, .inr (.inr (5, [n + 23 + 2, n + 24 + 2, n + 25 + 2, n + 26 + 2, n + 27 + 2, n + 28 + 2, 0, 0, 0])), .inl 8, .inl 64, .inl 16, .inl 16, .inl 16, .inl 16, .inr (.inr (9, [1, 1, 1, 1, 1, 1, 1, 1, 1, 0, 0, 0, 0, 0]))]) M4 s H _ := h
  refine W.widen (k := 29) (n := 1471) (by omega) (by omega) ?_
  refine lv_dup hx hb dX10_init_61 rfl ?_
  refine cy_call (L := [.inr (.inr (10, [n + 1 + 2, n + 7 + 2, n + 14 + 2, n + 15 + 2, n + 22 + 2, 1])), .inr (.inr (1, [0, 0, n + 2 + 2, n + 3 + 2, n + 4 + 2, n + 5 + 2, n + 6 + 2])), .inl 16, .inl 16, .inl 16, .inl 8, .inl 8, .inr (.inr (6, [n + 8 + 2, n + 9 + 2, n + 10 + 2, n + 11 + 2, n + 12 + 2, n + 13 + 2, 0, 0, 0, 0, 0, 0, 0])), .inl 16, .inl 16, .inl 16, .inl 8, .inl 8, .inl 64, .inl 600, .inr (.inr (2, [n + 16 + 2, n + 17 + 2, n + 18 + 2, n + 19 + 2, n + 20 + 2, n + 21 + 2, 0, 0])), .inl 400, .inl 16, .inl 16, .inl 16, .inl 12, .inl 32, .inr (.inr (5, [n + 23 + 2, n + 24 + 2, n + 25 + 2, n + 26 + 2, n + 27 + 2, n + 28 + 2, 0, 0, 0])), .inl 8, .inl 64, .inl 16, .inl 16, .inl 16, .inl 16]) (x := .inr (.inr (9, [1, 1, 1, 1, 1, 1, 1, 1, 1, 0, 0, 0, 0, 0]))) (i0 := 29) (k := n + 29) (d := 1) hn rfl X hO h hz (by omega) ym_X9_init yi_X9_init (Or.inl (fx_s1 (List.mem_of_getElem? (i := 239) rfl) rfl)) rfl (ci_Told l G (S0 := S0 ++ [.inr (.inr (10, [n + 1 + 2, n + 7 + 2, n + 14 + 2, n + 15 + 2, n + 22 + 2, 1])), .inr (.inr (1, [0, 0, n + 2 + 2, n + 3 + 2, n + 4 + 2, n + 5 + 2, n + 6 + 2])), .inl 16, .inl 16, .inl 16, .inl 8, .inl 8, .inr (.inr (6, [n + 8 + 2, n + 9 + 2, n + 10 + 2, n + 11 + 2, n + 12 + 2, n + 13 + 2, 0, 0, 0, 0, 0, 0, 0])), .inl 16, .inl 16, .inl 16, .inl 8, .inl 8, .inl 64, .inl 600, .inr (.inr (2, [n + 16 + 2, n + 17 + 2, n + 18 + 2, n + 19 + 2, n + 20 + 2, n + 21 + 2, 0, 0])), .inl 400, .inl 16, .inl 16, .inl 16, .inl 12, .inl 32, .inr (.inr (5, [n + 23 + 2, n + 24 + 2, n + 25 + 2, n + 26 + 2, n + 27 + 2, n + 28 + 2, 0, 0, 0])), .inl 8, .inl 64, .inl 16, .inl 16, .inl 16, .inl 16]) (n := n + 29) (M := M4) (cy_len hn rfl) (fun a ha => h0 a (by omega))) (As := []) (rest := [.ref (G.2.2.2 + (n + 29)), .ref (G.2.2.2 + (n + 0))]) rfl rfl ⟨by simp only [cx_rm]; omega, by simp only [cx_rm]; omega⟩ ⟨by simp only [cx_rm]; omega, by simp only [cx_rm]; omega⟩ hl.1 (Nat.le_of_ble_eq_true rfl) dX10_init_62 (fun S9 M9 H locs hK9 h => ?_)
  have hK9 : (S9, M9) = _ := hK9
  obtain ⟨rfl, eK9⟩ := Prod.mk.inj hK9
  rw [List.append_assoc] at h
  have h : fx_H G (S0 ++ [.inr (.inr (10, [n + 1 + 2, n + 7 + 2, n + 14 + 2, n + 15 + 2, n + 22 + 2, 1])), .inr (.inr (1, [0, 0, n + 2 + 2, n + 3 + 2, n + 4 + 2, n + 5 + 2, n + 6 + 2])), .inl 16, .inl 16, .inl 16, .inl 8, .inl 8, .inr (.inr (6, [n + 8 + 2, n + 9 + 2, n + 10 + 2, n + 11 + 2, n + 12 + 2, n + 13 + 2, 0, 0, 0, 0, 0, 0, 0])), .inl 16, .inl 16, .inl 16, .inl 8, .inl 8, .inl 64, .inl 600, .inr (.inr (2, [n + 16 + 2, n + 17 + 2, n + 18 + 2, n + 19 + 2, n + 20 + 2, n + 21 + 2, 0, 0])), .inl 400, .inl 16, .inl 16, .inl 16, .inl 12, .inl 32, .inr (.inr (5, [n + 23 + 2, n + 24 + 2, n + 25 + 2, n + 26 + 2, n + 27 + 2, n + 28 + 2, 0, 0, 0])), .inl 8, .inl 64, .inl 16, .inl 16, .inl 16, .inl 16, .inr (.inr (9, [n + 30 + 2, n + 31 + 2, n + 32 + 2, n + 33 + 2, n + 34 + 2, n + 35 + 2, n + 36 + 2, n + 37 + 2, n + 38 + 2, 0, 0, 0, 0, 0])), .inl 8, .inl 9, .inl 6, .inl 64, .inl 7, .inl 7, .inl 8, .inl 8, .inl 20]) M9 s H locs := h
  refine W.widen (k := 38) (n := 1608) (by omega) (by omega) ?_
  rw [eK9] at h
  obtain ⟨M5, eM5⟩ : ∃ z : Mm, z = CM_Told (n + 29) M4 := ⟨_, rfl⟩
  rw [← eM5] at h
  have h0 : ∀ a, n + 39 ≤ a → M5 a = fun _ => 0 := fun a ha => by rw [eM5, cz_Told _ _ _ (by omega)]; exact h0 a (by omega)
  refine cx_putR (k := n + 0) (j := 5) (r := n + 29) (ty := .object "MockParcels$Told") X hin h ((ap_at hn 0).trans rfl) fl_RX10_46 (Nat.le_of_ble_eq_true rfl) (fun C T N q => by cases q; rfl) (by decide +kernel) rfl rfl dX10_init_65 (fun H locs h => ?_)
  rw [ap_set hn 0] at h
  have h : fx_H G (S0 ++ [.inr (.inr (10, [n + 1 + 2, n + 7 + 2, n + 14 + 2, n + 15 + 2, n + 22 + 2, n + 29 + 2])), .inr (.inr (1, [0, 0, n + 2 + 2, n + 3 + 2, n + 4 + 2, n + 5 + 2, n + 6 + 2])), .inl 16, .inl 16, .inl 16, .inl 8, .inl 8, .inr (.inr (6, [n + 8 + 2, n + 9 + 2, n + 10 + 2, n + 11 + 2, n + 12 + 2, n + 13 + 2, 0, 0, 0, 0, 0, 0, 0])), .inl 16, .inl 16, .inl 16, .inl 8, .inl 8, .inl 64, .inl 600, .inr (.inr (2, [n + 16 + 2, n + 17 + 2, n + 18 + 2, n + 19 + 2, n + 20 + 2, n + 21 + 2, 0, 0])), .inl 400, .inl 16, .inl 16, .inl 16, .inl 12, .inl 32, .inr (.inr (5, [n + 23 + 2, n + 24 + 2, n + 25 + 2, n + 26 + 2, n + 27 + 2, n + 28 + 2, 0, 0, 0])), .inl 8, .inl 64, .inl 16, .inl 16, .inl 16, .inl 16, .inr (.inr (9, [n + 30 + 2, n + 31 + 2, n + 32 + 2, n + 33 + 2, n + 34 + 2, n + 35 + 2, n + 36 + 2, n + 37 + 2, n + 38 + 2, 0, 0, 0, 0, 0])), .inl 8, .inl 9, .inl 6, .inl 64, .inl 7, .inl 7, .inl 8, .inl 8, .inl 20]) M5 s H locs := h
  exact cy_ret X hr hk h (Prod.ext_iff.mpr ⟨rfl, by rw [eM5, eM4, eM3, eM2, eM1]; rfl⟩) dX10_init_68
theorem dX4_init_0 : decode cX4_init 0 = .ok (.aload_n 0, 1) := by decide +kernel
theorem dX4_init_1 : decode cX4_init 1 = .ok (.invokespecial 3, 3) := by decide +kernel
theorem dX4_init_4 : decode cX4_init 4 = .ok (.aload_n 0, 1) := by decide +kernel
theorem dX4_init_5 : decode cX4_init 5 = .ok (.bipush 6, 2) := by decide +kernel
theorem dX4_init_7 : decode cX4_init 7 = .ok (.anewarray 9, 3) := by decide +kernel
theorem dX4_init_10 : decode cX4_init 10 = .ok (.putfield 11, 3) := by decide +kernel
theorem dX4_init_13 : decode cX4_init 13 = .ok (.aload_n 0, 1) := by decide +kernel
theorem dX4_init_14 : decode cX4_init 14 = .ok (.iconst 0, 1) := by decide +kernel
theorem dX4_init_15 : decode cX4_init 15 = .ok (.putfield 17, 3) := by decide +kernel
theorem dX4_init_18 : decode cX4_init 18 = .ok (.aload_n 0, 1) := by decide +kernel
theorem dX4_init_19 : decode cX4_init 19 = .ok (.iconst 0, 1) := by decide +kernel
theorem dX4_init_20 : decode cX4_init 20 = .ok (.putfield 21, 3) := by decide +kernel
theorem dX4_init_23 : decode cX4_init 23 = .ok (.iconst 0, 1) := by decide +kernel
theorem dX4_init_24 : decode cX4_init 24 = .ok (.istore_n 1, 1) := by decide +kernel
theorem dX4_init_25 : decode cX4_init 25 = .ok (.iload_n 1, 1) := by decide +kernel
theorem dX4_init_26 : decode cX4_init 26 = .ok (.bipush 6, 2) := by decide +kernel
theorem dX4_init_28 : decode cX4_init 28 = .ok (.if_icmp .ge 22, 3) := by decide +kernel
theorem dX4_init_31 : decode cX4_init 31 = .ok (.aload_n 0, 1) := by decide +kernel
theorem dX4_init_32 : decode cX4_init 32 = .ok (.getfield 11, 3) := by decide +kernel
theorem dX4_init_35 : decode cX4_init 35 = .ok (.iload_n 1, 1) := by decide +kernel
theorem dX4_init_36 : decode cX4_init 36 = .ok (.new 9, 3) := by decide +kernel
theorem dX4_init_39 : decode cX4_init 39 = .ok (.dup, 1) := by decide +kernel
theorem dX4_init_40 : decode cX4_init 40 = .ok (.invokespecial 24, 3) := by decide +kernel
theorem dX4_init_43 : decode cX4_init 43 = .ok (.aastore, 1) := by decide +kernel
theorem dX4_init_44 : decode cX4_init 44 = .ok (.iinc 1 1, 3) := by decide +kernel
theorem dX4_init_47 : decode cX4_init 47 = .ok (.goto (-22), 3) := by decide +kernel
theorem dX4_init_50 : decode cX4_init 50 = .ok (.return_, 1) := by decide +kernel
def CM_Past (n : Nat) (M : Mm) : Mm := (CM_Quay (n + 37) (CM_Quay (n + 30) (CM_Quay (n + 23) (CM_Quay (n + 16) (CM_Quay (n + 9) (CM_Quay (n + 2) (m_up (m_up M (n + 0) 1 (0 : Int32)) (n + 0) 2 (0 : Int32))))))))
set_option maxRecDepth 100000 in
theorem cz_Past (n : Nat) (M : Mm) (a : Nat) (h : n + 44 ≤ a) : CM_Past n M a = M a := by
  unfold CM_Past
  rw [cz_Quay _ _ _ (by omega), cz_Quay _ _ _ (by omega), cz_Quay _ _ _ (by omega), cz_Quay _ _ _ (by omega), cz_Quay _ _ _ (by omega), cz_Quay _ _ _ (by omega), m_up_ne (by omega), m_up_ne (by omega)]
set_option maxHeartbeats 4000000 in
set_option maxRecDepth 100000 in
theorem ci_Past (l : Launch) (G : fx_G) {S0 : List fx_S} {n : Nat} {M : Mm} (hn : S0.length = n) (h0 : ∀ a, n ≤ a → M a = fun _ => 0) : Met l yX4_init (fx_ws yX4_init cX4_init 2 none) (cx_rm 2 43 852) (va_Pc [.ref (G.2.2.2 + (n + 0))] (cx_P G (S0 ++ [.inr (.inr (4, [1, 0, 0]))]) M)) (va_Qv (fun u => u = (S0 ++ [.inr (.inr (4, [n + 1 + 2, 0, 0])), .inr (.inl [n + 2 + 1, n + 9 + 1, n + 16 + 1, n + 23 + 1, n + 30 + 1, n + 37 + 1]), .inr (.inr (6, [n + 3 + 2, n + 4 + 2, n + 5 + 2, n + 6 + 2, n + 7 + 2, n + 8 + 2, 0, 0, 0, 0, 0, 0, 0])), .inl 16, .inl 16, .inl 16, .inl 8, .inl 8, .inl 64, .inr (.inr (6, [n + 10 + 2, n + 11 + 2, n + 12 + 2, n + 13 + 2, n + 14 + 2, n + 15 + 2, 0, 0, 0, 0, 0, 0, 0])), .inl 16, .inl 16, .inl 16, .inl 8, .inl 8, .inl 64, .inr (.inr (6, [n + 17 + 2, n + 18 + 2, n + 19 + 2, n + 20 + 2, n + 21 + 2, n + 22 + 2, 0, 0, 0, 0, 0, 0, 0])), .inl 16, .inl 16, .inl 16, .inl 8, .inl 8, .inl 64, .inr (.inr (6, [n + 24 + 2, n + 25 + 2, n + 26 + 2, n + 27 + 2, n + 28 + 2, n + 29 + 2, 0, 0, 0, 0, 0, 0, 0])), .inl 16, .inl 16, .inl 16, .inl 8, .inl 8, .inl 64, .inr (.inr (6, [n + 31 + 2, n + 32 + 2, n + 33 + 2, n + 34 + 2, n + 35 + 2, n + 36 + 2, 0, 0, 0, 0, 0, 0, 0])), .inl 16, .inl 16, .inl 16, .inl 8, .inl 8, .inl 64, .inr (.inr (6, [n + 38 + 2, n + 39 + 2, n + 40 + 2, n + 41 + 2, n + 42 + 2, n + 43 + 2, 0, 0, 0, 0, 0, 0, 0])), .inl 16, .inl 16, .inl 16, .inl 8, .inl 8, .inl 64], CM_Past n M)) (cx_R G) (fx_A G)) 43 852 (fx_A G) := by
  refine cy_met (own := RX4) (by decide +kernel) rfl rfl (Nat.le_of_ble_eq_true rfl) (fun p e s m below meth c X hr hk hin hO h hsz ls hl => ?_)
  obtain ⟨⟨hx, hb, hml, hown, hts⟩, hK, hQ⟩ := id X
  have hsz : s.heap.size = G.2.2.2 + (n + 1) := by rw [hsz, List.length_append, hn]; rfl
  have hz : G.2.2.2 ≤ s.heap.size := by omega
  have h0 : ∀ a, n + 1 ≤ a → M a = fun _ => 0 := fun a ha => h0 a (by omega)
  have hl : lv_has ls 2 [(0, .ref (G.2.2.2 + (n + 0)))] := hl
  refine lv_aload_n hx hb dX4_init_0 rfl (lv_at hl 0 rfl) ?_
  refine W.objInit hx hb hown (hts _ (fx_s2 (List.mem_of_getElem? (i := 104) rfl) rfl)) (hts _ (fx_s1 (List.mem_of_getElem? (i := 27) rfl) rfl)) (hts _ ob_c) rfl (by rw [hml]; exact hl.1) rfl dX4_init_1 (Nat.le_of_ble_eq_true rfl) (Nat.le_of_ble_eq_true rfl) ?_
  refine W.eq (g2 := F0 m 4 ls []) rfl ?_
  refine lv_aload_n hx hb dX4_init_4 rfl (lv_at hl 0 rfl) ?_
  refine lv_bipush (v := 6) hx hb dX4_init_5 (by decide) ?_
  refine cy_anew (i0 := 1) (N := 6) (ids := [0, 0, 0, 0, 0, 0]) hn rfl X hO h hz (by omega) (fx_s2 (List.mem_of_getElem? (i := 105) rfl) rfl) (by decide) (by decide) (by decide) (Nat.le_of_ble_eq_true rfl) (Nat.le_of_ble_eq_true rfl) dX4_init_7 rfl (fun H h => ?_)
  have h : fx_H G (S0 ++ [.inr (.inr (4, [1, 0, 0])), .inr (.inl [0, 0, 0, 0, 0, 0])]) M s H _ := h
  refine W.widen (k := 1) (n := 6) (by omega) (by omega) ?_
  refine cx_putR (k := n + 0) (j := 0) (r := n + 1) (ty := .array (.object "MockParcels$Quay")) X hin h ((ap_at hn 0).trans rfl) fl_RX4_11 (Nat.le_of_ble_eq_true rfl) (fun C T N q => by cases q; rfl) (by decide +kernel) rfl rfl dX4_init_10 (fun H locs h => ?_)
  rw [ap_set hn 0] at h
  have h : fx_H G (S0 ++ [.inr (.inr (4, [n + 1 + 2, 0, 0])), .inr (.inl [0, 0, 0, 0, 0, 0])]) M s H locs := h
  refine lv_aload_n hx hb dX4_init_13 rfl (lv_at hl 0 rfl) ?_
  refine lv_iconst (v := 0) hx hb dX4_init_14 (by decide) ?_
  refine fx_putI X h (k := n + 0) (j := 1) ((ap_at hn 0).trans rfl) rfl fl_RX4_17 dX4_init_15 (fun H locs h => ?_)
  obtain ⟨M1, eM1⟩ : ∃ z : Mm, z = m_up M (n + 0) 1 (0 : Int32) := ⟨_, rfl⟩
  rw [← eM1] at h
  have h0 : ∀ a, n + 2 ≤ a → M1 a = fun _ => 0 := fun a ha => by rw [eM1, m_up_ne (by omega)]; exact h0 a (by omega)
  refine lv_aload_n hx hb dX4_init_18 rfl (lv_at hl 0 rfl) ?_
  refine lv_iconst (v := 0) hx hb dX4_init_19 (by decide) ?_
  refine fx_putI X h (k := n + 0) (j := 2) ((ap_at hn 0).trans rfl) rfl fl_RX4_21 dX4_init_20 (fun H locs h => ?_)
  obtain ⟨M2, eM2⟩ : ∃ z : Mm, z = m_up M1 (n + 0) 2 (0 : Int32) := ⟨_, rfl⟩
  rw [← eM2] at h
  have h0 : ∀ a, n + 2 ≤ a → M2 a = fun _ => 0 := fun a ha => by rw [eM2, m_up_ne (by omega)]; exact h0 a (by omega)
  refine lv_iconst (v := 0) hx hb dX4_init_23 (by decide) ?_
  refine lv_istore_n (lv' := [(1, .int (0 : Int32)), (0, .ref (G.2.2.2 + (n + 0)))]) hx hb dX4_init_24 rfl hl (by decide) rfl (fun ls hl => ?_)
  refine lv_iload_n hx hb dX4_init_25 rfl (lv_at hl 0 rfl) ?_
  refine lv_bipush (v := 6) hx hb dX4_init_26 (by decide) ?_
  refine lv_icmp_ge (tgt := 50) hx hb dX4_init_28 (by decide) (fun hc => absurd hc (by decide)) (fun _ => ?_)
  refine lv_aload_n hx hb dX4_init_31 rfl (lv_at hl 1 rfl) ?_
  refine fx_getR X h (k := n + 0) (j := 0) (r := n + 1) ((ap_at hn 0).trans rfl) rfl fl_RX4_11 dX4_init_32 ?_
  refine lv_iload_n hx hb dX4_init_35 rfl (lv_at hl 0 rfl) ?_
  refine cy_new (i0 := 2) hn rfl X h hz (by omega) (h0 _ (by omega)) (fsN := [1, 1, 1, 1, 1, 1, 0, 0, 0, 0, 0, 0, 0]) (ci := 6) inX6 tyX6_ok (fx_s2 (List.mem_of_getElem? (i := 105) rfl) rfl) (fx_s1 (List.mem_of_getElem? (i := 82) rfl) rfl) (fx_s1 (List.mem_of_getElem? (i := 4) rfl) rfl) rfl (nd_6 _) (Nat.le_of_ble_eq_true rfl) (Nat.le_of_ble_eq_true rfl) dX4_init_36 (fun H h => ?_)
  have h : fx_H G (S0 ++ [.inr (.inr (4, [n + 1 + 2, 0, 0])), .inr (.inl [0, 0, 0, 0, 0, 0]), .inr (.inr (6, [1, 1, 1, 1, 1, 1, 0, 0, 0, 0, 0, 0, 0]))]) M2 s H _ := h
  refine W.widen (k := 2) (n := 19) (by omega) (by omega) ?_
  refine lv_dup hx hb dX4_init_39 rfl ?_
  refine cy_call (L := [.inr (.inr (4, [n + 1 + 2, 0, 0])), .inr (.inl [0, 0, 0, 0, 0, 0])]) (x := .inr (.inr (6, [1, 1, 1, 1, 1, 1, 0, 0, 0, 0, 0, 0, 0]))) (i0 := 2) (k := n + 2) (d := 1) hn rfl X hO h hz (by omega) ym_X6_init yi_X6_init (Or.inl (fx_s2 (List.mem_of_getElem? (i := 107) rfl) rfl)) rfl (ci_Quay l G (S0 := S0 ++ [.inr (.inr (4, [n + 1 + 2, 0, 0])), .inr (.inl [0, 0, 0, 0, 0, 0])]) (n := n + 2) (M := M2) (cy_len hn rfl) (fun a ha => h0 a (by omega))) (As := []) (rest := [.ref (G.2.2.2 + (n + 2)), .int (0 : Int32), .ref (G.2.2.2 + (n + 1))]) rfl rfl ⟨by simp only [cx_rm]; omega, by simp only [cx_rm]; omega⟩ ⟨by simp only [cx_rm]; omega, by simp only [cx_rm]; omega⟩ hl.1 (Nat.le_of_ble_eq_true rfl) dX4_init_40 (fun S9 M9 H locs hK9 h => ?_)
  have hK9 : (S9, M9) = _ := hK9
  obtain ⟨rfl, eK9⟩ := Prod.mk.inj hK9
  rw [List.append_assoc] at h
  have h : fx_H G (S0 ++ [.inr (.inr (4, [n + 1 + 2, 0, 0])), .inr (.inl [0, 0, 0, 0, 0, 0]), .inr (.inr (6, [n + 3 + 2, n + 4 + 2, n + 5 + 2, n + 6 + 2, n + 7 + 2, n + 8 + 2, 0, 0, 0, 0, 0, 0, 0])), .inl 16, .inl 16, .inl 16, .inl 8, .inl 8, .inl 64]) M9 s H locs := h
  refine W.widen (k := 8) (n := 147) (by omega) (by omega) ?_
  rw [eK9] at h
  obtain ⟨M3, eM3⟩ : ∃ z : Mm, z = CM_Quay (n + 2) M2 := ⟨_, rfl⟩
  rw [← eM3] at h
  have h0 : ∀ a, n + 9 ≤ a → M3 a = fun _ => 0 := fun a ha => by rw [eM3, cz_Quay _ _ _ (by omega)]; exact h0 a (by omega)
  refine cx_aast X h (k := n + 1) (r := n + 2) (i := (0 : Int32)) ((ap_at hn 1).trans rfl) ((ap_at hn 2).trans rfl) (by show vp_in _ 6; unfold vp_in; decide) dX4_init_43 (fun H locs h => ?_)
  rw [show ((0 : Int32)).toNatClampNeg = 0 by decide] at h
  rw [ap_set hn 1] at h
  have h : fx_H G (S0 ++ [.inr (.inr (4, [n + 1 + 2, 0, 0])), .inr (.inl [n + 2 + 1, 0, 0, 0, 0, 0]), .inr (.inr (6, [n + 3 + 2, n + 4 + 2, n + 5 + 2, n + 6 + 2, n + 7 + 2, n + 8 + 2, 0, 0, 0, 0, 0, 0, 0])), .inl 16, .inl 16, .inl 16, .inl 8, .inl 8, .inl 64]) M3 s H locs := h
  refine lv_iinc (v := 1) (lv' := [(1, .int (1 : Int32)), (0, .ref (G.2.2.2 + (n + 0)))]) hx hb dX4_init_44 hl (k := 0) rfl (by decide) (by decide) rfl (fun ls hl => ?_)
  refine lv_goto (tgt := 25) hx hb dX4_init_47 (by decide) ?_
  refine lv_iload_n hx hb dX4_init_25 rfl (lv_at hl 0 rfl) ?_
  refine lv_bipush (v := 6) hx hb dX4_init_26 (by decide) ?_
  refine lv_icmp_ge (tgt := 50) hx hb dX4_init_28 (by decide) (fun hc => absurd hc (by decide)) (fun _ => ?_)
  refine lv_aload_n hx hb dX4_init_31 rfl (lv_at hl 1 rfl) ?_
  refine fx_getR X h (k := n + 0) (j := 0) (r := n + 1) ((ap_at hn 0).trans rfl) rfl fl_RX4_11 dX4_init_32 ?_
  refine lv_iload_n hx hb dX4_init_35 rfl (lv_at hl 0 rfl) ?_
  refine cy_new (i0 := 9) hn rfl X h hz (by omega) (h0 _ (by omega)) (fsN := [1, 1, 1, 1, 1, 1, 0, 0, 0, 0, 0, 0, 0]) (ci := 6) inX6 tyX6_ok (fx_s2 (List.mem_of_getElem? (i := 105) rfl) rfl) (fx_s1 (List.mem_of_getElem? (i := 82) rfl) rfl) (fx_s1 (List.mem_of_getElem? (i := 4) rfl) rfl) rfl (nd_6 _) (Nat.le_of_ble_eq_true rfl) (Nat.le_of_ble_eq_true rfl) dX4_init_36 (fun H h => ?_)
  have h : fx_H G (S0 ++ [.inr (.inr (4, [n + 1 + 2, 0, 0])), .inr (.inl [n + 2 + 1, 0, 0, 0, 0, 0]), .inr (.inr (6, [n + 3 + 2, n + 4 + 2, n + 5 + 2, n + 6 + 2, n + 7 + 2, n + 8 + 2, 0, 0, 0, 0, 0, 0, 0])), .inl 16, .inl 16, .inl 16, .inl 8, .inl 8, .inl 64, .inr (.inr (6, [1, 1, 1, 1, 1, 1, 0, 0, 0, 0, 0, 0, 0]))]) M3 s H _ := h
  refine W.widen (k := 9) (n := 160) (by omega) (by omega) ?_
  refine lv_dup hx hb dX4_init_39 rfl ?_
  refine cy_call (L := [.inr (.inr (4, [n + 1 + 2, 0, 0])), .inr (.inl [n + 2 + 1, 0, 0, 0, 0, 0]), .inr (.inr (6, [n + 3 + 2, n + 4 + 2, n + 5 + 2, n + 6 + 2, n + 7 + 2, n + 8 + 2, 0, 0, 0, 0, 0, 0, 0])), .inl 16, .inl 16, .inl 16, .inl 8, .inl 8, .inl 64]) (x := .inr (.inr (6, [1, 1, 1, 1, 1, 1, 0, 0, 0, 0, 0, 0, 0]))) (i0 := 9) (k := n + 9) (d := 1) hn rfl X hO h hz (by omega) ym_X6_init yi_X6_init (Or.inl (fx_s2 (List.mem_of_getElem? (i := 107) rfl) rfl)) rfl (ci_Quay l G (S0 := S0 ++ [.inr (.inr (4, [n + 1 + 2, 0, 0])), .inr (.inl [n + 2 + 1, 0, 0, 0, 0, 0]), .inr (.inr (6, [n + 3 + 2, n + 4 + 2, n + 5 + 2, n + 6 + 2, n + 7 + 2, n + 8 + 2, 0, 0, 0, 0, 0, 0, 0])), .inl 16, .inl 16, .inl 16, .inl 8, .inl 8, .inl 64]) (n := n + 9) (M := M3) (cy_len hn rfl) (fun a ha => h0 a (by omega))) (As := []) (rest := [.ref (G.2.2.2 + (n + 9)), .int (1 : Int32), .ref (G.2.2.2 + (n + 1))]) rfl rfl ⟨by simp only [cx_rm]; omega, by simp only [cx_rm]; omega⟩ ⟨by simp only [cx_rm]; omega, by simp only [cx_rm]; omega⟩ hl.1 (Nat.le_of_ble_eq_true rfl) dX4_init_40 (fun S9 M9 H locs hK9 h => ?_)
  have hK9 : (S9, M9) = _ := hK9
  obtain ⟨rfl, eK9⟩ := Prod.mk.inj hK9
  rw [List.append_assoc] at h
  have h : fx_H G (S0 ++ [.inr (.inr (4, [n + 1 + 2, 0, 0])), .inr (.inl [n + 2 + 1, 0, 0, 0, 0, 0]), .inr (.inr (6, [n + 3 + 2, n + 4 + 2, n + 5 + 2, n + 6 + 2, n + 7 + 2, n + 8 + 2, 0, 0, 0, 0, 0, 0, 0])), .inl 16, .inl 16, .inl 16, .inl 8, .inl 8, .inl 64, .inr (.inr (6, [n + 10 + 2, n + 11 + 2, n + 12 + 2, n + 13 + 2, n + 14 + 2, n + 15 + 2, 0, 0, 0, 0, 0, 0, 0])), .inl 16, .inl 16, .inl 16, .inl 8, .inl 8, .inl 64]) M9 s H locs := h
  refine W.widen (k := 15) (n := 288) (by omega) (by omega) ?_
  rw [eK9] at h
  obtain ⟨M4, eM4⟩ : ∃ z : Mm, z = CM_Quay (n + 9) M3 := ⟨_, rfl⟩
  rw [← eM4] at h
  have h0 : ∀ a, n + 16 ≤ a → M4 a = fun _ => 0 := fun a ha => by rw [eM4, cz_Quay _ _ _ (by omega)]; exact h0 a (by omega)
  refine cx_aast X h (k := n + 1) (r := n + 9) (i := (1 : Int32)) ((ap_at hn 1).trans rfl) ((ap_at hn 9).trans rfl) (by show vp_in _ 6; unfold vp_in; decide) dX4_init_43 (fun H locs h => ?_)
  rw [show ((1 : Int32)).toNatClampNeg = 1 by decide] at h
  rw [ap_set hn 1] at h
  have h : fx_H G (S0 ++ [.inr (.inr (4, [n + 1 + 2, 0, 0])), .inr (.inl [n + 2 + 1, n + 9 + 1, 0, 0, 0, 0]), .inr (.inr (6, [n + 3 + 2, n + 4 + 2, n + 5 + 2, n + 6 + 2, n + 7 + 2, n + 8 + 2, 0, 0, 0, 0, 0, 0, 0])), .inl 16, .inl 16, .inl 16, .inl 8, .inl 8, .inl 64, .inr (.inr (6, [n + 10 + 2, n + 11 + 2, n + 12 + 2, n + 13 + 2, n + 14 + 2, n + 15 + 2, 0, 0, 0, 0, 0, 0, 0])), .inl 16, .inl 16, .inl 16, .inl 8, .inl 8, .inl 64]) M4 s H locs := h
  refine lv_iinc (v := 2) (lv' := [(1, .int (2 : Int32)), (0, .ref (G.2.2.2 + (n + 0)))]) hx hb dX4_init_44 hl (k := 0) rfl (by decide) (by decide) rfl (fun ls hl => ?_)
  refine lv_goto (tgt := 25) hx hb dX4_init_47 (by decide) ?_
  refine lv_iload_n hx hb dX4_init_25 rfl (lv_at hl 0 rfl) ?_
  refine lv_bipush (v := 6) hx hb dX4_init_26 (by decide) ?_
  refine lv_icmp_ge (tgt := 50) hx hb dX4_init_28 (by decide) (fun hc => absurd hc (by decide)) (fun _ => ?_)
  refine lv_aload_n hx hb dX4_init_31 rfl (lv_at hl 1 rfl) ?_
  refine fx_getR X h (k := n + 0) (j := 0) (r := n + 1) ((ap_at hn 0).trans rfl) rfl fl_RX4_11 dX4_init_32 ?_
  refine lv_iload_n hx hb dX4_init_35 rfl (lv_at hl 0 rfl) ?_
  refine cy_new (i0 := 16) hn rfl X h hz (by omega) (h0 _ (by omega)) (fsN := [1, 1, 1, 1, 1, 1, 0, 0, 0, 0, 0, 0, 0]) (ci := 6) inX6 tyX6_ok (fx_s2 (List.mem_of_getElem? (i := 105) rfl) rfl) (fx_s1 (List.mem_of_getElem? (i := 82) rfl) rfl) (fx_s1 (List.mem_of_getElem? (i := 4) rfl) rfl) rfl (nd_6 _) (Nat.le_of_ble_eq_true rfl) (Nat.le_of_ble_eq_true rfl) dX4_init_36 (fun H h => ?_)
  have h : fx_H G (S0 ++ [.inr (.inr (4, [n + 1 + 2, 0, 0])), .inr (.inl [n + 2 + 1, n + 9 + 1, 0, 0, 0, 0]), .inr (.inr (6, [n + 3 + 2, n + 4 + 2, n + 5 + 2, n + 6 + 2, n + 7 + 2, n + 8 + 2, 0, 0, 0, 0, 0, 0, 0])), .inl 16, .inl 16, .inl 16, .inl 8, .inl 8, .inl 64, .inr (.inr (6, [n + 10 + 2, n + 11 + 2, n + 12 + 2, n + 13 + 2, n + 14 + 2, n + 15 + 2, 0, 0, 0, 0, 0, 0, 0])), .inl 16, .inl 16, .inl 16, .inl 8, .inl 8, .inl 64, .inr (.inr (6, [1, 1, 1, 1, 1, 1, 0, 0, 0, 0, 0, 0, 0]))]) M4 s H _ := h
  refine W.widen (k := 16) (n := 301) (by omega) (by omega) ?_
  refine lv_dup hx hb dX4_init_39 rfl ?_
  refine cy_call (L := [.inr (.inr (4, [n + 1 + 2, 0, 0])), .inr (.inl [n + 2 + 1, n + 9 + 1, 0, 0, 0, 0]), .inr (.inr (6, [n + 3 + 2, n + 4 + 2, n + 5 + 2, n + 6 + 2, n + 7 + 2, n + 8 + 2, 0, 0, 0, 0, 0, 0, 0])), .inl 16, .inl 16, .inl 16, .inl 8, .inl 8, .inl 64, .inr (.inr (6, [n + 10 + 2, n + 11 + 2, n + 12 + 2, n + 13 + 2, n + 14 + 2, n + 15 + 2, 0, 0, 0, 0, 0, 0, 0])), .inl 16, .inl 16, .inl 16, .inl 8, .inl 8, .inl 64]) (x := .inr (.inr (6, [1, 1, 1, 1, 1, 1, 0, 0, 0, 0, 0, 0, 0]))) (i0 := 16) (k := n + 16) (d := 1) hn rfl X hO h hz (by omega) ym_X6_init yi_X6_init (Or.inl (fx_s2 (List.mem_of_getElem? (i := 107) rfl) rfl)) rfl (ci_Quay l G (S0 := S0 ++ [.inr (.inr (4, [n + 1 + 2, 0, 0])), .inr (.inl [n + 2 + 1, n + 9 + 1, 0, 0, 0, 0]), .inr (.inr (6, [n + 3 + 2, n + 4 + 2, n + 5 + 2, n + 6 + 2, n + 7 + 2, n + 8 + 2, 0, 0, 0, 0, 0, 0, 0])), .inl 16, .inl 16, .inl 16, .inl 8, .inl 8, .inl 64, .inr (.inr (6, [n + 10 + 2, n + 11 + 2, n + 12 + 2, n + 13 + 2, n + 14 + 2, n + 15 + 2, 0, 0, 0, 0, 0, 0, 0])), .inl 16, .inl 16, .inl 16, .inl 8, .inl 8, .inl 64]) (n := n + 16) (M := M4) (cy_len hn rfl) (fun a ha => h0 a (by omega))) (As := []) (rest := [.ref (G.2.2.2 + (n + 16)), .int (2 : Int32), .ref (G.2.2.2 + (n + 1))]) rfl rfl ⟨by simp only [cx_rm]; omega, by simp only [cx_rm]; omega⟩ ⟨by simp only [cx_rm]; omega, by simp only [cx_rm]; omega⟩ hl.1 (Nat.le_of_ble_eq_true rfl) dX4_init_40 (fun S9 M9 H locs hK9 h => ?_)
  have hK9 : (S9, M9) = _ := hK9
  obtain ⟨rfl, eK9⟩ := Prod.mk.inj hK9
  rw [List.append_assoc] at h
  have h : fx_H G (S0 ++ [.inr (.inr (4, [n + 1 + 2, 0, 0])), .inr (.inl [n + 2 + 1, n + 9 + 1, 0, 0, 0, 0]), .inr (.inr (6, [n + 3 + 2, n + 4 + 2, n + 5 + 2, n + 6 + 2, n + 7 + 2, n + 8 + 2, 0, 0, 0, 0, 0, 0, 0])), .inl 16, .inl 16, .inl 16, .inl 8, .inl 8, .inl 64, .inr (.inr (6, [n + 10 + 2, n + 11 + 2, n + 12 + 2, n + 13 + 2, n + 14 + 2, n + 15 + 2, 0, 0, 0, 0, 0, 0, 0])), .inl 16, .inl 16, .inl 16, .inl 8, .inl 8, .inl 64, .inr (.inr (6, [n + 17 + 2, n + 18 + 2, n + 19 + 2, n + 20 + 2, n + 21 + 2, n + 22 + 2, 0, 0, 0, 0, 0, 0, 0])), .inl 16, .inl 16, .inl 16, .inl 8, .inl 8, .inl 64]) M9 s H locs := h
  refine W.widen (k := 22) (n := 429) (by omega) (by omega) ?_
  rw [eK9] at h
  obtain ⟨M5, eM5⟩ : ∃ z : Mm, z = CM_Quay (n + 16) M4 := ⟨_, rfl⟩
  rw [← eM5] at h
  have h0 : ∀ a, n + 23 ≤ a → M5 a = fun _ => 0 := fun a ha => by rw [eM5, cz_Quay _ _ _ (by omega)]; exact h0 a (by omega)
  refine cx_aast X h (k := n + 1) (r := n + 16) (i := (2 : Int32)) ((ap_at hn 1).trans rfl) ((ap_at hn 16).trans rfl) (by show vp_in _ 6; unfold vp_in; decide) dX4_init_43 (fun H locs h => ?_)
  rw [show ((2 : Int32)).toNatClampNeg = 2 by decide] at h
  rw [ap_set hn 1] at h
  have h : fx_H G (S0 ++ [.inr (.inr (4, [n + 1 + 2, 0, 0])), .inr (.inl [n + 2 + 1, n + 9 + 1, n + 16 + 1, 0, 0, 0]), .inr (.inr (6, [n + 3 + 2, n + 4 + 2, n + 5 + 2, n + 6 + 2, n + 7 + 2, n + 8 + 2, 0, 0, 0, 0, 0, 0, 0])), .inl 16, .inl 16, .inl 16, .inl 8, .inl 8, .inl 64, .inr (.inr (6, [n + 10 + 2, n + 11 + 2, n + 12 + 2, n + 13 + 2, n + 14 + 2, n + 15 + 2, 0, 0, 0, 0, 0, 0, 0])), .inl 16, .inl 16, .inl 16, .inl 8, .inl 8, .inl 64, .inr (.inr (6, [n + 17 + 2, n + 18 + 2, n + 19 + 2, n + 20 + 2, n + 21 + 2, n + 22 + 2, 0, 0, 0, 0, 0, 0, 0])), .inl 16, .inl 16, .inl 16, .inl 8, .inl 8, .inl 64]) M5 s H locs := h
  refine lv_iinc (v := 3) (lv' := [(1, .int (3 : Int32)), (0, .ref (G.2.2.2 + (n + 0)))]) hx hb dX4_init_44 hl (k := 0) rfl (by decide) (by decide) rfl (fun ls hl => ?_)
  refine lv_goto (tgt := 25) hx hb dX4_init_47 (by decide) ?_
  refine lv_iload_n hx hb dX4_init_25 rfl (lv_at hl 0 rfl) ?_
  refine lv_bipush (v := 6) hx hb dX4_init_26 (by decide) ?_
  refine lv_icmp_ge (tgt := 50) hx hb dX4_init_28 (by decide) (fun hc => absurd hc (by decide)) (fun _ => ?_)
  refine lv_aload_n hx hb dX4_init_31 rfl (lv_at hl 1 rfl) ?_
  refine fx_getR X h (k := n + 0) (j := 0) (r := n + 1) ((ap_at hn 0).trans rfl) rfl fl_RX4_11 dX4_init_32 ?_
  refine lv_iload_n hx hb dX4_init_35 rfl (lv_at hl 0 rfl) ?_
  refine cy_new (i0 := 23) hn rfl X h hz (by omega) (h0 _ (by omega)) (fsN := [1, 1, 1, 1, 1, 1, 0, 0, 0, 0, 0, 0, 0]) (ci := 6) inX6 tyX6_ok (fx_s2 (List.mem_of_getElem? (i := 105) rfl) rfl) (fx_s1 (List.mem_of_getElem? (i := 82) rfl) rfl) (fx_s1 (List.mem_of_getElem? (i := 4) rfl) rfl) rfl (nd_6 _) (Nat.le_of_ble_eq_true rfl) (Nat.le_of_ble_eq_true rfl) dX4_init_36 (fun H h => ?_)
  have h : fx_H G (S0 ++ [.inr (.inr (4, [n + 1 + 2, 0, 0])), .inr (.inl [n + 2 + 1, n + 9 + 1, n + 16 + 1, 0, 0, 0]), .inr (.inr (6, [n + 3 + 2, n + 4 + 2, n + 5 + 2, n + 6 + 2, n + 7 + 2, n + 8 + 2, 0, 0, 0, 0, 0, 0, 0])), .inl 16, .inl 16, .inl 16, .inl 8, .inl 8, .inl 64, .inr (.inr (6, [n + 10 + 2, n + 11 + 2, n + 12 + 2, n + 13 + 2, n + 14 + 2, n + 15 + 2, 0, 0, 0, 0, 0, 0, 0])), .inl 16, .inl 16, .inl 16, .inl 8, .inl 8, .inl 64, .inr (.inr (6, [n + 17 + 2, n + 18 + 2, n + 19 + 2, n + 20 + 2, n + 21 + 2, n + 22 + 2, 0, 0, 0, 0, 0, 0, 0])), .inl 16, .inl 16, .inl 16, .inl 8, .inl 8, .inl 64, .inr (.inr (6, [1, 1, 1, 1, 1, 1, 0, 0, 0, 0, 0, 0, 0]))]) M5 s H _ := h
  refine W.widen (k := 23) (n := 442) (by omega) (by omega) ?_
  refine lv_dup hx hb dX4_init_39 rfl ?_
  refine cy_call (L := [.inr (.inr (4, [n + 1 + 2, 0, 0])), .inr (.inl [n + 2 + 1, n + 9 + 1, n + 16 + 1, 0, 0, 0]), .inr (.inr (6, [n + 3 + 2, n + 4 + 2, n + 5 + 2, n + 6 + 2, n + 7 + 2, n + 8 + 2, 0, 0, 0, 0, 0, 0, 0])), .inl 16, .inl 16, .inl 16, .inl 8, .inl 8, .inl 64, .inr (.inr (6, [n + 10 + 2, n + 11 + 2, n + 12 + 2, n + 13 + 2, n + 14 + 2, n + 15 + 2, 0, 0, 0, 0, 0, 0, 0])), .inl 16, .inl 16, .inl 16, .inl 8, .inl 8, .inl 64, .inr (.inr (6, [n + 17 + 2, n + 18 + 2, n + 19 + 2, n + 20 + 2, n + 21 + 2, n + 22 + 2, 0, 0, 0, 0, 0, 0, 0])), .inl 16, .inl 16, .inl 16, .inl 8, .inl 8, .inl 64]) (x := .inr (.inr (6, [1, 1, 1, 1, 1, 1, 0, 0, 0, 0, 0, 0, 0]))) (i0 := 23) (k := n + 23) (d := 1) hn rfl X hO h hz (by omega) ym_X6_init yi_X6_init (Or.inl (fx_s2 (List.mem_of_getElem? (i := 107) rfl) rfl)) rfl (ci_Quay l G (S0 := S0 ++ [.inr (.inr (4, [n + 1 + 2, 0, 0])), .inr (.inl [n + 2 + 1, n + 9 + 1, n + 16 + 1, 0, 0, 0]), .inr (.inr (6, [n + 3 + 2, n + 4 + 2, n + 5 + 2, n + 6 + 2, n + 7 + 2, n + 8 + 2, 0, 0, 0, 0, 0, 0, 0])), .inl 16, .inl 16, .inl 16, .inl 8, .inl 8, .inl 64, .inr (.inr (6, [n + 10 + 2, n + 11 + 2, n + 12 + 2, n + 13 + 2, n + 14 + 2, n + 15 + 2, 0, 0, 0, 0, 0, 0, 0])), .inl 16, .inl 16, .inl 16, .inl 8, .inl 8, .inl 64, .inr (.inr (6, [n + 17 + 2, n + 18 + 2, n + 19 + 2, n + 20 + 2, n + 21 + 2, n + 22 + 2, 0, 0, 0, 0, 0, 0, 0])), .inl 16, .inl 16, .inl 16, .inl 8, .inl 8, .inl 64]) (n := n + 23) (M := M5) (cy_len hn rfl) (fun a ha => h0 a (by omega))) (As := []) (rest := [.ref (G.2.2.2 + (n + 23)), .int (3 : Int32), .ref (G.2.2.2 + (n + 1))]) rfl rfl ⟨by simp only [cx_rm]; omega, by simp only [cx_rm]; omega⟩ ⟨by simp only [cx_rm]; omega, by simp only [cx_rm]; omega⟩ hl.1 (Nat.le_of_ble_eq_true rfl) dX4_init_40 (fun S9 M9 H locs hK9 h => ?_)
  have hK9 : (S9, M9) = _ := hK9
  obtain ⟨rfl, eK9⟩ := Prod.mk.inj hK9
  rw [List.append_assoc] at h
  have h : fx_H G (S0 ++ [.inr (.inr (4, [n + 1 + 2, 0, 0])), .inr (.inl [n + 2 + 1, n + 9 + 1, n + 16 + 1, 0, 0, 0]), .inr (.inr (6, [n + 3 + 2, n + 4 + 2, n + 5 + 2, n + 6 + 2, n + 7 + 2, n + 8 + 2, 0, 0, 0, 0, 0, 0, 0])), .inl 16, .inl 16, .inl 16, .inl 8, .inl 8, .inl 64, .inr (.inr (6, [n + 10 + 2, n + 11 + 2, n + 12 + 2, n + 13 + 2, n + 14 + 2, n + 15 + 2, 0, 0, 0, 0, 0, 0, 0])), .inl 16, .inl 16, .inl 16, .inl 8, .inl 8, .inl 64, .inr (.inr (6, [n + 17 + 2, n + 18 + 2, n + 19 + 2, n + 20 + 2, n + 21 + 2, n + 22 + 2, 0, 0, 0, 0, 0, 0, 0])), .inl 16, .inl 16, .inl 16, .inl 8, .inl 8, .inl 64, .inr (.inr (6, [n + 24 + 2, n + 25 + 2, n + 26 + 2, n + 27 + 2, n + 28 + 2, n + 29 + 2, 0, 0, 0, 0, 0, 0, 0])), .inl 16, .inl 16, .inl 16, .inl 8, .inl 8, .inl 64]) M9 s H locs := h
  refine W.widen (k := 29) (n := 570) (by omega) (by omega) ?_
  rw [eK9] at h
  obtain ⟨M6, eM6⟩ : ∃ z : Mm, z = CM_Quay (n + 23) M5 := ⟨_, rfl⟩
  rw [← eM6] at h
  have h0 : ∀ a, n + 30 ≤ a → M6 a = fun _ => 0 := fun a ha => by rw [eM6, cz_Quay _ _ _ (by omega)]; exact h0 a (by omega)
  refine cx_aast X h (k := n + 1) (r := n + 23) (i := (3 : Int32)) ((ap_at hn 1).trans rfl) ((ap_at hn 23).trans rfl) (by show vp_in _ 6; unfold vp_in; decide) dX4_init_43 (fun H locs h => ?_)
  rw [show ((3 : Int32)).toNatClampNeg = 3 by decide] at h
  rw [ap_set hn 1] at h
  have h : fx_H G (S0 ++ [.inr (.inr (4, [n + 1 + 2, 0, 0])), .inr (.inl [n + 2 + 1, n + 9 + 1, n + 16 + 1, n + 23 + 1, 0, 0]), .inr (.inr (6, [n + 3 + 2, n + 4 + 2, n + 5 + 2, n + 6 + 2, n + 7 + 2, n + 8 + 2, 0, 0, 0, 0, 0, 0, 0])), .inl 16, .inl 16, .inl 16, .inl 8, .inl 8, .inl 64, .inr (.inr (6, [n + 10 + 2, n + 11 + 2, n + 12 + 2, n + 13 + 2, n + 14 + 2, n + 15 + 2, 0, 0, 0, 0, 0, 0, 0])), .inl 16, .inl 16, .inl 16, .inl 8, .inl 8, .inl 64, .inr (.inr (6, [n + 17 + 2, n + 18 + 2, n + 19 + 2, n + 20 + 2, n + 21 + 2, n + 22 + 2, 0, 0, 0, 0, 0, 0, 0])), .inl 16, .inl 16, .inl 16, .inl 8, .inl 8, .inl 64, .inr (.inr (6, [n + 24 + 2, n + 25 + 2, n + 26 + 2, n + 27 + 2, n + 28 + 2, n + 29 + 2, 0, 0, 0, 0, 0, 0, 0])), .inl 16, .inl 16, .inl 16, .inl 8, .inl 8, .inl 64]) M6 s H locs := h
  refine lv_iinc (v := 4) (lv' := [(1, .int (4 : Int32)), (0, .ref (G.2.2.2 + (n + 0)))]) hx hb dX4_init_44 hl (k := 0) rfl (by decide) (by decide) rfl (fun ls hl => ?_)
  refine lv_goto (tgt := 25) hx hb dX4_init_47 (by decide) ?_
  refine lv_iload_n hx hb dX4_init_25 rfl (lv_at hl 0 rfl) ?_
  refine lv_bipush (v := 6) hx hb dX4_init_26 (by decide) ?_
  refine lv_icmp_ge (tgt := 50) hx hb dX4_init_28 (by decide) (fun hc => absurd hc (by decide)) (fun _ => ?_)
  refine lv_aload_n hx hb dX4_init_31 rfl (lv_at hl 1 rfl) ?_
  refine fx_getR X h (k := n + 0) (j := 0) (r := n + 1) ((ap_at hn 0).trans rfl) rfl fl_RX4_11 dX4_init_32 ?_
  refine lv_iload_n hx hb dX4_init_35 rfl (lv_at hl 0 rfl) ?_
  refine cy_new (i0 := 30) hn rfl X h hz (by omega) (h0 _ (by omega)) (fsN := [1, 1, 1, 1, 1, 1, 0, 0, 0, 0, 0, 0, 0]) (ci := 6) inX6 tyX6_ok (fx_s2 (List.mem_of_getElem? (i := 105) rfl) rfl) (fx_s1 (List.mem_of_getElem? (i := 82) rfl) rfl) (fx_s1 (List.mem_of_getElem? (i := 4) rfl) rfl) rfl (nd_6 _) (Nat.le_of_ble_eq_true rfl) (Nat.le_of_ble_eq_true rfl) dX4_init_36 (fun H h => ?_)
  have h : fx_H G (S0 ++ [.inr (.inr (4, [n + 1 + 2, 0, 0])), .inr (.inl [n + 2 + 1, n + 9 + 1, n + 16 + 1, n + 23 + 1, 0, 0]), .inr (.inr (6, [n + 3 + 2, n + 4 + 2, n + 5 + 2, n + 6 + 2, n + 7 + 2, n + 8 + 2, 0, 0, 0, 0, 0, 0, 0])), .inl 16, .inl 16, .inl 16, .inl 8, .inl 8, .inl 64, .inr (.inr (6, [n + 10 + 2, n + 11 + 2, n + 12 + 2, n + 13 + 2, n + 14 + 2, n + 15 + 2, 0, 0, 0, 0, 0, 0, 0])), .inl 16, .inl 16, .inl 16, .inl 8, .inl 8, .inl 64, .inr (.inr (6, [n + 17 + 2, n + 18 + 2, n + 19 + 2, n + 20 + 2, n + 21 + 2, n + 22 + 2, 0, 0, 0, 0, 0, 0, 0])), .inl 16, .inl 16, .inl 16, .inl 8, .inl 8, .inl 64, .inr (.inr (6, [n + 24 + 2, n + 25 + 2, n + 26 + 2, n + 27 + 2, n + 28 + 2, n + 29 + 2, 0, 0, 0, 0, 0, 0, 0])), .inl 16, .inl 16, .inl 16, .inl 8, .inl 8, .inl 64, .inr (.inr (6, [1, 1, 1, 1, 1, 1, 0, 0, 0, 0, 0, 0, 0]))]) M6 s H _ := h
  refine W.widen (k := 30) (n := 583) (by omega) (by omega) ?_
  refine lv_dup hx hb dX4_init_39 rfl ?_
  refine cy_call (L := [.inr (.inr (4, [n + 1 + 2, 0, 0])), .inr (.inl [n + 2 + 1, n + 9 + 1, n + 16 + 1, n + 23 + 1, 0, 0]), .inr (.inr (6, [n + 3 + 2, n + 4 + 2, n + 5 + 2, n + 6 + 2, n + 7 + 2, n + 8 + 2, 0, 0, 0, 0, 0, 0, 0])), .inl 16, .inl 16, .inl 16, .inl 8, .inl 8, .inl 64, .inr (.inr (6, [n + 10 + 2, n + 11 + 2, n + 12 + 2, n + 13 + 2, n + 14 + 2, n + 15 + 2, 0, 0, 0, 0, 0, 0, 0])), .inl 16, .inl 16, .inl 16, .inl 8, .inl 8, .inl 64, .inr (.inr (6, [n + 17 + 2, n + 18 + 2, n + 19 + 2, n + 20 + 2, n + 21 + 2, n + 22 + 2, 0, 0, 0, 0, 0, 0, 0])), .inl 16, .inl 16, .inl 16, .inl 8, .inl 8, .inl 64, .inr (.inr (6, [n + 24 + 2, n + 25 + 2, n + 26 + 2, n + 27 + 2, n + 28 + 2, n + 29 + 2, 0, 0, 0, 0, 0, 0, 0])), .inl 16, .inl 16, .inl 16, .inl 8, .inl 8, .inl 64]) (x := .inr (.inr (6, [1, 1, 1, 1, 1, 1, 0, 0, 0, 0, 0, 0, 0]))) (i0 := 30) (k := n + 30) (d := 1) hn rfl X hO h hz (by omega) ym_X6_init yi_X6_init (Or.inl (fx_s2 (List.mem_of_getElem? (i := 107) rfl) rfl)) rfl (ci_Quay l G (S0 := S0 ++ [.inr (.inr (4, [n + 1 + 2, 0, 0])), .inr (.inl [n + 2 + 1, n + 9 + 1, n + 16 + 1, n + 23 + 1, 0, 0]), .inr (.inr (6, [n + 3 + 2, n + 4 + 2, n + 5 + 2, n + 6 + 2, n + 7 + 2, n + 8 + 2, 0, 0, 0, 0, 0, 0, 0])), .inl 16, .inl 16, .inl 16, .inl 8, .inl 8, .inl 64, .inr (.inr (6, [n + 10 + 2, n + 11 + 2, n + 12 + 2, n + 13 + 2, n + 14 + 2, n + 15 + 2, 0, 0, 0, 0, 0, 0, 0])), .inl 16, .inl 16, .inl 16, .inl 8, .inl 8, .inl 64, .inr (.inr (6, [n + 17 + 2, n + 18 + 2, n + 19 + 2, n + 20 + 2, n + 21 + 2, n + 22 + 2, 0, 0, 0, 0, 0, 0, 0])), .inl 16, .inl 16, .inl 16, .inl 8, .inl 8, .inl 64, .inr (.inr (6, [n + 24 + 2, n + 25 + 2, n + 26 + 2, n + 27 + 2, n + 28 + 2, n + 29 + 2, 0, 0, 0, 0, 0, 0, 0])), .inl 16, .inl 16, .inl 16, .inl 8, .inl 8, .inl 64]) (n := n + 30) (M := M6) (cy_len hn rfl) (fun a ha => h0 a (by omega))) (As := []) (rest := [.ref (G.2.2.2 + (n + 30)), .int (4 : Int32), .ref (G.2.2.2 + (n + 1))]) rfl rfl ⟨by simp only [cx_rm]; omega, by simp only [cx_rm]; omega⟩ ⟨by simp only [cx_rm]; omega, by simp only [cx_rm]; omega⟩ hl.1 (Nat.le_of_ble_eq_true rfl) dX4_init_40 (fun S9 M9 H locs hK9 h => ?_)
  have hK9 : (S9, M9) = _ := hK9
  obtain ⟨rfl, eK9⟩ := Prod.mk.inj hK9
  rw [List.append_assoc] at h
  have h : fx_H G (S0 ++ [.inr (.inr (4, [n + 1 + 2, 0, 0])), .inr (.inl [n + 2 + 1, n + 9 + 1, n + 16 + 1, n + 23 + 1, 0, 0]), .inr (.inr (6, [n + 3 + 2, n + 4 + 2, n + 5 + 2, n + 6 + 2, n + 7 + 2, n + 8 + 2, 0, 0, 0, 0, 0, 0, 0])), .inl 16, .inl 16, .inl 16, .inl 8, .inl 8, .inl 64, .inr (.inr (6, [n + 10 + 2, n + 11 + 2, n + 12 + 2, n + 13 + 2, n + 14 + 2, n + 15 + 2, 0, 0, 0, 0, 0, 0, 0])), .inl 16, .inl 16, .inl 16, .inl 8, .inl 8, .inl 64, .inr (.inr (6, [n + 17 + 2, n + 18 + 2, n + 19 + 2, n + 20 + 2, n + 21 + 2, n + 22 + 2, 0, 0, 0, 0, 0, 0, 0])), .inl 16, .inl 16, .inl 16, .inl 8, .inl 8, .inl 64, .inr (.inr (6, [n + 24 + 2, n + 25 + 2, n + 26 + 2, n + 27 + 2, n + 28 + 2, n + 29 + 2, 0, 0, 0, 0, 0, 0, 0])), .inl 16, .inl 16, .inl 16, .inl 8, .inl 8, .inl 64, .inr (.inr (6, [n + 31 + 2, n + 32 + 2, n + 33 + 2, n + 34 + 2, n + 35 + 2, n + 36 + 2, 0, 0, 0, 0, 0, 0, 0])), .inl 16, .inl 16, .inl 16, .inl 8, .inl 8, .inl 64]) M9 s H locs := h
  refine W.widen (k := 36) (n := 711) (by omega) (by omega) ?_
  rw [eK9] at h
  obtain ⟨M7, eM7⟩ : ∃ z : Mm, z = CM_Quay (n + 30) M6 := ⟨_, rfl⟩
  rw [← eM7] at h
  have h0 : ∀ a, n + 37 ≤ a → M7 a = fun _ => 0 := fun a ha => by rw [eM7, cz_Quay _ _ _ (by omega)]; exact h0 a (by omega)
  refine cx_aast X h (k := n + 1) (r := n + 30) (i := (4 : Int32)) ((ap_at hn 1).trans rfl) ((ap_at hn 30).trans rfl) (by show vp_in _ 6; unfold vp_in; decide) dX4_init_43 (fun H locs h => ?_)
  rw [show ((4 : Int32)).toNatClampNeg = 4 by decide] at h
  rw [ap_set hn 1] at h
  have h : fx_H G (S0 ++ [.inr (.inr (4, [n + 1 + 2, 0, 0])), .inr (.inl [n + 2 + 1, n + 9 + 1, n + 16 + 1, n + 23 + 1, n + 30 + 1, 0]), .inr (.inr (6, [n + 3 + 2, n + 4 + 2, n + 5 + 2, n + 6 + 2, n + 7 + 2, n + 8 + 2, 0, 0, 0, 0, 0, 0, 0])), .inl 16, .inl 16, .inl 16, .inl 8, .inl 8, .inl 64, .inr (.inr (6, [n + 10 + 2, n + 11 + 2, n + 12 + 2, n + 13 + 2, n + 14 + 2, n + 15 + 2, 0, 0, 0, 0, 0, 0, 0])), .inl 16, .inl 16, .inl 16, .inl 8, .inl 8, .inl 64, .inr (.inr (6, [n + 17 + 2, n + 18 + 2, n + 19 + 2, n + 20 + 2, n + 21 + 2, n + 22 + 2, 0, 0, 0, 0, 0, 0, 0])), .inl 16, .inl 16, .inl 16, .inl 8, .inl 8, .inl 64, .inr (.inr (6, [n + 24 + 2, n + 25 + 2, n + 26 + 2, n + 27 + 2, n + 28 + 2, n + 29 + 2, 0, 0, 0, 0, 0, 0, 0])), .inl 16, .inl 16, .inl 16, .inl 8, .inl 8, .inl 64, .inr (.inr (6, [n + 31 + 2, n + 32 + 2, n + 33 + 2, n + 34 + 2, n + 35 + 2, n + 36 + 2, 0, 0, 0, 0, 0, 0, 0])), .inl 16, .inl 16, .inl 16, .inl 8, .inl 8, .inl 64]) M7 s H locs := h
  refine lv_iinc (v := 5) (lv' := [(1, .int (5 : Int32)), (0, .ref (G.2.2.2 + (n + 0)))]) hx hb dX4_init_44 hl (k := 0) rfl (by decide) (by decide) rfl (fun ls hl => ?_)
  refine lv_goto (tgt := 25) hx hb dX4_init_47 (by decide) ?_
  refine lv_iload_n hx hb dX4_init_25 rfl (lv_at hl 0 rfl) ?_
  refine lv_bipush (v := 6) hx hb dX4_init_26 (by decide) ?_
  refine lv_icmp_ge (tgt := 50) hx hb dX4_init_28 (by decide) (fun hc => absurd hc (by decide)) (fun _ => ?_)
  refine lv_aload_n hx hb dX4_init_31 rfl (lv_at hl 1 rfl) ?_
  refine fx_getR X h (k := n + 0) (j := 0) (r := n + 1) ((ap_at hn 0).trans rfl) rfl fl_RX4_11 dX4_init_32 ?_
  refine lv_iload_n hx hb dX4_init_35 rfl (lv_at hl 0 rfl) ?_
  refine cy_new (i0 := 37) hn rfl X h hz (by omega) (h0 _ (by omega)) (fsN := [1, 1, 1, 1, 1, 1, 0, 0, 0, 0, 0, 0, 0]) (ci := 6) inX6 tyX6_ok (fx_s2 (List.mem_of_getElem? (i := 105) rfl) rfl) (fx_s1 (List.mem_of_getElem? (i := 82) rfl) rfl) (fx_s1 (List.mem_of_getElem? (i := 4) rfl) rfl) rfl (nd_6 _) (Nat.le_of_ble_eq_true rfl) (Nat.le_of_ble_eq_true rfl) dX4_init_36 (fun H h => ?_)
  have h : fx_H G (S0 ++ [.inr (.inr (4, [n + 1 + 2, 0, 0])), .inr (.inl [n + 2 + 1, n + 9 + 1, n + 16 + 1, n + 23 + 1, n + 30 + 1, 0]), .inr (.inr (6, [n + 3 + 2, n + 4 + 2, n + 5 + 2, n + 6 + 2, n + 7 + 2, n + 8 + 2, 0, 0, 0, 0, 0, 0, 0])), .inl 16, .inl 16, .inl 16, .inl 8, .inl 8, .inl 64, .inr (.inr (6, [n + 10 + 2, n + 11 + 2, n + 12 + 2, n + 13 + 2, n + 14 + 2, n + 15 + 2, 0, 0, 0, 0, 0, 0, 0])), .inl 16, .inl 16, .inl 16, .inl 8, .inl 8, .inl 64, .inr (.inr (6, [n + 17 + 2, n + 18 + 2, n + 19 + 2, n + 20 + 2, n + 21 + 2, n + 22 + 2, 0, 0, 0, 0, 0, 0, 0])), .inl 16, .inl 16, .inl 16, .inl 8, .inl 8, .inl 64, .inr (.inr (6, [n + 24 + 2, n + 25 + 2, n + 26 + 2, n + 27 + 2, n + 28 + 2, n + 29 + 2, 0, 0, 0, 0, 0, 0, 0])), .inl 16, .inl 16, .inl 16, .inl 8, .inl 8, .inl 64, .inr (.inr (6, [n + 31 + 2, n + 32 + 2, n + 33 + 2, n + 34 + 2, n + 35 + 2, n + 36 + 2, 0, 0, 0, 0, 0, 0, 0])), .inl 16, .inl 16, .inl 16, .inl 8, .inl 8, .inl 64, .inr (.inr (6, [1, 1, 1, 1, 1, 1, 0, 0, 0, 0, 0, 0, 0]))]) M7 s H _ := h
  refine W.widen (k := 37) (n := 724) (by omega) (by omega) ?_
  refine lv_dup hx hb dX4_init_39 rfl ?_
  refine cy_call (L := [.inr (.inr (4, [n + 1 + 2, 0, 0])), .inr (.inl [n + 2 + 1, n + 9 + 1, n + 16 + 1, n + 23 + 1, n + 30 + 1, 0]), .inr (.inr (6, [n + 3 + 2, n + 4 + 2, n + 5 + 2, n + 6 + 2, n + 7 + 2, n + 8 + 2, 0, 0, 0, 0, 0, 0, 0])), .inl 16, .inl 16, .inl 16, .inl 8, .inl 8, .inl 64, .inr (.inr (6, [n + 10 + 2, n + 11 + 2, n + 12 + 2, n + 13 + 2, n + 14 + 2, n + 15 + 2, 0, 0, 0, 0, 0, 0, 0])), .inl 16, .inl 16, .inl 16, .inl 8, .inl 8, .inl 64, .inr (.inr (6, [n + 17 + 2, n + 18 + 2, n + 19 + 2, n + 20 + 2, n + 21 + 2, n + 22 + 2, 0, 0, 0, 0, 0, 0, 0])), .inl 16, .inl 16, .inl 16, .inl 8, .inl 8, .inl 64, .inr (.inr (6, [n + 24 + 2, n + 25 + 2, n + 26 + 2, n + 27 + 2, n + 28 + 2, n + 29 + 2, 0, 0, 0, 0, 0, 0, 0])), .inl 16, .inl 16, .inl 16, .inl 8, .inl 8, .inl 64, .inr (.inr (6, [n + 31 + 2, n + 32 + 2, n + 33 + 2, n + 34 + 2, n + 35 + 2, n + 36 + 2, 0, 0, 0, 0, 0, 0, 0])), .inl 16, .inl 16, .inl 16, .inl 8, .inl 8, .inl 64]) (x := .inr (.inr (6, [1, 1, 1, 1, 1, 1, 0, 0, 0, 0, 0, 0, 0]))) (i0 := 37) (k := n + 37) (d := 1) hn rfl X hO h hz (by omega) ym_X6_init yi_X6_init (Or.inl (fx_s2 (List.mem_of_getElem? (i := 107) rfl) rfl)) rfl (ci_Quay l G (S0 := S0 ++ [.inr (.inr (4, [n + 1 + 2, 0, 0])), .inr (.inl [n + 2 + 1, n + 9 + 1, n + 16 + 1, n + 23 + 1, n + 30 + 1, 0]), .inr (.inr (6, [n + 3 + 2, n + 4 + 2, n + 5 + 2, n + 6 + 2, n + 7 + 2, n + 8 + 2, 0, 0, 0, 0, 0, 0, 0])), .inl 16, .inl 16, .inl 16, .inl 8, .inl 8, .inl 64, .inr (.inr (6, [n + 10 + 2, n + 11 + 2, n + 12 + 2, n + 13 + 2, n + 14 + 2, n + 15 + 2, 0, 0, 0, 0, 0, 0, 0])), .inl 16, .inl 16, .inl 16, .inl 8, .inl 8, .inl 64, .inr (.inr (6, [n + 17 + 2, n + 18 + 2, n + 19 + 2, n + 20 + 2, n + 21 + 2, n + 22 + 2, 0, 0, 0, 0, 0, 0, 0])), .inl 16, .inl 16, .inl 16, .inl 8, .inl 8, .inl 64, .inr (.inr (6, [n + 24 + 2, n + 25 + 2, n + 26 + 2, n + 27 + 2, n + 28 + 2, n + 29 + 2, 0, 0, 0, 0, 0, 0, 0])), .inl 16, .inl 16, .inl 16, .inl 8, .inl 8, .inl 64, .inr (.inr (6, [n + 31 + 2, n + 32 + 2, n + 33 + 2, n + 34 + 2, n + 35 + 2, n + 36 + 2, 0, 0, 0, 0, 0, 0, 0])), .inl 16, .inl 16, .inl 16, .inl 8, .inl 8, .inl 64]) (n := n + 37) (M := M7) (cy_len hn rfl) (fun a ha => h0 a (by omega))) (As := []) (rest := [.ref (G.2.2.2 + (n + 37)), .int (5 : Int32), .ref (G.2.2.2 + (n + 1))]) rfl rfl ⟨by simp only [cx_rm]; omega, by simp only [cx_rm]; omega⟩ ⟨by simp only [cx_rm]; omega, by simp only [cx_rm]; omega⟩ hl.1 (Nat.le_of_ble_eq_true rfl) dX4_init_40 (fun S9 M9 H locs hK9 h => ?_)
  have hK9 : (S9, M9) = _ := hK9
  obtain ⟨rfl, eK9⟩ := Prod.mk.inj hK9
  rw [List.append_assoc] at h
  have h : fx_H G (S0 ++ [.inr (.inr (4, [n + 1 + 2, 0, 0])), .inr (.inl [n + 2 + 1, n + 9 + 1, n + 16 + 1, n + 23 + 1, n + 30 + 1, 0]), .inr (.inr (6, [n + 3 + 2, n + 4 + 2, n + 5 + 2, n + 6 + 2, n + 7 + 2, n + 8 + 2, 0, 0, 0, 0, 0, 0, 0])), .inl 16, .inl 16, .inl 16, .inl 8, .inl 8, .inl 64, .inr (.inr (6, [n + 10 + 2, n + 11 + 2, n + 12 + 2, n + 13 + 2, n + 14 + 2, n + 15 + 2, 0, 0, 0, 0, 0, 0, 0])), .inl 16, .inl 16, .inl 16, .inl 8, .inl 8, .inl 64, .inr (.inr (6, [n + 17 + 2, n + 18 + 2, n + 19 + 2, n + 20 + 2, n + 21 + 2, n + 22 + 2, 0, 0, 0, 0, 0, 0, 0])), .inl 16, .inl 16, .inl 16, .inl 8, .inl 8, .inl 64, .inr (.inr (6, [n + 24 + 2, n + 25 + 2, n + 26 + 2, n + 27 + 2, n + 28 + 2, n + 29 + 2, 0, 0, 0, 0, 0, 0, 0])), .inl 16, .inl 16, .inl 16, .inl 8, .inl 8, .inl 64, .inr (.inr (6, [n + 31 + 2, n + 32 + 2, n + 33 + 2, n + 34 + 2, n + 35 + 2, n + 36 + 2, 0, 0, 0, 0, 0, 0, 0])), .inl 16, .inl 16, .inl 16, .inl 8, .inl 8, .inl 64, .inr (.inr (6, [n + 38 + 2, n + 39 + 2, n + 40 + 2, n + 41 + 2, n + 42 + 2, n + 43 + 2, 0, 0, 0, 0, 0, 0, 0])), .inl 16, .inl 16, .inl 16, .inl 8, .inl 8, .inl 64]) M9 s H locs := h
  refine W.widen (k := 43) (n := 852) (by omega) (by omega) ?_
  rw [eK9] at h
  obtain ⟨M8, eM8⟩ : ∃ z : Mm, z = CM_Quay (n + 37) M7 := ⟨_, rfl⟩
  rw [← eM8] at h
  have h0 : ∀ a, n + 44 ≤ a → M8 a = fun _ => 0 := fun a ha => by rw [eM8, cz_Quay _ _ _ (by omega)]; exact h0 a (by omega)
  refine cx_aast X h (k := n + 1) (r := n + 37) (i := (5 : Int32)) ((ap_at hn 1).trans rfl) ((ap_at hn 37).trans rfl) (by show vp_in _ 6; unfold vp_in; decide) dX4_init_43 (fun H locs h => ?_)
  rw [show ((5 : Int32)).toNatClampNeg = 5 by decide] at h
  rw [ap_set hn 1] at h
  have h : fx_H G (S0 ++ [.inr (.inr (4, [n + 1 + 2, 0, 0])), .inr (.inl [n + 2 + 1, n + 9 + 1, n + 16 + 1, n + 23 + 1, n + 30 + 1, n + 37 + 1]), .inr (.inr (6, [n + 3 + 2, n + 4 + 2, n + 5 + 2, n + 6 + 2, n + 7 + 2, n + 8 + 2, 0, 0, 0, 0, 0, 0, 0])), .inl 16, .inl 16, .inl 16, .inl 8, .inl 8, .inl 64, .inr (.inr (6, [n + 10 + 2, n + 11 + 2, n + 12 + 2, n + 13 + 2, n + 14 + 2, n + 15 + 2, 0, 0, 0, 0, 0, 0, 0])), .inl 16, .inl 16, .inl 16, .inl 8, .inl 8, .inl 64, .inr (.inr (6, [n + 17 + 2, n + 18 + 2, n + 19 + 2, n + 20 + 2, n + 21 + 2, n + 22 + 2, 0, 0, 0, 0, 0, 0, 0])), .inl 16, .inl 16, .inl 16, .inl 8, .inl 8, .inl 64, .inr (.inr (6, [n + 24 + 2, n + 25 + 2, n + 26 + 2, n + 27 + 2, n + 28 + 2, n + 29 + 2, 0, 0, 0, 0, 0, 0, 0])), .inl 16, .inl 16, .inl 16, .inl 8, .inl 8, .inl 64, .inr (.inr (6, [n + 31 + 2, n + 32 + 2, n + 33 + 2, n + 34 + 2, n + 35 + 2, n + 36 + 2, 0, 0, 0, 0, 0, 0, 0])), .inl 16, .inl 16, .inl 16, .inl 8, .inl 8, .inl 64, .inr (.inr (6, [n + 38 + 2, n + 39 + 2, n + 40 + 2, n + 41 + 2, n + 42 + 2, n + 43 + 2, 0, 0, 0, 0, 0, 0, 0])), .inl 16, .inl 16, .inl 16, .inl 8, .inl 8, .inl 64]) M8 s H locs := h
  refine lv_iinc (v := 6) (lv' := [(1, .int (6 : Int32)), (0, .ref (G.2.2.2 + (n + 0)))]) hx hb dX4_init_44 hl (k := 0) rfl (by decide) (by decide) rfl (fun ls hl => ?_)
  refine lv_goto (tgt := 25) hx hb dX4_init_47 (by decide) ?_
  refine lv_iload_n hx hb dX4_init_25 rfl (lv_at hl 0 rfl) ?_
  refine lv_bipush (v := 6) hx hb dX4_init_26 (by decide) ?_
  refine lv_icmp_ge (tgt := 50) hx hb dX4_init_28 (by decide) (fun _ => ?_) (fun hc => absurd (by decide) hc)
  exact cy_ret X hr hk h (Prod.ext_iff.mpr ⟨rfl, by rw [eM8, eM7, eM6, eM5, eM4, eM3, eM2, eM1]; rfl⟩) dX4_init_50
