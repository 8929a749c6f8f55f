/-! MockParcels.text(I)I -/
theorem dX11_text_0 : decode cX11_text 0 = .ok (.aload_n 0, 1) := by decide +kernel
theorem dX11_text_1 : decode cX11_text 1 = .ok (.iconst 0, 1) := by decide +kernel
theorem dX11_text_2 : decode cX11_text 2 = .ok (.putfield 75, 3) := by decide +kernel
theorem dX11_text_5 : decode cX11_text 5 = .ok (.aload_n 0, 1) := by decide +kernel
theorem dX11_text_6 : decode cX11_text 6 = .ok (.iconst (-1), 1) := by decide +kernel
theorem dX11_text_7 : decode cX11_text 7 = .ok (.putfield 79, 3) := by decide +kernel
theorem dX11_text_10 : decode cX11_text 10 = .ok (.iconst (-1), 1) := by decide +kernel
theorem dX11_text_11 : decode cX11_text 11 = .ok (.istore_n 2, 1) := by decide +kernel
theorem dX11_text_12 : decode cX11_text 12 = .ok (.iload_n 1, 1) := by decide +kernel
theorem dX11_text_13 : decode cX11_text 13 = .ok (.iconst 0, 1) := by decide +kernel
theorem dX11_text_14 : decode cX11_text 14 = .ok (.iconst 3, 1) := by decide +kernel
theorem dX11_text_15 : decode cX11_text 15 = .ok (.invokestatic 88, 3) := by decide +kernel
theorem dX11_text_18 : decode cX11_text 18 = .ok (.ifCond .eq 48, 3) := by decide +kernel
theorem dX11_text_21 : decode cX11_text 21 = .ok (.aload_n 0, 1) := by decide +kernel
theorem dX11_text_22 : decode cX11_text 22 = .ok (.getfield 51, 3) := by decide +kernel
theorem dX11_text_25 : decode cX11_text 25 = .ok (.invokevirtual 186, 3) := by decide +kernel
theorem dX11_text_28 : decode cX11_text 28 = .ok (.aload_n 0, 1) := by decide +kernel
theorem dX11_text_29 : decode cX11_text 29 = .ok (.getfield 60, 3) := by decide +kernel
theorem dX11_text_32 : decode cX11_text 32 = .ok (.iload_n 1, 1) := by decide +kernel
theorem dX11_text_33 : decode cX11_text 33 = .ok (.aload_n 0, 1) := by decide +kernel
theorem dX11_text_34 : decode cX11_text 34 = .ok (.getfield 12, 3) := by decide +kernel
theorem dX11_text_37 : decode cX11_text 37 = .ok (.getfield 92, 3) := by decide +kernel
theorem dX11_text_40 : decode cX11_text 40 = .ok (.invokevirtual 189, 3) := by decide +kernel
theorem dX11_text_43 : decode cX11_text 43 = .ok (.istore_n 2, 1) := by decide +kernel
theorem dX11_text_44 : decode cX11_text 44 = .ok (.aload_n 0, 1) := by decide +kernel
theorem dX11_text_45 : decode cX11_text 45 = .ok (.aload_n 0, 1) := by decide +kernel
theorem dX11_text_46 : decode cX11_text 46 = .ok (.getfield 51, 3) := by decide +kernel
theorem dX11_text_49 : decode cX11_text 49 = .ok (.getfield 193, 3) := by decide +kernel
theorem dX11_text_52 : decode cX11_text 52 = .ok (.putfield 75, 3) := by decide +kernel
theorem dX11_text_55 : decode cX11_text 55 = .ok (.aload_n 0, 1) := by decide +kernel
theorem dX11_text_56 : decode cX11_text 56 = .ok (.aload_n 0, 1) := by decide +kernel
theorem dX11_text_57 : decode cX11_text 57 = .ok (.getfield 51, 3) := by decide +kernel
theorem dX11_text_60 : decode cX11_text 60 = .ok (.getfield 196, 3) := by decide +kernel
theorem dX11_text_63 : decode cX11_text 63 = .ok (.putfield 79, 3) := by decide +kernel
theorem dX11_text_66 : decode cX11_text 66 = .ok (.aload_n 0, 1) := by decide +kernel
theorem dX11_text_67 : decode cX11_text 67 = .ok (.getfield 51, 3) := by decide +kernel
theorem dX11_text_70 : decode cX11_text 70 = .ok (.iconst 0, 1) := by decide +kernel
theorem dX11_text_71 : decode cX11_text 71 = .ok (.putfield 179, 3) := by decide +kernel
theorem dX11_text_74 : decode cX11_text 74 = .ok (.iload_n 2, 1) := by decide +kernel
theorem dX11_text_75 : decode cX11_text 75 = .ok (.iconst (-1), 1) := by decide +kernel
theorem dX11_text_76 : decode cX11_text 76 = .ok (.if_icmp .eq 8, 3) := by decide +kernel
theorem dX11_text_79 : decode cX11_text 79 = .ok (.aload_n 0, 1) := by decide +kernel
theorem dX11_text_80 : decode cX11_text 80 = .ok (.iload_n 1, 1) := by decide +kernel
theorem dX11_text_81 : decode cX11_text 81 = .ok (.invokevirtual 199, 3) := by decide +kernel
theorem dX11_text_84 : decode cX11_text 84 = .ok (.iload_n 2, 1) := by decide +kernel
theorem dX11_text_85 : decode cX11_text 85 = .ok (.ireturn, 1) := by decide +kernel
def T_X11_text_66 (x1 : Int32) (x2 : Int32) (M : Mm) (K : Int32 → Mm → Prop) : Prop := (∀ M1 : Mm, M1 = m_up M 132 1 (0 : Int32) → ((x2 = (-1 : Int32) → (K x2 M1)) ∧ (¬ x2 = (-1 : Int32) → (T_X11_takeText x1 M1 (fun M4 => (K x2 M4))))))
set_option maxHeartbeats 4000000 in
set_option maxRecDepth 100000 in
theorem w_X11_text_66 {p : Program} {l : Launch} {e : Env} {s : State} {m : MethodId} {args : Array Value} {below : List Frame} {meth : Method} {c : Code} {G : fx_G} {K : Int32 → Mm → Prop} (X : fx_C G p s m c args cX11_text 3 RX11) (hr : meth.sig.returnType = (some .int)) (hk : meth.locks = false) : ∀ (x1 : Int32) (x2 : Int32) (M : Mm) (H : Heap) (locs : List Loc) (ls : Array Slot), T_X11_text_66 x1 x2 M K → fx_H G SH M s H locs → lv_has ls 3 [(0, .ref (G.2.2.2 + 0)), (1, .int x1), (2, .int x2)] → W p l e (fx_rm (26)) s m args below meth c H locs 0 0 (MQ below (va_Qi K (fx_R G SH) (fx_A G)) args s 0 0 (fx_A G)) (F0 m 66 ls []) := by
  obtain ⟨⟨hx, hb, hml, hown, hts⟩, hK, hQ⟩ := id X
  intro x1 x2 M H locs ls hT h hl
  unfold T_X11_text_66 at hT
  refine lv_aload_n hx hb dX11_text_66 rfl (lv_at hl 0 rfl) ?_
  refine fx_getR X h (k := 0) (j := 6) (r := 132) sh_0 rfl fl_RX11_51 dX11_text_67 ?_
  refine lv_iconst (v := 0) hx hb dX11_text_70 (by decide) ?_
  refine fx_putI X h (k := 132) (j := 1) sh_132 rfl fl_RX11_179 dX11_text_71 (fun H locs h => ?_)
  obtain ⟨M1, eM1⟩ : ∃ z : Mm, z = m_up M 132 1 (0 : Int32) := ⟨_, rfl⟩
  have hT := hT M1 eM1
  rw [← eM1] at h
  refine lv_iload_n hx hb dX11_text_74 rfl (lv_at hl 2 rfl) ?_
  refine lv_iconst (v := -1) hx hb dX11_text_75 (by decide) ?_
  refine lv_icmp_eq (tgt := 84) hx hb dX11_text_76 (by decide) (fun hc2 => ?_) (fun hc2 => ?_)
  · have hT := hT.1 hc2
    refine lv_iload_n hx hb dX11_text_84 rfl (lv_at hl 2 rfl) ?_
    exact fx_iret X hr hk h hT dX11_text_85
  · have hT := hT.2 hc2
    refine lv_aload_n hx hb dX11_text_79 rfl (lv_at hl 0 rfl) ?_
    refine lv_iload_n hx hb dX11_text_80 rfl (lv_at hl 1 rfl) ?_
    refine fx_vv X h ym_X11_takeText yi_X11_takeText ys_X11_takeText (fx_s5 (List.mem_of_getElem? (i := 8) rfl) rfl) sh_0 rfl (c_X11_takeText l G hT) (As := [.int x1]) (rest := []) rfl rfl ⟨Nat.le_of_ble_eq_true rfl, Nat.le_of_ble_eq_true rfl⟩ ⟨Nat.le_refl _, Nat.le_refl _⟩ hl.1 (Nat.le_of_ble_eq_true rfl) dX11_text_81 (fun M4 H locs hT h => ?_)
    refine lv_iload_n hx hb dX11_text_84 rfl (lv_at hl 2 rfl) ?_
    exact fx_iret X hr hk h hT dX11_text_85
def T_X11_text (x1 : Int32) (M : Mm) (K : Int32 → Mm → Prop) : Prop := (∀ M5 : Mm, M5 = m_up M 0 10 (0 : Int32) → (∀ M6 : Mm, M6 = m_up M5 0 11 (-1 : Int32) → (T_X11_isWithin x1 (0 : Int32) (3 : Int32) M6 (fun r9 M8 => ((r9 = 0 → (T_X11_text_66 x1 (-1 : Int32) M8 K)) ∧ (¬ r9 = 0 → (T_X7_begin M8 (fun M12 => (T_X3_parse 2 x1 M12 (fun r15 M14 => (∀ M16 : Mm, M16 = m_up M14 0 10 (M14 132 7) → (∀ M17 : Mm, M17 = m_up M16 0 11 (M16 132 8) → (T_X11_text_66 x1 r15 M17 K)))))))))))))
set_option maxHeartbeats 4000000 in
set_option maxRecDepth 100000 in
theorem c_X11_text (l : Launch) (G : fx_G) {x1 : Int32} {M : Mm} {K : Int32 → Mm → Prop} (hT : T_X11_text x1 M K) : Met l yX11_text (fx_ws yX11_text cX11_text 3 (some .int)) (fx_rm (26)) (va_Pc [.ref (G.2.2.2 + 0), .int x1] (fx_P G SH M)) (va_Qi K (fx_R G SH) (fx_A G)) 0 0 (fx_A G) := by
  refine fx_met (own := RX11) (by decide +kernel) rfl (Nat.le_of_ble_eq_true rfl) (fun p e s m below meth c X hr hk h ls hl => ?_)
  obtain ⟨⟨hx, hb, hml, hown, hts⟩, hK, hQ⟩ := id X
  have hl : lv_has ls 3 [(0, .ref (G.2.2.2 + 0)), (1, .int x1)] := hl
  unfold T_X11_text at hT
  refine lv_aload_n hx hb dX11_text_0 rfl (lv_at hl 0 rfl) ?_
  refine lv_iconst (v := 0) hx hb dX11_text_1 (by decide) ?_
  refine fx_putI X h (k := 0) (j := 10) sh_0 rfl fl_RX11_75 dX11_text_2 (fun H locs h => ?_)
  obtain ⟨M5, eM5⟩ : ∃ z : Mm, z = m_up M 0 10 (0 : Int32) := ⟨_, rfl⟩
  have hT := hT M5 eM5
  rw [← eM5] at h
  refine lv_aload_n hx hb dX11_text_5 rfl (lv_at hl 0 rfl) ?_
  refine lv_iconst (v := -1) hx hb dX11_text_6 (by decide) ?_
  refine fx_putI X h (k := 0) (j := 11) sh_0 rfl fl_RX11_79 dX11_text_7 (fun H locs h => ?_)
  obtain ⟨M6, eM6⟩ : ∃ z : Mm, z = m_up M5 0 11 (-1 : Int32) := ⟨_, rfl⟩
  have hT := hT M6 eM6
  rw [← eM6] at h
  refine lv_iconst (v := -1) hx hb dX11_text_10 (by decide) ?_
  refine lv_istore_n (lv' := [(2, .int (-1 : Int32)), (0, .ref (G.2.2.2 + 0)), (1, .int x1)]) hx hb dX11_text_11 rfl hl (by decide) rfl (fun ls hl => ?_)
  refine lv_iload_n hx hb dX11_text_12 rfl (lv_at hl 2 rfl) ?_
  refine lv_iconst (v := 0) hx hb dX11_text_13 (by decide) ?_
  refine lv_iconst (v := 3) hx hb dX11_text_14 (by decide) ?_
  refine fx_si X h ym_X11_isWithin yt_X11_isWithin (fx_s3 (List.mem_of_getElem? (i := 64) rfl) rfl) (c_X11_isWithin l G hT) (As := [.int x1, .int (0 : Int32), .int (3 : Int32)]) (rest := []) rfl rfl ⟨Nat.le_of_ble_eq_true rfl, Nat.le_of_ble_eq_true rfl⟩ ⟨Nat.le_refl _, Nat.le_refl _⟩ hl.1 (Nat.le_of_ble_eq_true rfl) dX11_text_15 (fun r9 M8 H locs hT h => ?_)
  refine lv_if_eq (tgt := 66) hx hb dX11_text_18 (by decide) (fun hc10 => ?_) (fun hc10 => ?_)
  · have hT := hT.1 hc10
    exact w_X11_text_66 X hr hk x1 (-1 : Int32) M8 _ _ ls hT h (lv_sub hl [1, 2, 0] rfl)
  · have hT := hT.2 hc10
    refine lv_aload_n hx hb dX11_text_21 rfl (lv_at hl 1 rfl) ?_
    refine fx_getR X h (k := 0) (j := 6) (r := 132) sh_0 rfl fl_RX11_51 dX11_text_22 ?_
    refine fx_vv X h ym_X7_begin yi_X7_begin ys_X7_begin (fx_s4 (List.mem_of_getElem? (i := 14) rfl) rfl) sh_132 rfl (c_X7_begin l G hT) (As := []) (rest := []) rfl rfl ⟨Nat.le_of_ble_eq_true rfl, Nat.le_of_ble_eq_true rfl⟩ ⟨Nat.le_refl _, Nat.le_refl _⟩ hl.1 (Nat.le_of_ble_eq_true rfl) dX11_text_25 (fun M12 H locs hT h => ?_)
    refine lv_aload_n hx hb dX11_text_28 rfl (lv_at hl 1 rfl) ?_
    refine fx_getR X h (k := 0) (j := 7) (r := 136) sh_0 rfl fl_RX11_60 dX11_text_29 ?_
    refine lv_iload_n hx hb dX11_text_32 rfl (lv_at hl 2 rfl) ?_
    refine lv_aload_n hx hb dX11_text_33 rfl (lv_at hl 1 rfl) ?_
    refine fx_getR X h (k := 0) (j := 0) (r := 1) sh_0 rfl fl_RX11_12 dX11_text_34 ?_
    refine fx_getR X h (k := 1) (j := 0) (r := 2) sh_1 rfl fl_RX11_92 dX11_text_37 ?_
    refine fx_vi X h ym_X3_parse yi_X3_parse ys_X3_parse (fx_s4 (List.mem_of_getElem? (i := 152) rfl) rfl) sh_136 rfl (c_X3_parse l G (by decide) hT) (As := [.int x1, .ref (G.2.2.2 + 2)]) (rest := []) rfl rfl ⟨Nat.le_of_ble_eq_true rfl, Nat.le_of_ble_eq_true rfl⟩ ⟨Nat.le_refl _, Nat.le_refl _⟩ hl.1 (Nat.le_of_ble_eq_true rfl) dX11_text_40 (fun r15 M14 H locs hT h => ?_)
    refine lv_istore_n (lv' := [(2, .int r15), (0, .ref (G.2.2.2 + 0)), (1, .int x1)]) hx hb dX11_text_43 rfl hl (by decide) rfl (fun ls hl => ?_)
    refine lv_aload_n hx hb dX11_text_44 rfl (lv_at hl 1 rfl) ?_
    refine lv_aload_n hx hb dX11_text_45 rfl (lv_at hl 1 rfl) ?_
    refine fx_getR X h (k := 0) (j := 6) (r := 132) sh_0 rfl fl_RX11_51 dX11_text_46 ?_
    refine fx_getI X h (k := 132) (j := 7) sh_132 rfl fl_RX11_193 dX11_text_49 ?_
    refine fx_putI X h (k := 0) (j := 10) sh_0 rfl fl_RX11_75 dX11_text_52 (fun H locs h => ?_)
    obtain ⟨M16, eM16⟩ : ∃ z : Mm, z = m_up M14 0 10 (M14 132 7) := ⟨_, rfl⟩
    have hT := hT M16 eM16
    rw [← eM16] at h
    refine lv_aload_n hx hb dX11_text_55 rfl (lv_at hl 1 rfl) ?_
    refine lv_aload_n hx hb dX11_text_56 rfl (lv_at hl 1 rfl) ?_
    refine fx_getR X h (k := 0) (j := 6) (r := 132) sh_0 rfl fl_RX11_51 dX11_text_57 ?_
    refine fx_getI X h (k := 132) (j := 8) sh_132 rfl fl_RX11_196 dX11_text_60 ?_
    refine fx_putI X h (k := 0) (j := 11) sh_0 rfl fl_RX11_79 dX11_text_63 (fun H locs h => ?_)
    obtain ⟨M17, eM17⟩ : ∃ z : Mm, z = m_up M16 0 11 (M16 132 8) := ⟨_, rfl⟩
    have hT := hT M17 eM17
    rw [← eM17] at h
    exact w_X11_text_66 X hr hk x1 r15 M17 _ _ ls hT h (lv_sub hl [1, 2, 0] rfl)
