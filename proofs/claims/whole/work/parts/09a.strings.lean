/-! java/lang/String.isLatin1()Z -/
theorem dJ0_isLatin1_aae02_0 : decode cJ0_isLatin1_aae02 0 = .ok (.getstatic 38, 3) := by decide +kernel
theorem dJ0_isLatin1_aae02_3 : decode cJ0_isLatin1_aae02 3 = .ok (.ifCond .eq 14, 3) := by decide +kernel
theorem dJ0_isLatin1_aae02_6 : decode cJ0_isLatin1_aae02 6 = .ok (.aload_n 0, 1) := by decide +kernel
theorem dJ0_isLatin1_aae02_7 : decode cJ0_isLatin1_aae02 7 = .ok (.getfield 15, 3) := by decide +kernel
theorem dJ0_isLatin1_aae02_10 : decode cJ0_isLatin1_aae02 10 = .ok (.ifCond .ne 7, 3) := by decide +kernel
theorem dJ0_isLatin1_aae02_13 : decode cJ0_isLatin1_aae02 13 = .ok (.iconst 1, 1) := by decide +kernel
theorem dJ0_isLatin1_aae02_14 : decode cJ0_isLatin1_aae02 14 = .ok (.goto 4, 3) := by decide +kernel
theorem dJ0_isLatin1_aae02_17 : decode cJ0_isLatin1_aae02 17 = .ok (.iconst 0, 1) := by decide +kernel
theorem dJ0_isLatin1_aae02_18 : decode cJ0_isLatin1_aae02 18 = .ok (.ireturn, 1) := by decide +kernel
def T_J0_isLatin1_aae02 (i : Nat) (M : Mm) (K : Int32 → Mm → Prop) : Prop := (((1 : Int32) = 0 → (K (0 : Int32) M)) ∧ (¬ (1 : Int32) = 0 → (((0 : Int32) = 0 → (K (1 : Int32) M)) ∧ (¬ (0 : Int32) = 0 → (K (0 : Int32) M)))))
set_option maxHeartbeats 4000000 in
set_option maxRecDepth 100000 in
theorem c_J0_isLatin1_aae02 (l : Launch) (G : fx_G) {i : Nat} (hi : i < 2) {M : Mm} {K : Int32 → Mm → Prop} (hT : T_J0_isLatin1_aae02 i M K) : Met l yJ0_isLatin1_aae02 (fx_ws yJ0_isLatin1_aae02 cJ0_isLatin1_aae02 1 (some .boolean)) (fx_rm (0)) (va_Pc [.ref (G.2.2.1.2.1 i)] (fx_P G SH M)) (va_Qi K (fx_R G SH) (fx_A G)) 0 0 (fx_A G) := by
  refine fx_metF (own := RJ0) (by decide +kernel) rfl (Nat.le_of_ble_eq_true rfl) (fun p e s m below meth c X hr hk h ls hl => ?_)
  obtain ⟨⟨hx, hb, hml, hown, hts⟩, hK, hQ⟩ := id X
  have hl : lv_has ls 1 [(0, .ref (G.2.2.1.2.1 i))] := hl
  unfold T_J0_isLatin1_aae02 at hT
  refine va_gets hx hb hQ.2.2.2.1 h.2 hown (hts _ (fx_s4 (List.mem_of_getElem? (i := 48) rfl) rfl)) (fun _ h9 => h9) dJ0_isLatin1_aae02_0 ?_
  refine lv_if_eq (tgt := 17) hx hb dJ0_isLatin1_aae02_3 (by decide) (fun hc1 => ?_) (fun hc1 => ?_)
  · have hT := hT.1 hc1
    refine lv_iconst (v := 0) hx hb dJ0_isLatin1_aae02_17 (by decide) ?_
    exact fx_zret X hr hk h (Or.inl rfl) hT dJ0_isLatin1_aae02_18
  · have hT := hT.2 hc1
    refine lv_aload_n hx hb dJ0_isLatin1_aae02_6 rfl (lv_at hl 0 rfl) ?_
    refine vk_getf hx hb (hQ.2.2.1.1 i hi).2.1 h.2 hown (hts _ (fx_s9 (List.mem_of_getElem? (i := 137) rfl) rfl)) (fun _ h9 => h9) dJ0_isLatin1_aae02_7 ?_
    refine lv_if_ne (tgt := 17) hx hb dJ0_isLatin1_aae02_10 (by decide) (fun hc2 => ?_) (fun hc2 => ?_)
    · have hT := hT.2 hc2
      refine lv_iconst (v := 0) hx hb dJ0_isLatin1_aae02_17 (by decide) ?_
      exact fx_zret X hr hk h (Or.inl rfl) hT dJ0_isLatin1_aae02_18
    · have hT := hT.1 hc2
      refine lv_iconst (v := 1) hx hb dJ0_isLatin1_aae02_13 (by decide) ?_
      refine lv_goto (tgt := 18) hx hb dJ0_isLatin1_aae02_14 (by decide) ?_
      exact fx_zret X hr hk h (Or.inr rfl) hT dJ0_isLatin1_aae02_18
/-! java/lang/String.coder()B -/
theorem dJ0_coder_7d493_0 : decode cJ0_coder_7d493 0 = .ok (.getstatic 38, 3) := by decide +kernel
theorem dJ0_coder_7d493_3 : decode cJ0_coder_7d493 3 = .ok (.ifCond .eq 10, 3) := by decide +kernel
theorem dJ0_coder_7d493_6 : decode cJ0_coder_7d493 6 = .ok (.aload_n 0, 1) := by decide +kernel
theorem dJ0_coder_7d493_7 : decode cJ0_coder_7d493 7 = .ok (.getfield 15, 3) := by decide +kernel
theorem dJ0_coder_7d493_10 : decode cJ0_coder_7d493 10 = .ok (.goto 4, 3) := by decide +kernel
theorem dJ0_coder_7d493_13 : decode cJ0_coder_7d493 13 = .ok (.iconst 1, 1) := by decide +kernel
theorem dJ0_coder_7d493_14 : decode cJ0_coder_7d493 14 = .ok (.ireturn, 1) := by decide +kernel
def T_J0_coder_7d493 (i : Nat) (M : Mm) (K : Int32 → Mm → Prop) : Prop := (((1 : Int32) = 0 → (narrow .byte (.int (1 : Int32)) = .int (1 : Int32) ∧ K (1 : Int32) M)) ∧ (¬ (1 : Int32) = 0 → (narrow .byte (.int (0 : Int32)) = .int (0 : Int32) ∧ K (0 : Int32) M)))
set_option maxHeartbeats 4000000 in
set_option maxRecDepth 100000 in
theorem c_J0_coder_7d493 (l : Launch) (G : fx_G) {i : Nat} (hi : i < 2) {M : Mm} {K : Int32 → Mm → Prop} (hT : T_J0_coder_7d493 i M K) : Met l yJ0_coder_7d493 (fx_ws yJ0_coder_7d493 cJ0_coder_7d493 1 (some .byte)) (fx_rm (0)) (va_Pc [.ref (G.2.2.1.2.1 i)] (fx_P G SH M)) (va_Qi K (fx_R G SH) (fx_A G)) 0 0 (fx_A G) := by
  refine fx_metF (own := RJ0) (by decide +kernel) rfl (Nat.le_of_ble_eq_true rfl) (fun p e s m below meth c X hr hk h ls hl => ?_)
  obtain ⟨⟨hx, hb, hml, hown, hts⟩, hK, hQ⟩ := id X
  have hl : lv_has ls 1 [(0, .ref (G.2.2.1.2.1 i))] := hl
  unfold T_J0_coder_7d493 at hT
  refine va_gets hx hb hQ.2.2.2.1 h.2 hown (hts _ (fx_s4 (List.mem_of_getElem? (i := 48) rfl) rfl)) (fun _ h9 => h9) dJ0_coder_7d493_0 ?_
  refine lv_if_eq (tgt := 13) hx hb dJ0_coder_7d493_3 (by decide) (fun hc1 => ?_) (fun hc1 => ?_)
  · have hT := hT.1 hc1
    refine lv_iconst (v := 1) hx hb dJ0_coder_7d493_13 (by decide) ?_
    exact fx_nret X hr hk h hT.1 hT.2 dJ0_coder_7d493_14
  · have hT := hT.2 hc1
    refine lv_aload_n hx hb dJ0_coder_7d493_6 rfl (lv_at hl 0 rfl) ?_
    refine vk_getf hx hb (hQ.2.2.1.1 i hi).2.1 h.2 hown (hts _ (fx_s9 (List.mem_of_getElem? (i := 137) rfl) rfl)) (fun _ h9 => h9) dJ0_coder_7d493_7 ?_
    refine lv_goto (tgt := 14) hx hb dJ0_coder_7d493_10 (by decide) ?_
    exact fx_nret X hr hk h hT.1 hT.2 dJ0_coder_7d493_14
/-! java/lang/String.length()I -/
theorem dJ0_length_8abf5_0 : decode cJ0_length_8abf5 0 = .ok (.aload_n 0, 1) := by decide +kernel
theorem dJ0_length_8abf5_1 : decode cJ0_length_8abf5 1 = .ok (.getfield 9, 3) := by decide +kernel
theorem dJ0_length_8abf5_4 : decode cJ0_length_8abf5 4 = .ok (.arraylength, 1) := by decide +kernel
theorem dJ0_length_8abf5_5 : decode cJ0_length_8abf5 5 = .ok (.aload_n 0, 1) := by decide +kernel
theorem dJ0_length_8abf5_6 : decode cJ0_length_8abf5 6 = .ok (.invokevirtual 335, 3) := by decide +kernel
theorem dJ0_length_8abf5_9 : decode cJ0_length_8abf5 9 = .ok (.ishr, 1) := by decide +kernel
theorem dJ0_length_8abf5_10 : decode cJ0_length_8abf5 10 = .ok (.ireturn, 1) := by decide +kernel
def T_J0_length_8abf5 (i : Nat) (M : Mm) (K : Int32 → Mm → Prop) : Prop := (T_J0_coder_7d493 i M (fun r3 M2 => (K ((nI (sl_.getD i 0)) >>> (r3 &&& 31)) M2)))
set_option maxHeartbeats 4000000 in
set_option maxRecDepth 100000 in
theorem c_J0_length_8abf5 (l : Launch) (G : fx_G) {i : Nat} (hi : i < 2) {M : Mm} {K : Int32 → Mm → Prop} (hT : T_J0_length_8abf5 i M K) : Met l yJ0_length_8abf5 (fx_ws yJ0_length_8abf5 cJ0_length_8abf5 1 (some .int)) (fx_rm (1)) (va_Pc [.ref (G.2.2.1.2.1 i)] (fx_P G SH M)) (va_Qi K (fx_R G SH) (fx_A G)) 0 0 (fx_A G) := by
  refine fx_metF (own := RJ0) (by decide +kernel) rfl (Nat.le_of_ble_eq_true rfl) (fun p e s m below meth c X hr hk h ls hl => ?_)
  obtain ⟨⟨hx, hb, hml, hown, hts⟩, hK, hQ⟩ := id X
  have hl : lv_has ls 1 [(0, .ref (G.2.2.1.2.1 i))] := hl
  unfold T_J0_length_8abf5 at hT
  refine lv_aload_n hx hb dJ0_length_8abf5_0 rfl (lv_at hl 0 rfl) ?_
  refine vk_getf hx hb (hQ.2.2.1.1 i hi).2.2.1 h.2 hown (hts _ (fx_s9 (List.mem_of_getElem? (i := 136) rfl) rfl)) (fun _ h9 => h9) dJ0_length_8abf5_1 ?_
  refine va_tlen hx hb (hQ.2.2.1.1 i hi).2.2.2 h.2 (v := nI (sl_.getD i 0)) rfl dJ0_length_8abf5_4 ?_
  refine lv_aload_n hx hb dJ0_length_8abf5_5 rfl (lv_at hl 0 rfl) ?_
  refine fx_ti X h ym_J0_coder_7d493 yi_J0_coder_7d493 ys_J0_coder_7d493 (fx_s4 (List.mem_of_getElem? (i := 44) rfl) rfl) (k := i) hi rfl (c_J0_coder_7d493 l G hi hT) (As := []) (rest := [.int (nI (sl_.getD i 0))]) rfl rfl ⟨Nat.le_of_ble_eq_true rfl, Nat.le_of_ble_eq_true rfl⟩ ⟨Nat.le_refl _, Nat.le_refl _⟩ hl.1 (Nat.le_of_ble_eq_true rfl) dJ0_length_8abf5_6 (fun r3 M2 H locs hT h => ?_)
  refine lv_ishr hx hb dJ0_length_8abf5_9 ?_
  exact fx_iret X hr hk h hT dJ0_length_8abf5_10
/-! jdk/internal/util/Preconditions.checkIndex(IILjava/util/function/BiFunction;)I -/
theorem dJ3_checkIndex_8e157_0 : decode cJ3_checkIndex_8e157 0 = .ok (.iload_n 0, 1) := by decide +kernel
theorem dJ3_checkIndex_8e157_1 : decode cJ3_checkIndex_8e157 1 = .ok (.ifCond .lt 8, 3) := by decide +kernel
theorem dJ3_checkIndex_8e157_4 : decode cJ3_checkIndex_8e157 4 = .ok (.iload_n 0, 1) := by decide +kernel
theorem dJ3_checkIndex_8e157_5 : decode cJ3_checkIndex_8e157 5 = .ok (.iload_n 1, 1) := by decide +kernel
theorem dJ3_checkIndex_8e157_6 : decode cJ3_checkIndex_8e157 6 = .ok (.if_icmp .lt 10, 3) := by decide +kernel
theorem dJ3_checkIndex_8e157_9 : decode cJ3_checkIndex_8e157 9 = .ok (.aload_n 2, 1) := by decide +kernel
theorem dJ3_checkIndex_8e157_10 : decode cJ3_checkIndex_8e157 10 = .ok (.iload_n 0, 1) := by decide +kernel
theorem dJ3_checkIndex_8e157_11 : decode cJ3_checkIndex_8e157 11 = .ok (.iload_n 1, 1) := by decide +kernel
theorem dJ3_checkIndex_8e157_12 : decode cJ3_checkIndex_8e157 12 = .ok (.invokestatic 95, 3) := by decide +kernel
theorem dJ3_checkIndex_8e157_16 : decode cJ3_checkIndex_8e157 16 = .ok (.iload_n 0, 1) := by decide +kernel
theorem dJ3_checkIndex_8e157_17 : decode cJ3_checkIndex_8e157 17 = .ok (.ireturn, 1) := by decide +kernel
def T_J3_checkIndex_8e157 (x0 : Int32) (x1 : Int32) (M : Mm) (K : Int32 → Mm → Prop) : Prop := ((x0 < 0 → False) ∧ (¬ x0 < 0 → ((x0 < x1 → (K x0 M)) ∧ (¬ x0 < x1 → False))))
set_option maxHeartbeats 4000000 in
set_option maxRecDepth 100000 in
theorem c_J3_checkIndex_8e157_n (l : Launch) (G : fx_G) {x0 : Int32} {x1 : Int32} {M : Mm} {K : Int32 → Mm → Prop} (hT : T_J3_checkIndex_8e157 x0 x1 M K) : Met l yJ3_checkIndex_8e157 (fx_ws yJ3_checkIndex_8e157 cJ3_checkIndex_8e157 3 (some .int)) (fx_rm (0)) (va_Pc [.int x0, .int x1, .null] (fx_P G SH M)) (va_Qi K (fx_R G SH) (fx_A G)) 0 0 (fx_A G) := by
  refine fx_metF (own := RJ3) (by decide +kernel) rfl (Nat.le_of_ble_eq_true rfl) (fun p e s m below meth c X hr hk h ls hl => ?_)
  obtain ⟨⟨hx, hb, hml, hown, hts⟩, hK, hQ⟩ := id X
  have hl : lv_has ls 3 [(0, .int x0), (1, .int x1), (2, .null)] := hl
  unfold T_J3_checkIndex_8e157 at hT
  refine lv_iload_n hx hb dJ3_checkIndex_8e157_0 rfl (lv_at hl 0 rfl) ?_
  refine lv_if_lt (tgt := 9) hx hb dJ3_checkIndex_8e157_1 (by decide) (fun hc1 => ?_) (fun hc1 => ?_)
  · have hT := hT.1 hc1
    exact hT.elim
  · have hT := hT.2 hc1
    refine lv_iload_n hx hb dJ3_checkIndex_8e157_4 rfl (lv_at hl 0 rfl) ?_
    refine lv_iload_n hx hb dJ3_checkIndex_8e157_5 rfl (lv_at hl 1 rfl) ?_
    refine lv_icmp_lt (tgt := 16) hx hb dJ3_checkIndex_8e157_6 (by decide) (fun hc2 => ?_) (fun hc2 => ?_)
    · have hT := hT.1 hc2
      refine lv_iload_n hx hb dJ3_checkIndex_8e157_16 rfl (lv_at hl 0 rfl) ?_
      exact fx_iret X hr hk h hT dJ3_checkIndex_8e157_17
    · have hT := hT.2 hc2
      exact hT.elim
theorem c_J3_checkIndex_8e157_r (l : Launch) (G : fx_G) {tz : Nat} {x0 : Int32} {x1 : Int32} {M : Mm} {K : Int32 → Mm → Prop} (hT : T_J3_checkIndex_8e157 x0 x1 M K) : Met l yJ3_checkIndex_8e157 (fx_ws yJ3_checkIndex_8e157 cJ3_checkIndex_8e157 3 (some .int)) (fx_rm (0)) (va_Pc [.int x0, .int x1, .ref tz] (fx_P G SH M)) (va_Qi K (fx_R G SH) (fx_A G)) 0 0 (fx_A G) := by
  refine fx_metF (own := RJ3) (by decide +kernel) rfl (Nat.le_of_ble_eq_true rfl) (fun p e s m below meth c X hr hk h ls hl => ?_)
  obtain ⟨⟨hx, hb, hml, hown, hts⟩, hK, hQ⟩ := id X
  have hl : lv_has ls 3 [(0, .int x0), (1, .int x1), (2, .ref tz)] := hl
  unfold T_J3_checkIndex_8e157 at hT
  refine lv_iload_n hx hb dJ3_checkIndex_8e157_0 rfl (lv_at hl 0 rfl) ?_
  refine lv_if_lt (tgt := 9) hx hb dJ3_checkIndex_8e157_1 (by decide) (fun hc1 => ?_) (fun hc1 => ?_)
  · have hT := hT.1 hc1
    exact hT.elim
  · have hT := hT.2 hc1
    refine lv_iload_n hx hb dJ3_checkIndex_8e157_4 rfl (lv_at hl 0 rfl) ?_
    refine lv_iload_n hx hb dJ3_checkIndex_8e157_5 rfl (lv_at hl 1 rfl) ?_
    refine lv_icmp_lt (tgt := 16) hx hb dJ3_checkIndex_8e157_6 (by decide) (fun hc2 => ?_) (fun hc2 => ?_)
    · have hT := hT.1 hc2
      refine lv_iload_n hx hb dJ3_checkIndex_8e157_16 rfl (lv_at hl 0 rfl) ?_
      exact fx_iret X hr hk h hT dJ3_checkIndex_8e157_17
    · have hT := hT.2 hc2
      exact hT.elim
/-! java/lang/String.checkIndex(II)V -/
theorem dJ0_checkIndex_df160_0 : decode cJ0_checkIndex_df160 0 = .ok (.iload_n 0, 1) := by decide +kernel
theorem dJ0_checkIndex_df160_1 : decode cJ0_checkIndex_df160 1 = .ok (.iload_n 1, 1) := by decide +kernel
theorem dJ0_checkIndex_df160_2 : decode cJ0_checkIndex_df160 2 = .ok (.getstatic 1053, 3) := by decide +kernel
theorem dJ0_checkIndex_df160_5 : decode cJ0_checkIndex_df160 5 = .ok (.invokestatic 1059, 3) := by decide +kernel
theorem dJ0_checkIndex_df160_8 : decode cJ0_checkIndex_df160 8 = .ok (.pop, 1) := by decide +kernel
theorem dJ0_checkIndex_df160_9 : decode cJ0_checkIndex_df160 9 = .ok (.return_, 1) := by decide +kernel
def T_J0_checkIndex_df160 (x0 : Int32) (x1 : Int32) (M : Mm) (K : Mm → Prop) : Prop := (T_J3_checkIndex_8e157 x0 x1 M (fun r3 M2 => (K M2)))
set_option maxHeartbeats 4000000 in
set_option maxRecDepth 100000 in
theorem c_J0_checkIndex_df160 (l : Launch) (G : fx_G) {x0 : Int32} {x1 : Int32} {M : Mm} {K : Mm → Prop} (hT : T_J0_checkIndex_df160 x0 x1 M K) : Met l yJ0_checkIndex_df160 (fx_ws yJ0_checkIndex_df160 cJ0_checkIndex_df160 2 none) (fx_rm (1)) (va_Pc [.int x0, .int x1] (fx_P G SH M)) (va_Qv K (fx_R G SH) (fx_A G)) 0 0 (fx_A G) := by
  refine fx_metF (own := RJ0) (by decide +kernel) rfl (Nat.le_of_ble_eq_true rfl) (fun p e s m below meth c X hr hk h ls hl => ?_)
  obtain ⟨⟨hx, hb, hml, hown, hts⟩, hK, hQ⟩ := id X
  have hl : lv_has ls 2 [(0, .int x0), (1, .int x1)] := hl
  unfold T_J0_checkIndex_df160 at hT
  refine lv_iload_n hx hb dJ0_checkIndex_df160_0 rfl (lv_at hl 0 rfl) ?_
  refine lv_iload_n hx hb dJ0_checkIndex_df160_1 rfl (lv_at hl 1 rfl) ?_
  rcases hQ.2.2.2.2 with hZ | ⟨tz, hZ⟩
  · refine va_gets hx hb hZ h.2 hown (hts _ (fx_s4 (List.mem_of_getElem? (i := 64) rfl) rfl)) (fun _ h9 => h9) dJ0_checkIndex_df160_2 ?_
    refine fx_si X h ym_J3_checkIndex_8e157 yt_J3_checkIndex_8e157 (fx_s4 (List.mem_of_getElem? (i := 66) rfl) rfl) (c_J3_checkIndex_8e157_n l G hT) (As := [.int x0, .int x1, .null]) (rest := []) rfl rfl ⟨Nat.le_of_ble_eq_true rfl, Nat.le_of_ble_eq_true rfl⟩ ⟨Nat.le_refl _, Nat.le_refl _⟩ hl.1 (Nat.le_of_ble_eq_true rfl) dJ0_checkIndex_df160_5 (fun r3 M2 H locs hT h => ?_)
    refine lv_pop hx hb dJ0_checkIndex_df160_8 rfl ?_
    exact fx_vret X hr hk h hT dJ0_checkIndex_df160_9
  · refine va_gets hx hb hZ h.2 hown (hts _ (fx_s4 (List.mem_of_getElem? (i := 64) rfl) rfl)) (fun _ h9 => h9) dJ0_checkIndex_df160_2 ?_
    refine fx_si X h ym_J3_checkIndex_8e157 yt_J3_checkIndex_8e157 (fx_s4 (List.mem_of_getElem? (i := 66) rfl) rfl) (c_J3_checkIndex_8e157_r l G hT) (As := [.int x0, .int x1, .ref tz]) (rest := []) rfl rfl ⟨Nat.le_of_ble_eq_true rfl, Nat.le_of_ble_eq_true rfl⟩ ⟨Nat.le_refl _, Nat.le_refl _⟩ hl.1 (Nat.le_of_ble_eq_true rfl) dJ0_checkIndex_df160_5 (fun r3 M2 H locs hT h => ?_)
    refine lv_pop hx hb dJ0_checkIndex_df160_8 rfl ?_
    exact fx_vret X hr hk h hT dJ0_checkIndex_df160_9
/-! java/lang/StringLatin1.charAt([BI)C -/
theorem dJ1_charAt_3b067_0 : decode cJ1_charAt_3b067 0 = .ok (.iload_n 1, 1) := by decide +kernel
theorem dJ1_charAt_3b067_1 : decode cJ1_charAt_3b067 1 = .ok (.aload_n 0, 1) := by decide +kernel
theorem dJ1_charAt_3b067_2 : decode cJ1_charAt_3b067 2 = .ok (.arraylength, 1) := by decide +kernel
theorem dJ1_charAt_3b067_3 : decode cJ1_charAt_3b067 3 = .ok (.invokestatic 9, 3) := by decide +kernel
theorem dJ1_charAt_3b067_6 : decode cJ1_charAt_3b067 6 = .ok (.aload_n 0, 1) := by decide +kernel
theorem dJ1_charAt_3b067_7 : decode cJ1_charAt_3b067 7 = .ok (.iload_n 1, 1) := by decide +kernel
theorem dJ1_charAt_3b067_8 : decode cJ1_charAt_3b067 8 = .ok (.baload, 1) := by decide +kernel
theorem dJ1_charAt_3b067_9 : decode cJ1_charAt_3b067 9 = .ok (.sipush 255, 3) := by decide +kernel
theorem dJ1_charAt_3b067_12 : decode cJ1_charAt_3b067 12 = .ok (.iand, 1) := by decide +kernel
theorem dJ1_charAt_3b067_13 : decode cJ1_charAt_3b067 13 = .ok (.i2c, 1) := by decide +kernel
theorem dJ1_charAt_3b067_14 : decode cJ1_charAt_3b067 14 = .ok (.ireturn, 1) := by decide +kernel
def T_J1_charAt_3b067 (i0 : Nat) (x1 : Int32) (M : Mm) (K : Int32 → Mm → Prop) : Prop := (T_J0_checkIndex_df160 x1 (nI (sl_.getD i0 0)) M (fun M2 => (vp_in x1 (sl_.getD i0 0) ∧ (narrow .char (.int (((((sb_.getD i0 []).getD (x1).toNatClampNeg 0) &&& (255 : Int32))).toUInt32 % 65536).toInt32) = .int (((((sb_.getD i0 []).getD (x1).toNatClampNeg 0) &&& (255 : Int32))).toUInt32 % 65536).toInt32 ∧ K (((((sb_.getD i0 []).getD (x1).toNatClampNeg 0) &&& (255 : Int32))).toUInt32 % 65536).toInt32 M2))))
set_option maxHeartbeats 4000000 in
set_option maxRecDepth 100000 in
theorem c_J1_charAt_3b067 (l : Launch) (G : fx_G) {i0 : Nat} (hi0 : i0 < 2) {x1 : Int32} {M : Mm} {K : Int32 → Mm → Prop} (hT : T_J1_charAt_3b067 i0 x1 M K) : Met l yJ1_charAt_3b067 (fx_ws yJ1_charAt_3b067 cJ1_charAt_3b067 2 (some .char)) (fx_rm (2)) (va_Pc [.ref (G.2.2.1.2.2 i0), .int x1] (fx_P G SH M)) (va_Qi K (fx_R G SH) (fx_A G)) 0 0 (fx_A G) := by
  refine fx_metF (own := RJ1) (by decide +kernel) rfl (Nat.le_of_ble_eq_true rfl) (fun p e s m below meth c X hr hk h ls hl => ?_)
  obtain ⟨⟨hx, hb, hml, hown, hts⟩, hK, hQ⟩ := id X
  have hl : lv_has ls 2 [(0, .ref (G.2.2.1.2.2 i0)), (1, .int x1)] := hl
  unfold T_J1_charAt_3b067 at hT
  refine lv_iload_n hx hb dJ1_charAt_3b067_0 rfl (lv_at hl 1 rfl) ?_
  refine lv_aload_n hx hb dJ1_charAt_3b067_1 rfl (lv_at hl 0 rfl) ?_
  refine va_tlen hx hb (hQ.2.2.1.1 i0 hi0).2.2.2 h.2 (v := nI (sl_.getD i0 0)) rfl dJ1_charAt_3b067_2 ?_
  refine fx_sv X h ym_J0_checkIndex_df160 yt_J0_checkIndex_df160 (fx_s4 (List.mem_of_getElem? (i := 61) rfl) rfl) (c_J0_checkIndex_df160 l G hT) (As := [.int x1, .int (nI (sl_.getD i0 0))]) (rest := []) rfl rfl ⟨Nat.le_of_ble_eq_true rfl, Nat.le_of_ble_eq_true rfl⟩ ⟨Nat.le_refl _, Nat.le_refl _⟩ hl.1 (Nat.le_of_ble_eq_true rfl) dJ1_charAt_3b067_3 (fun M2 H locs hT h => ?_)
  refine lv_aload_n hx hb dJ1_charAt_3b067_6 rfl (lv_at hl 0 rfl) ?_
  refine lv_iload_n hx hb dJ1_charAt_3b067_7 rfl (lv_at hl 1 rfl) ?_
  obtain ⟨hi3, hT⟩ := hT
  refine va_tb hx hb (hQ.2.2.1.1 i0 hi0).2.2.2 h.2 hi3 rfl dJ1_charAt_3b067_8 ?_
  refine lv_sipush (v := 255) hx hb dJ1_charAt_3b067_9 (by decide) ?_
  refine lv_iand hx hb dJ1_charAt_3b067_12 ?_
  refine lv_i2c hx hb dJ1_charAt_3b067_13 rfl ?_
  exact fx_nret X hr hk h hT.1 hT.2 dJ1_charAt_3b067_14
/-! java/lang/String.charAt(I)C -/
theorem dJ0_charAt_5068e_0 : decode cJ0_charAt_5068e 0 = .ok (.aload_n 0, 1) := by decide +kernel
theorem dJ0_charAt_5068e_1 : decode cJ0_charAt_5068e 1 = .ok (.invokevirtual 492, 3) := by decide +kernel
theorem dJ0_charAt_5068e_4 : decode cJ0_charAt_5068e 4 = .ok (.ifCond .eq 12, 3) := by decide +kernel
theorem dJ0_charAt_5068e_7 : decode cJ0_charAt_5068e 7 = .ok (.aload_n 0, 1) := by decide +kernel
theorem dJ0_charAt_5068e_8 : decode cJ0_charAt_5068e 8 = .ok (.getfield 9, 3) := by decide +kernel
theorem dJ0_charAt_5068e_11 : decode cJ0_charAt_5068e 11 = .ok (.iload_n 1, 1) := by decide +kernel
theorem dJ0_charAt_5068e_12 : decode cJ0_charAt_5068e 12 = .ok (.invokestatic 495, 3) := by decide +kernel
theorem dJ0_charAt_5068e_15 : decode cJ0_charAt_5068e 15 = .ok (.ireturn, 1) := by decide +kernel
theorem dJ0_charAt_5068e_16 : decode cJ0_charAt_5068e 16 = .ok (.aload_n 0, 1) := by decide +kernel
theorem dJ0_charAt_5068e_17 : decode cJ0_charAt_5068e 17 = .ok (.getfield 9, 3) := by decide +kernel
theorem dJ0_charAt_5068e_20 : decode cJ0_charAt_5068e 20 = .ok (.iload_n 1, 1) := by decide +kernel
theorem dJ0_charAt_5068e_21 : decode cJ0_charAt_5068e 21 = .ok (.invokestatic 498, 3) := by decide +kernel
def T_J0_charAt_5068e (i : Nat) (x1 : Int32) (M : Mm) (K : Int32 → Mm → Prop) : Prop := (T_J0_isLatin1_aae02 i M (fun r3 M2 => ((r3 = 0 → False) ∧ (¬ r3 = 0 → (T_J1_charAt_3b067 i x1 M2 (fun r7 M6 => (narrow .char (.int r7) = .int r7 ∧ K r7 M6)))))))
set_option maxHeartbeats 4000000 in
set_option maxRecDepth 100000 in
theorem c_J0_charAt_5068e (l : Launch) (G : fx_G) {i : Nat} (hi : i < 2) {x1 : Int32} {M : Mm} {K : Int32 → Mm → Prop} (hT : T_J0_charAt_5068e i x1 M K) : Met l yJ0_charAt_5068e (fx_ws yJ0_charAt_5068e cJ0_charAt_5068e 2 (some .char)) (fx_rm (3)) (va_Pc [.ref (G.2.2.1.2.1 i), .int x1] (fx_P G SH M)) (va_Qi K (fx_R G SH) (fx_A G)) 0 0 (fx_A G) := by
  refine fx_metF (own := RJ0) (by decide +kernel) rfl (Nat.le_of_ble_eq_true rfl) (fun p e s m below meth c X hr hk h ls hl => ?_)
  obtain ⟨⟨hx, hb, hml, hown, hts⟩, hK, hQ⟩ := id X
  have hl : lv_has ls 2 [(0, .ref (G.2.2.1.2.1 i)), (1, .int x1)] := hl
  unfold T_J0_charAt_5068e at hT
  refine lv_aload_n hx hb dJ0_charAt_5068e_0 rfl (lv_at hl 0 rfl) ?_
  refine fx_ti X h ym_J0_isLatin1_aae02 yi_J0_isLatin1_aae02 ys_J0_isLatin1_aae02 (fx_s4 (List.mem_of_getElem? (i := 54) rfl) rfl) (k := i) hi rfl (c_J0_isLatin1_aae02 l G hi hT) (As := []) (rest := []) rfl rfl ⟨Nat.le_of_ble_eq_true rfl, Nat.le_of_ble_eq_true rfl⟩ ⟨Nat.le_refl _, Nat.le_refl _⟩ hl.1 (Nat.le_of_ble_eq_true rfl) dJ0_charAt_5068e_1 (fun r3 M2 H locs hT h => ?_)
  refine lv_if_eq (tgt := 16) hx hb dJ0_charAt_5068e_4 (by decide) (fun hc4 => ?_) (fun hc4 => ?_)
  · have hT := hT.1 hc4
    exact hT.elim
  · have hT := hT.2 hc4
    refine lv_aload_n hx hb dJ0_charAt_5068e_7 rfl (lv_at hl 0 rfl) ?_
    refine vk_getf hx hb (hQ.2.2.1.1 i hi).2.2.1 h.2 hown (hts _ (fx_s9 (List.mem_of_getElem? (i := 136) rfl) rfl)) (fun _ h9 => h9) dJ0_charAt_5068e_8 ?_
    refine lv_iload_n hx hb dJ0_charAt_5068e_11 rfl (lv_at hl 1 rfl) ?_
    refine fx_si X h ym_J1_charAt_3b067 yt_J1_charAt_3b067 (fx_s4 (List.mem_of_getElem? (i := 58) rfl) rfl) (c_J1_charAt_3b067 l G hi hT) (As := [.ref (G.2.2.1.2.2 i), .int x1]) (rest := []) rfl rfl ⟨Nat.le_of_ble_eq_true rfl, Nat.le_of_ble_eq_true rfl⟩ ⟨Nat.le_refl _, Nat.le_refl _⟩ hl.1 (Nat.le_of_ble_eq_true rfl) dJ0_charAt_5068e_12 (fun r7 M6 H locs hT h => ?_)
    exact fx_nret X hr hk h hT.1 hT.2 dJ0_charAt_5068e_15
/-! java/lang/StringLatin1.canEncode(I)Z -/
theorem dJ1_canEncode_9a6ad_0 : decode cJ1_canEncode_9a6ad 0 = .ok (.iload_n 0, 1) := by decide +kernel
theorem dJ1_canEncode_9a6ad_1 : decode cJ1_canEncode_9a6ad 1 = .ok (.ifCond .lt 14, 3) := by decide +kernel
theorem dJ1_canEncode_9a6ad_4 : decode cJ1_canEncode_9a6ad 4 = .ok (.iload_n 0, 1) := by decide +kernel
theorem dJ1_canEncode_9a6ad_5 : decode cJ1_canEncode_9a6ad 5 = .ok (.sipush 255, 3) := by decide +kernel
theorem dJ1_canEncode_9a6ad_8 : decode cJ1_canEncode_9a6ad 8 = .ok (.if_icmp .gt 7, 3) := by decide +kernel
theorem dJ1_canEncode_9a6ad_11 : decode cJ1_canEncode_9a6ad 11 = .ok (.iconst 1, 1) := by decide +kernel
theorem dJ1_canEncode_9a6ad_12 : decode cJ1_canEncode_9a6ad 12 = .ok (.goto 4, 3) := by decide +kernel
theorem dJ1_canEncode_9a6ad_15 : decode cJ1_canEncode_9a6ad 15 = .ok (.iconst 0, 1) := by decide +kernel
theorem dJ1_canEncode_9a6ad_16 : decode cJ1_canEncode_9a6ad 16 = .ok (.ireturn, 1) := by decide +kernel
def T_J1_canEncode_9a6ad (x0 : Int32) (M : Mm) (K : Int32 → Mm → Prop) : Prop := ((x0 < 0 → (K (0 : Int32) M)) ∧ (¬ x0 < 0 → (((255 : Int32) < x0 → (K (0 : Int32) M)) ∧ (¬ (255 : Int32) < x0 → (K (1 : Int32) M)))))
set_option maxHeartbeats 4000000 in
set_option maxRecDepth 100000 in
theorem c_J1_canEncode_9a6ad (l : Launch) (G : fx_G) {x0 : Int32} {M : Mm} {K : Int32 → Mm → Prop} (hT : T_J1_canEncode_9a6ad x0 M K) : Met l yJ1_canEncode_9a6ad (fx_ws yJ1_canEncode_9a6ad cJ1_canEncode_9a6ad 1 (some .boolean)) (fx_rm (0)) (va_Pc [.int x0] (fx_P G SH M)) (va_Qi K (fx_R G SH) (fx_A G)) 0 0 (fx_A G) := by
  refine fx_metF (own := RJ1) (by decide +kernel) rfl (Nat.le_of_ble_eq_true rfl) (fun p e s m below meth c X hr hk h ls hl => ?_)
  obtain ⟨⟨hx, hb, hml, hown, hts⟩, hK, hQ⟩ := id X
  have hl : lv_has ls 1 [(0, .int x0)] := hl
  unfold T_J1_canEncode_9a6ad at hT
  refine lv_iload_n hx hb dJ1_canEncode_9a6ad_0 rfl (lv_at hl 0 rfl) ?_
  refine lv_if_lt (tgt := 15) hx hb dJ1_canEncode_9a6ad_1 (by decide) (fun hc1 => ?_) (fun hc1 => ?_)
  · have hT := hT.1 hc1
    refine lv_iconst (v := 0) hx hb dJ1_canEncode_9a6ad_15 (by decide) ?_
    exact fx_zret X hr hk h (Or.inl rfl) hT dJ1_canEncode_9a6ad_16
  · have hT := hT.2 hc1
    refine lv_iload_n hx hb dJ1_canEncode_9a6ad_4 rfl (lv_at hl 0 rfl) ?_
    refine lv_sipush (v := 255) hx hb dJ1_canEncode_9a6ad_5 (by decide) ?_
    refine lv_icmp_gt (tgt := 15) hx hb dJ1_canEncode_9a6ad_8 (by decide) (fun hc2 => ?_) (fun hc2 => ?_)
    · have hT := hT.1 hc2
      refine lv_iconst (v := 0) hx hb dJ1_canEncode_9a6ad_15 (by decide) ?_
      exact fx_zret X hr hk h (Or.inl rfl) hT dJ1_canEncode_9a6ad_16
    · have hT := hT.2 hc2
      refine lv_iconst (v := 1) hx hb dJ1_canEncode_9a6ad_11 (by decide) ?_
      refine lv_goto (tgt := 16) hx hb dJ1_canEncode_9a6ad_12 (by decide) ?_
      exact fx_zret X hr hk h (Or.inr rfl) hT dJ1_canEncode_9a6ad_16
/-! java/lang/StringLatin1.indexOfChar([BIII)I -/
theorem dJ1_indexOfChar_4cfef_0 : decode cJ1_indexOfChar_4cfef 0 = .ok (.iload_n 1, 1) := by decide +kernel
theorem dJ1_indexOfChar_4cfef_1 : decode cJ1_indexOfChar_4cfef 1 = .ok (.i2b, 1) := by decide +kernel
theorem dJ1_indexOfChar_4cfef_2 : decode cJ1_indexOfChar_4cfef 2 = .ok (.istore 4, 2) := by decide +kernel
theorem dJ1_indexOfChar_4cfef_4 : decode cJ1_indexOfChar_4cfef 4 = .ok (.iload_n 2, 1) := by decide +kernel
theorem dJ1_indexOfChar_4cfef_5 : decode cJ1_indexOfChar_4cfef 5 = .ok (.istore 5, 2) := by decide +kernel
theorem dJ1_indexOfChar_4cfef_7 : decode cJ1_indexOfChar_4cfef 7 = .ok (.iload 5, 2) := by decide +kernel
theorem dJ1_indexOfChar_4cfef_9 : decode cJ1_indexOfChar_4cfef 9 = .ok (.iload_n 3, 1) := by decide +kernel
theorem dJ1_indexOfChar_4cfef_10 : decode cJ1_indexOfChar_4cfef 10 = .ok (.if_icmp .ge 21, 3) := by decide +kernel
theorem dJ1_indexOfChar_4cfef_13 : decode cJ1_indexOfChar_4cfef 13 = .ok (.aload_n 0, 1) := by decide +kernel
theorem dJ1_indexOfChar_4cfef_14 : decode cJ1_indexOfChar_4cfef 14 = .ok (.iload 5, 2) := by decide +kernel
theorem dJ1_indexOfChar_4cfef_16 : decode cJ1_indexOfChar_4cfef 16 = .ok (.baload, 1) := by decide +kernel
theorem dJ1_indexOfChar_4cfef_17 : decode cJ1_indexOfChar_4cfef 17 = .ok (.iload 4, 2) := by decide +kernel
theorem dJ1_indexOfChar_4cfef_19 : decode cJ1_indexOfChar_4cfef 19 = .ok (.if_icmp .ne 6, 3) := by decide +kernel
theorem dJ1_indexOfChar_4cfef_22 : decode cJ1_indexOfChar_4cfef 22 = .ok (.iload 5, 2) := by decide +kernel
theorem dJ1_indexOfChar_4cfef_24 : decode cJ1_indexOfChar_4cfef 24 = .ok (.ireturn, 1) := by decide +kernel
theorem dJ1_indexOfChar_4cfef_25 : decode cJ1_indexOfChar_4cfef 25 = .ok (.iinc 5 1, 3) := by decide +kernel
theorem dJ1_indexOfChar_4cfef_28 : decode cJ1_indexOfChar_4cfef 28 = .ok (.goto (-21), 3) := by decide +kernel
theorem dJ1_indexOfChar_4cfef_31 : decode cJ1_indexOfChar_4cfef 31 = .ok (.iconst (-1), 1) := by decide +kernel
theorem dJ1_indexOfChar_4cfef_32 : decode cJ1_indexOfChar_4cfef 32 = .ok (.ireturn, 1) := by decide +kernel
def T_J1_indexOfChar_4cfef_7 (i0 : Nat) : Nat → Int32 → Int32 → Int32 → Mm → (Int32 → Mm → Prop) → Prop
  | 0, _, _, _, _, _ => False
  | n + 1, x3, x4, x5, M, K => ((x3 ≤ x5 → (K (-1 : Int32) M)) ∧ (¬ x3 ≤ x5 → (vp_in x5 (sl_.getD i0 0) ∧ ((((sb_.getD i0 []).getD (x5).toNatClampNeg 0) = x4 → (K x5 M)) ∧ (¬ ((sb_.getD i0 []).getD (x5).toNatClampNeg 0) = x4 → (∀ y4 : Int32, y4 = x5 + (1 : Int32) → (T_J1_indexOfChar_4cfef_7 i0 n x3 x4 y4 M K)))))))
set_option maxHeartbeats 4000000 in
set_option maxRecDepth 100000 in
theorem w_J1_indexOfChar_4cfef_7 {p : Program} {l : Launch} {e : Env} {s : State} {m : MethodId} {args : Array Value} {below : List Frame} {meth : Method} {c : Code} {G : fx_G} {K : Int32 → Mm → Prop} {i0 : Nat} (hi0 : i0 < 2) (X : fx_C G p s m c args cJ1_indexOfChar_4cfef 6 RJ1) (hr : meth.sig.returnType = (some .int)) (hk : meth.locks = false) : ∀ (n : Nat) (x3 : Int32) (x4 : Int32) (x5 : Int32) (M : Mm) (H : Heap) (locs : List Loc) (ls : Array Slot), T_J1_indexOfChar_4cfef_7 i0 n x3 x4 x5 M K → fx_H G SH M s H locs → lv_has ls 6 [(0, .ref (G.2.2.1.2.2 i0)), (3, .int x3), (4, .int x4), (5, .int x5)] → W p l e (fx_rm (0)) s m args below meth c H locs 0 0 (MQ below (va_Qi K (fx_R G SH) (fx_A G)) args s 0 0 (fx_A G)) (F0 m 7 ls []) := by
  obtain ⟨⟨hx, hb, hml, hown, hts⟩, hK, hQ⟩ := id X
  intro n
  induction n with
  | zero =>
    intro x3 x4 x5 M H locs ls hT
    exact hT.elim
  | succ n ih =>
    intro x3 x4 x5 M H locs ls hT h hl
    rw [T_J1_indexOfChar_4cfef_7] at hT
    refine lv_iload hx hb dJ1_indexOfChar_4cfef_7 (lv_at hl 3 rfl) ?_
    refine lv_iload_n hx hb dJ1_indexOfChar_4cfef_9 rfl (lv_at hl 1 rfl) ?_
    refine lv_icmp_ge (tgt := 31) hx hb dJ1_indexOfChar_4cfef_10 (by decide) (fun hc1 => ?_) (fun hc1 => ?_)
    · have hT := hT.1 hc1
      refine lv_iconst (v := -1) hx hb dJ1_indexOfChar_4cfef_31 (by decide) ?_
      exact fx_iret X hr hk h hT dJ1_indexOfChar_4cfef_32
    · have hT := hT.2 hc1
      refine lv_aload_n hx hb dJ1_indexOfChar_4cfef_13 rfl (lv_at hl 0 rfl) ?_
      refine lv_iload hx hb dJ1_indexOfChar_4cfef_14 (lv_at hl 3 rfl) ?_
      obtain ⟨hi2, hT⟩ := hT
      refine va_tb hx hb (hQ.2.2.1.1 i0 hi0).2.2.2 h.2 hi2 rfl dJ1_indexOfChar_4cfef_16 ?_
      refine lv_iload hx hb dJ1_indexOfChar_4cfef_17 (lv_at hl 2 rfl) ?_
      refine lv_icmp_ne (tgt := 25) hx hb dJ1_indexOfChar_4cfef_19 (by decide) (fun hc3 => ?_) (fun hc3 => ?_)
      · have hT := hT.2 hc3
        obtain ⟨y4, ey4⟩ : ∃ z : Int32, z = x5 + (1 : Int32) := ⟨_, rfl⟩
        have hT := hT y4 ey4
        refine lv_iinc (v := y4) (lv' := [(5, .int y4), (0, .ref (G.2.2.1.2.2 i0)), (3, .int x3), (4, .int x4)]) hx hb dJ1_indexOfChar_4cfef_25 hl (k := 3) rfl (by rw [ey4]; rfl) (by decide) rfl (fun ls hl => ?_)
        refine lv_goto (tgt := 7) hx hb dJ1_indexOfChar_4cfef_28 (by decide) ?_
        exact ih x3 x4 y4 M _ _ ls hT h (lv_sub hl [1, 2, 3, 0] rfl)
      · have hT := hT.1 hc3
        refine lv_iload hx hb dJ1_indexOfChar_4cfef_22 (lv_at hl 3 rfl) ?_
        exact fx_iret X hr hk h hT dJ1_indexOfChar_4cfef_24
def T_J1_indexOfChar_4cfef (i0 : Nat) (x1 : Int32) (x2 : Int32) (x3 : Int32) (M : Mm) (K : Int32 → Mm → Prop) : Prop := (∀ y5 : Int32, y5 = (x1).toInt8.toInt32 → (T_J1_indexOfChar_4cfef_7 i0 5000 x3 y5 x2 M K))
set_option maxHeartbeats 4000000 in
set_option maxRecDepth 100000 in
theorem c_J1_indexOfChar_4cfef (l : Launch) (G : fx_G) {i0 : Nat} (hi0 : i0 < 2) {x1 : Int32} {x2 : Int32} {x3 : Int32} {M : Mm} {K : Int32 → Mm → Prop} (hT : T_J1_indexOfChar_4cfef i0 x1 x2 x3 M K) : Met l yJ1_indexOfChar_4cfef (fx_ws yJ1_indexOfChar_4cfef cJ1_indexOfChar_4cfef 6 (some .int)) (fx_rm (0)) (va_Pc [.ref (G.2.2.1.2.2 i0), .int x1, .int x2, .int x3] (fx_P G SH M)) (va_Qi K (fx_R G SH) (fx_A G)) 0 0 (fx_A G) := by
  refine fx_metF (own := RJ1) (by decide +kernel) rfl (Nat.le_of_ble_eq_true rfl) (fun p e s m below meth c X hr hk h ls hl => ?_)
  obtain ⟨⟨hx, hb, hml, hown, hts⟩, hK, hQ⟩ := id X
  have hl : lv_has ls 6 [(0, .ref (G.2.2.1.2.2 i0)), (1, .int x1), (2, .int x2), (3, .int x3)] := hl
  unfold T_J1_indexOfChar_4cfef at hT
  refine lv_iload_n hx hb dJ1_indexOfChar_4cfef_0 rfl (lv_at hl 1 rfl) ?_
  refine lv_i2b hx hb dJ1_indexOfChar_4cfef_1 rfl ?_
  refine lv_topi (fun y5 ey5 => ?_)
  have hT := hT y5 ey5
  refine lv_istore (lv' := [(4, .int y5), (0, .ref (G.2.2.1.2.2 i0)), (1, .int x1), (2, .int x2), (3, .int x3)]) hx hb dJ1_indexOfChar_4cfef_2 hl (by decide) rfl (fun ls hl => ?_)
  refine lv_iload_n hx hb dJ1_indexOfChar_4cfef_4 rfl (lv_at hl 3 rfl) ?_
  refine lv_istore (lv' := [(5, .int x2), (4, .int y5), (0, .ref (G.2.2.1.2.2 i0)), (1, .int x1), (2, .int x2), (3, .int x3)]) hx hb dJ1_indexOfChar_4cfef_5 hl (by decide) rfl (fun ls hl => ?_)
  exact w_J1_indexOfChar_4cfef_7 hi0 X hr hk 5000 x3 y5 x2 M _ _ ls hT h (lv_sub hl [2, 5, 1, 0] rfl)
/-! java/lang/StringLatin1.indexOf([BIII)I -/
theorem dJ1_indexOf_4cfef_0 : decode cJ1_indexOf_4cfef 0 = .ok (.iload_n 1, 1) := by decide +kernel
theorem dJ1_indexOf_4cfef_1 : decode cJ1_indexOf_4cfef 1 = .ok (.invokestatic 88, 3) := by decide +kernel
theorem dJ1_indexOf_4cfef_4 : decode cJ1_indexOf_4cfef 4 = .ok (.ifCond .ne 5, 3) := by decide +kernel
theorem dJ1_indexOf_4cfef_7 : decode cJ1_indexOf_4cfef 7 = .ok (.iconst (-1), 1) := by decide +kernel
theorem dJ1_indexOf_4cfef_8 : decode cJ1_indexOf_4cfef 8 = .ok (.ireturn, 1) := by decide +kernel
theorem dJ1_indexOf_4cfef_9 : decode cJ1_indexOf_4cfef 9 = .ok (.iload_n 2, 1) := by decide +kernel
theorem dJ1_indexOf_4cfef_10 : decode cJ1_indexOf_4cfef 10 = .ok (.iconst 0, 1) := by decide +kernel
theorem dJ1_indexOf_4cfef_11 : decode cJ1_indexOf_4cfef 11 = .ok (.invokestatic 92, 3) := by decide +kernel
theorem dJ1_indexOf_4cfef_14 : decode cJ1_indexOf_4cfef 14 = .ok (.istore_n 2, 1) := by decide +kernel
theorem dJ1_indexOf_4cfef_15 : decode cJ1_indexOf_4cfef 15 = .ok (.iload_n 3, 1) := by decide +kernel
theorem dJ1_indexOf_4cfef_16 : decode cJ1_indexOf_4cfef 16 = .ok (.aload_n 0, 1) := by decide +kernel
theorem dJ1_indexOf_4cfef_17 : decode cJ1_indexOf_4cfef 17 = .ok (.arraylength, 1) := by decide +kernel
theorem dJ1_indexOf_4cfef_18 : decode cJ1_indexOf_4cfef 18 = .ok (.invokestatic 38, 3) := by decide +kernel
theorem dJ1_indexOf_4cfef_21 : decode cJ1_indexOf_4cfef 21 = .ok (.istore_n 3, 1) := by decide +kernel
theorem dJ1_indexOf_4cfef_22 : decode cJ1_indexOf_4cfef 22 = .ok (.iload_n 2, 1) := by decide +kernel
theorem dJ1_indexOf_4cfef_23 : decode cJ1_indexOf_4cfef 23 = .ok (.iload_n 3, 1) := by decide +kernel
theorem dJ1_indexOf_4cfef_24 : decode cJ1_indexOf_4cfef 24 = .ok (.if_icmp .lt 5, 3) := by decide +kernel
theorem dJ1_indexOf_4cfef_27 : decode cJ1_indexOf_4cfef 27 = .ok (.iconst (-1), 1) := by decide +kernel
theorem dJ1_indexOf_4cfef_28 : decode cJ1_indexOf_4cfef 28 = .ok (.ireturn, 1) := by decide +kernel
theorem dJ1_indexOf_4cfef_29 : decode cJ1_indexOf_4cfef 29 = .ok (.aload_n 0, 1) := by decide +kernel
theorem dJ1_indexOf_4cfef_30 : decode cJ1_indexOf_4cfef 30 = .ok (.iload_n 1, 1) := by decide +kernel
theorem dJ1_indexOf_4cfef_31 : decode cJ1_indexOf_4cfef 31 = .ok (.iload_n 2, 1) := by decide +kernel
theorem dJ1_indexOf_4cfef_32 : decode cJ1_indexOf_4cfef 32 = .ok (.iload_n 3, 1) := by decide +kernel
theorem dJ1_indexOf_4cfef_33 : decode cJ1_indexOf_4cfef 33 = .ok (.invokestatic 95, 3) := by decide +kernel
theorem dJ1_indexOf_4cfef_36 : decode cJ1_indexOf_4cfef 36 = .ok (.ireturn, 1) := by decide +kernel
def T_J1_indexOf_4cfef (i0 : Nat) (x1 : Int32) (x2 : Int32) (x3 : Int32) (M : Mm) (K : Int32 → Mm → Prop) : Prop := (T_J1_canEncode_9a6ad x1 M (fun r3 M2 => ((r3 = 0 → (K (-1 : Int32) M2)) ∧ (¬ r3 = 0 → (∀ y5 : Int32, y5 = (if x2 < (0 : Int32) then (0 : Int32) else x2) → (∀ y6 : Int32, y6 = (if (nI (sl_.getD i0 0)) < x3 then (nI (sl_.getD i0 0)) else x3) → ((y5 < y6 → (T_J1_indexOfChar_4cfef i0 x1 y5 y6 M2 (fun r10 M9 => (K r10 M9)))) ∧ (¬ y5 < y6 → (K (-1 : Int32) M2)))))))))
set_option maxHeartbeats 4000000 in
set_option maxRecDepth 100000 in
theorem c_J1_indexOf_4cfef (l : Launch) (G : fx_G) {i0 : Nat} (hi0 : i0 < 2) {x1 : Int32} {x2 : Int32} {x3 : Int32} {M : Mm} {K : Int32 → Mm → Prop} (hT : T_J1_indexOf_4cfef i0 x1 x2 x3 M K) : Met l yJ1_indexOf_4cfef (fx_ws yJ1_indexOf_4cfef cJ1_indexOf_4cfef 4 (some .int)) (fx_rm (1)) (va_Pc [.ref (G.2.2.1.2.2 i0), .int x1, .int x2, .int x3] (fx_P G SH M)) (va_Qi K (fx_R G SH) (fx_A G)) 0 0 (fx_A G) := by
  refine fx_metF (own := RJ1) (by decide +kernel) rfl (Nat.le_of_ble_eq_true rfl) (fun p e s m below meth c X hr hk h ls hl => ?_)
  obtain ⟨⟨hx, hb, hml, hown, hts⟩, hK, hQ⟩ := id X
  have hl : lv_has ls 4 [(0, .ref (G.2.2.1.2.2 i0)), (1, .int x1), (2, .int x2), (3, .int x3)] := hl
  unfold T_J1_indexOf_4cfef at hT
  refine lv_iload_n hx hb dJ1_indexOf_4cfef_0 rfl (lv_at hl 1 rfl) ?_
  refine fx_si X h ym_J1_canEncode_9a6ad yt_J1_canEncode_9a6ad (fx_s4 (List.mem_of_getElem? (i := 105) rfl) rfl) (c_J1_canEncode_9a6ad l G hT) (As := [.int x1]) (rest := []) rfl rfl ⟨Nat.le_of_ble_eq_true rfl, Nat.le_of_ble_eq_true rfl⟩ ⟨Nat.le_refl _, Nat.le_refl _⟩ hl.1 (Nat.le_of_ble_eq_true rfl) dJ1_indexOf_4cfef_1 (fun r3 M2 H locs hT h => ?_)
  refine lv_if_ne (tgt := 9) hx hb dJ1_indexOf_4cfef_4 (by decide) (fun hc4 => ?_) (fun hc4 => ?_)
  · have hT := hT.2 hc4
    refine lv_iload_n hx hb dJ1_indexOf_4cfef_9 rfl (lv_at hl 2 rfl) ?_
    refine lv_iconst (v := 0) hx hb dJ1_indexOf_4cfef_10 (by decide) ?_
    refine va_mmax hx hb (hml.trans hl.1.symm) hown (hts _ (fx_s4 (List.mem_of_getElem? (i := 108) rfl) rfl)) (hts _ mt_max_s) (hts _ mt_i) (hts _ mt_max_c) (Nat.le_of_ble_eq_true rfl) (Nat.le_of_ble_eq_true rfl) (Nat.le_refl _) (Nat.le_refl _) dJ1_indexOf_4cfef_11 ?_
    refine lv_topi (fun y5 ey5 => ?_)
    have hT := hT y5 ey5
    refine lv_istore_n (lv' := [(2, .int y5), (0, .ref (G.2.2.1.2.2 i0)), (1, .int x1), (3, .int x3)]) hx hb dJ1_indexOf_4cfef_14 rfl hl (by decide) rfl (fun ls hl => ?_)
    refine lv_iload_n hx hb dJ1_indexOf_4cfef_15 rfl (lv_at hl 3 rfl) ?_
    refine lv_aload_n hx hb dJ1_indexOf_4cfef_16 rfl (lv_at hl 1 rfl) ?_
    refine va_tlen hx hb (hQ.2.2.1.1 i0 hi0).2.2.2 h.2 (v := nI (sl_.getD i0 0)) rfl dJ1_indexOf_4cfef_17 ?_
    refine va_mmin hx hb (hml.trans hl.1.symm) hown (hts _ (fx_s4 (List.mem_of_getElem? (i := 109) rfl) rfl)) (hts _ mt_min_s) (hts _ mt_i) (hts _ mt_min_c) (Nat.le_of_ble_eq_true rfl) (Nat.le_of_ble_eq_true rfl) (Nat.le_refl _) (Nat.le_refl _) dJ1_indexOf_4cfef_18 ?_
    refine lv_topi (fun y6 ey6 => ?_)
    have hT := hT y6 ey6
    refine lv_istore_n (lv' := [(3, .int y6), (2, .int y5), (0, .ref (G.2.2.1.2.2 i0)), (1, .int x1)]) hx hb dJ1_indexOf_4cfef_21 rfl hl (by decide) rfl (fun ls hl => ?_)
    refine lv_iload_n hx hb dJ1_indexOf_4cfef_22 rfl (lv_at hl 1 rfl) ?_
    refine lv_iload_n hx hb dJ1_indexOf_4cfef_23 rfl (lv_at hl 0 rfl) ?_
    refine lv_icmp_lt (tgt := 29) hx hb dJ1_indexOf_4cfef_24 (by decide) (fun hc7 => ?_) (fun hc7 => ?_)
    · have hT := hT.1 hc7
      refine lv_aload_n hx hb dJ1_indexOf_4cfef_29 rfl (lv_at hl 2 rfl) ?_
      refine lv_iload_n hx hb dJ1_indexOf_4cfef_30 rfl (lv_at hl 3 rfl) ?_
      refine lv_iload_n hx hb dJ1_indexOf_4cfef_31 rfl (lv_at hl 1 rfl) ?_
      refine lv_iload_n hx hb dJ1_indexOf_4cfef_32 rfl (lv_at hl 0 rfl) ?_
      refine fx_si X h ym_J1_indexOfChar_4cfef yt_J1_indexOfChar_4cfef (fx_s4 (List.mem_of_getElem? (i := 110) rfl) rfl) (c_J1_indexOfChar_4cfef l G hi0 hT) (As := [.ref (G.2.2.1.2.2 i0), .int x1, .int y5, .int y6]) (rest := []) rfl rfl ⟨Nat.le_of_ble_eq_true rfl, Nat.le_of_ble_eq_true rfl⟩ ⟨Nat.le_refl _, Nat.le_refl _⟩ hl.1 (Nat.le_of_ble_eq_true rfl) dJ1_indexOf_4cfef_33 (fun r10 M9 H locs hT h => ?_)
      exact fx_iret X hr hk h hT dJ1_indexOf_4cfef_36
    · have hT := hT.2 hc7
      refine lv_iconst (v := -1) hx hb dJ1_indexOf_4cfef_27 (by decide) ?_
      exact fx_iret X hr hk h hT dJ1_indexOf_4cfef_28
  · have hT := hT.1 hc4
    refine lv_iconst (v := -1) hx hb dJ1_indexOf_4cfef_7 (by decide) ?_
    exact fx_iret X hr hk h hT dJ1_indexOf_4cfef_8
/-! java/lang/String.indexOf(II)I -/
theorem dJ0_indexOf_7cf53_0 : decode cJ0_indexOf_7cf53 0 = .ok (.aload_n 0, 1) := by decide +kernel
theorem dJ0_indexOf_7cf53_1 : decode cJ0_indexOf_7cf53 1 = .ok (.invokevirtual 492, 3) := by decide +kernel
theorem dJ0_indexOf_7cf53_4 : decode cJ0_indexOf_7cf53 4 = .ok (.ifCond .eq 19, 3) := by decide +kernel
theorem dJ0_indexOf_7cf53_7 : decode cJ0_indexOf_7cf53 7 = .ok (.aload_n 0, 1) := by decide +kernel
theorem dJ0_indexOf_7cf53_8 : decode cJ0_indexOf_7cf53 8 = .ok (.getfield 9, 3) := by decide +kernel
theorem dJ0_indexOf_7cf53_11 : decode cJ0_indexOf_7cf53 11 = .ok (.iload_n 1, 1) := by decide +kernel
theorem dJ0_indexOf_7cf53_12 : decode cJ0_indexOf_7cf53 12 = .ok (.iload_n 2, 1) := by decide +kernel
theorem dJ0_indexOf_7cf53_13 : decode cJ0_indexOf_7cf53 13 = .ok (.aload_n 0, 1) := by decide +kernel
theorem dJ0_indexOf_7cf53_14 : decode cJ0_indexOf_7cf53 14 = .ok (.invokevirtual 505, 3) := by decide +kernel
theorem dJ0_indexOf_7cf53_17 : decode cJ0_indexOf_7cf53 17 = .ok (.invokestatic 637, 3) := by decide +kernel
theorem dJ0_indexOf_7cf53_20 : decode cJ0_indexOf_7cf53 20 = .ok (.goto 16, 3) := by decide +kernel
theorem dJ0_indexOf_7cf53_23 : decode cJ0_indexOf_7cf53 23 = .ok (.aload_n 0, 1) := by decide +kernel
theorem dJ0_indexOf_7cf53_24 : decode cJ0_indexOf_7cf53 24 = .ok (.getfield 9, 3) := by decide +kernel
theorem dJ0_indexOf_7cf53_27 : decode cJ0_indexOf_7cf53 27 = .ok (.iload_n 1, 1) := by decide +kernel
theorem dJ0_indexOf_7cf53_28 : decode cJ0_indexOf_7cf53 28 = .ok (.iload_n 2, 1) := by decide +kernel
theorem dJ0_indexOf_7cf53_29 : decode cJ0_indexOf_7cf53 29 = .ok (.aload_n 0, 1) := by decide +kernel
theorem dJ0_indexOf_7cf53_30 : decode cJ0_indexOf_7cf53 30 = .ok (.invokevirtual 505, 3) := by decide +kernel
theorem dJ0_indexOf_7cf53_33 : decode cJ0_indexOf_7cf53 33 = .ok (.invokestatic 640, 3) := by decide +kernel
theorem dJ0_indexOf_7cf53_36 : decode cJ0_indexOf_7cf53 36 = .ok (.ireturn, 1) := by decide +kernel
def T_J0_indexOf_7cf53 (i : Nat) (x1 : Int32) (x2 : Int32) (M : Mm) (K : Int32 → Mm → Prop) : Prop := (T_J0_isLatin1_aae02 i M (fun r3 M2 => ((r3 = 0 → (T_J0_length_8abf5 i M2 (fun r7 M6 => False))) ∧ (¬ r3 = 0 → (T_J0_length_8abf5 i M2 (fun r10 M9 => (T_J1_indexOf_4cfef i x1 x2 r10 M9 (fun r13 M12 => (K r13 M12)))))))))
set_option maxHeartbeats 4000000 in
set_option maxRecDepth 100000 in
theorem c_J0_indexOf_7cf53 (l : Launch) (G : fx_G) {i : Nat} (hi : i < 2) {x1 : Int32} {x2 : Int32} {M : Mm} {K : Int32 → Mm → Prop} (hT : T_J0_indexOf_7cf53 i x1 x2 M K) : Met l yJ0_indexOf_7cf53 (fx_ws yJ0_indexOf_7cf53 cJ0_indexOf_7cf53 3 (some .int)) (fx_rm (2)) (va_Pc [.ref (G.2.2.1.2.1 i), .int x1, .int x2] (fx_P G SH M)) (va_Qi K (fx_R G SH) (fx_A G)) 0 0 (fx_A G) := by
  refine fx_metF (own := RJ0) (by decide +kernel) rfl (Nat.le_of_ble_eq_true rfl) (fun p e s m below meth c X hr hk h ls hl => ?_)
  obtain ⟨⟨hx, hb, hml, hown, hts⟩, hK, hQ⟩ := id X
  have hl : lv_has ls 3 [(0, .ref (G.2.2.1.2.1 i)), (1, .int x1), (2, .int x2)] := hl
  unfold T_J0_indexOf_7cf53 at hT
  refine lv_aload_n hx hb dJ0_indexOf_7cf53_0 rfl (lv_at hl 0 rfl) ?_
  refine fx_ti X h ym_J0_isLatin1_aae02 yi_J0_isLatin1_aae02 ys_J0_isLatin1_aae02 (fx_s4 (List.mem_of_getElem? (i := 54) rfl) rfl) (k := i) hi rfl (c_J0_isLatin1_aae02 l G hi hT) (As := []) (rest := []) rfl rfl ⟨Nat.le_of_ble_eq_true rfl, Nat.le_of_ble_eq_true rfl⟩ ⟨Nat.le_refl _, Nat.le_refl _⟩ hl.1 (Nat.le_of_ble_eq_true rfl) dJ0_indexOf_7cf53_1 (fun r3 M2 H locs hT h => ?_)
  refine lv_if_eq (tgt := 23) hx hb dJ0_indexOf_7cf53_4 (by decide) (fun hc4 => ?_) (fun hc4 => ?_)
  · have hT := hT.1 hc4
    refine lv_aload_n hx hb dJ0_indexOf_7cf53_23 rfl (lv_at hl 0 rfl) ?_
    refine vk_getf hx hb (hQ.2.2.1.1 i hi).2.2.1 h.2 hown (hts _ (fx_s9 (List.mem_of_getElem? (i := 136) rfl) rfl)) (fun _ h9 => h9) dJ0_indexOf_7cf53_24 ?_
    refine lv_iload_n hx hb dJ0_indexOf_7cf53_27 rfl (lv_at hl 1 rfl) ?_
    refine lv_iload_n hx hb dJ0_indexOf_7cf53_28 rfl (lv_at hl 2 rfl) ?_
    refine lv_aload_n hx hb dJ0_indexOf_7cf53_29 rfl (lv_at hl 0 rfl) ?_
    refine fx_ti X h ym_J0_length_8abf5 yi_J0_length_8abf5 ys_J0_length_8abf5 (fx_s4 (List.mem_of_getElem? (i := 101) rfl) rfl) (k := i) hi rfl (c_J0_length_8abf5 l G hi hT) (As := []) (rest := [.int x2, .int x1, .ref (G.2.2.1.2.2 i)]) rfl rfl ⟨Nat.le_of_ble_eq_true rfl, Nat.le_of_ble_eq_true rfl⟩ ⟨Nat.le_refl _, Nat.le_refl _⟩ hl.1 (Nat.le_of_ble_eq_true rfl) dJ0_indexOf_7cf53_30 (fun r7 M6 H locs hT h => ?_)
    exact hT.elim
  · have hT := hT.2 hc4
    refine lv_aload_n hx hb dJ0_indexOf_7cf53_7 rfl (lv_at hl 0 rfl) ?_
    refine vk_getf hx hb (hQ.2.2.1.1 i hi).2.2.1 h.2 hown (hts _ (fx_s9 (List.mem_of_getElem? (i := 136) rfl) rfl)) (fun _ h9 => h9) dJ0_indexOf_7cf53_8 ?_
    refine lv_iload_n hx hb dJ0_indexOf_7cf53_11 rfl (lv_at hl 1 rfl) ?_
    refine lv_iload_n hx hb dJ0_indexOf_7cf53_12 rfl (lv_at hl 2 rfl) ?_
    refine lv_aload_n hx hb dJ0_indexOf_7cf53_13 rfl (lv_at hl 0 rfl) ?_
    refine fx_ti X h ym_J0_length_8abf5 yi_J0_length_8abf5 ys_J0_length_8abf5 (fx_s4 (List.mem_of_getElem? (i := 101) rfl) rfl) (k := i) hi rfl (c_J0_length_8abf5 l G hi hT) (As := []) (rest := [.int x2, .int x1, .ref (G.2.2.1.2.2 i)]) rfl rfl ⟨Nat.le_of_ble_eq_true rfl, Nat.le_of_ble_eq_true rfl⟩ ⟨Nat.le_refl _, Nat.le_refl _⟩ hl.1 (Nat.le_of_ble_eq_true rfl) dJ0_indexOf_7cf53_14 (fun r10 M9 H locs hT h => ?_)
    refine fx_si X h ym_J1_indexOf_4cfef yt_J1_indexOf_4cfef (fx_s4 (List.mem_of_getElem? (i := 102) rfl) rfl) (c_J1_indexOf_4cfef l G hi hT) (As := [.ref (G.2.2.1.2.2 i), .int x1, .int x2, .int r10]) (rest := []) rfl rfl ⟨Nat.le_of_ble_eq_true rfl, Nat.le_of_ble_eq_true rfl⟩ ⟨Nat.le_refl _, Nat.le_refl _⟩ hl.1 (Nat.le_of_ble_eq_true rfl) dJ0_indexOf_7cf53_17 (fun r13 M12 H locs hT h => ?_)
    refine lv_goto (tgt := 36) hx hb dJ0_indexOf_7cf53_20 (by decide) ?_
    exact fx_iret X hr hk h hT dJ0_indexOf_7cf53_36
/-! java/lang/String.indexOf(I)I -/
theorem dJ0_indexOf_0f7a4_0 : decode cJ0_indexOf_0f7a4 0 = .ok (.aload_n 0, 1) := by decide +kernel
theorem dJ0_indexOf_0f7a4_1 : decode cJ0_indexOf_0f7a4 1 = .ok (.iload_n 1, 1) := by decide +kernel
theorem dJ0_indexOf_0f7a4_2 : decode cJ0_indexOf_0f7a4 2 = .ok (.iconst 0, 1) := by decide +kernel
theorem dJ0_indexOf_0f7a4_3 : decode cJ0_indexOf_0f7a4 3 = .ok (.invokevirtual 633, 3) := by decide +kernel
theorem dJ0_indexOf_0f7a4_6 : decode cJ0_indexOf_0f7a4 6 = .ok (.ireturn, 1) := by decide +kernel
def T_J0_indexOf_0f7a4 (i : Nat) (x1 : Int32) (M : Mm) (K : Int32 → Mm → Prop) : Prop := (T_J0_indexOf_7cf53 i x1 (0 : Int32) M (fun r3 M2 => (K r3 M2)))
set_option maxHeartbeats 4000000 in
set_option maxRecDepth 100000 in
theorem c_J0_indexOf_0f7a4 (l : Launch) (G : fx_G) {i : Nat} (hi : i < 2) {x1 : Int32} {M : Mm} {K : Int32 → Mm → Prop} (hT : T_J0_indexOf_0f7a4 i x1 M K) : Met l yJ0_indexOf_0f7a4 (fx_ws yJ0_indexOf_0f7a4 cJ0_indexOf_0f7a4 2 (some .int)) (fx_rm (3)) (va_Pc [.ref (G.2.2.1.2.1 i), .int x1] (fx_P G SH M)) (va_Qi K (fx_R G SH) (fx_A G)) 0 0 (fx_A G) := by
  refine fx_metF (own := RJ0) (by decide +kernel) rfl (Nat.le_of_ble_eq_true rfl) (fun p e s m below meth c X hr hk h ls hl => ?_)
  obtain ⟨⟨hx, hb, hml, hown, hts⟩, hK, hQ⟩ := id X
  have hl : lv_has ls 2 [(0, .ref (G.2.2.1.2.1 i)), (1, .int x1)] := hl
  unfold T_J0_indexOf_0f7a4 at hT
  refine lv_aload_n hx hb dJ0_indexOf_0f7a4_0 rfl (lv_at hl 0 rfl) ?_
  refine lv_iload_n hx hb dJ0_indexOf_0f7a4_1 rfl (lv_at hl 1 rfl) ?_
  refine lv_iconst (v := 0) hx hb dJ0_indexOf_0f7a4_2 (by decide) ?_
  refine fx_ti X h ym_J0_indexOf_7cf53 yi_J0_indexOf_7cf53 ys_J0_indexOf_7cf53 (fx_s4 (List.mem_of_getElem? (i := 97) rfl) rfl) (k := i) hi rfl (c_J0_indexOf_7cf53 l G hi hT) (As := [.int x1, .int (0 : Int32)]) (rest := []) rfl rfl ⟨Nat.le_of_ble_eq_true rfl, Nat.le_of_ble_eq_true rfl⟩ ⟨Nat.le_refl _, Nat.le_refl _⟩ hl.1 (Nat.le_of_ble_eq_true rfl) dJ0_indexOf_0f7a4_3 (fun r3 M2 H locs hT h => ?_)
  exact fx_iret X hr hk h hT dJ0_indexOf_0f7a4_6
