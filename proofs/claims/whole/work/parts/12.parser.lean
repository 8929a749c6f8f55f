/-! MockParcels$Parser.beginsLine(II)Z -/
theorem dX3_beginsLine_0 : decode cX3_beginsLine 0 = .ok (.iload_n 1, 1) := by decide +kernel
theorem dX3_beginsLine_1 : decode cX3_beginsLine 1 = .ok (.ifCond .ne 23, 3) := by decide +kernel
theorem dX3_beginsLine_4 : decode cX3_beginsLine 4 = .ok (.aload_n 0, 1) := by decide +kernel
theorem dX3_beginsLine_5 : decode cX3_beginsLine 5 = .ok (.getfield 32, 3) := by decide +kernel
theorem dX3_beginsLine_8 : decode cX3_beginsLine 8 = .ok (.getfield 44, 3) := by decide +kernel
theorem dX3_beginsLine_11 : decode cX3_beginsLine 11 = .ok (.sipush 256, 3) := by decide +kernel
theorem dX3_beginsLine_14 : decode cX3_beginsLine 14 = .ok (.sipush 258, 3) := by decide +kernel
theorem dX3_beginsLine_17 : decode cX3_beginsLine 17 = .ok (.invokestatic 66, 3) := by decide +kernel
theorem dX3_beginsLine_20 : decode cX3_beginsLine 20 = .ok (.istore_n 3, 1) := by decide +kernel
theorem dX3_beginsLine_21 : decode cX3_beginsLine 21 = .ok (.goto 33, 3) := by decide +kernel
theorem dX3_beginsLine_24 : decode cX3_beginsLine 24 = .ok (.aload_n 0, 1) := by decide +kernel
theorem dX3_beginsLine_25 : decode cX3_beginsLine 25 = .ok (.getfield 32, 3) := by decide +kernel
theorem dX3_beginsLine_28 : decode cX3_beginsLine 28 = .ok (.getfield 44, 3) := by decide +kernel
theorem dX3_beginsLine_31 : decode cX3_beginsLine 31 = .ok (.iload_n 1, 1) := by decide +kernel
theorem dX3_beginsLine_32 : decode cX3_beginsLine 32 = .ok (.iconst 2, 1) := by decide +kernel
theorem dX3_beginsLine_33 : decode cX3_beginsLine 33 = .ok (.if_icmp .ne 9, 3) := by decide +kernel
theorem dX3_beginsLine_36 : decode cX3_beginsLine 36 = .ok (.sipush 277, 3) := by decide +kernel
theorem dX3_beginsLine_39 : decode cX3_beginsLine 39 = .ok (.goto 6, 3) := by decide +kernel
theorem dX3_beginsLine_42 : decode cX3_beginsLine 42 = .ok (.sipush 275, 3) := by decide +kernel
theorem dX3_beginsLine_45 : decode cX3_beginsLine 45 = .ok (.if_icmp .ne 7, 3) := by decide +kernel
theorem dX3_beginsLine_48 : decode cX3_beginsLine 48 = .ok (.iconst 1, 1) := by decide +kernel
theorem dX3_beginsLine_49 : decode cX3_beginsLine 49 = .ok (.goto 4, 3) := by decide +kernel
theorem dX3_beginsLine_52 : decode cX3_beginsLine 52 = .ok (.iconst 0, 1) := by decide +kernel
theorem dX3_beginsLine_53 : decode cX3_beginsLine 53 = .ok (.istore_n 3, 1) := by decide +kernel
theorem dX3_beginsLine_54 : decode cX3_beginsLine 54 = .ok (.iload_n 3, 1) := by decide +kernel
theorem dX3_beginsLine_55 : decode cX3_beginsLine 55 = .ok (.ifCond .ne 12, 3) := by decide +kernel
theorem dX3_beginsLine_58 : decode cX3_beginsLine 58 = .ok (.aload_n 0, 1) := by decide +kernel
theorem dX3_beginsLine_59 : decode cX3_beginsLine 59 = .ok (.getfield 32, 3) := by decide +kernel
theorem dX3_beginsLine_62 : decode cX3_beginsLine 62 = .ok (.iconst 1, 1) := by decide +kernel
theorem dX3_beginsLine_63 : decode cX3_beginsLine 63 = .ok (.invokevirtual 70, 3) := by decide +kernel
theorem dX3_beginsLine_66 : decode cX3_beginsLine 66 = .ok (.ireturn, 1) := by decide +kernel
theorem dX3_beginsLine_67 : decode cX3_beginsLine 67 = .ok (.iload_n 2, 1) := by decide +kernel
theorem dX3_beginsLine_68 : decode cX3_beginsLine 68 = .ok (.bipush 16, 2) := by decide +kernel
theorem dX3_beginsLine_70 : decode cX3_beginsLine 70 = .ok (.if_icmp .lt 14, 3) := by decide +kernel
theorem dX3_beginsLine_73 : decode cX3_beginsLine 73 = .ok (.aload_n 0, 1) := by decide +kernel
theorem dX3_beginsLine_74 : decode cX3_beginsLine 74 = .ok (.getfield 32, 3) := by decide +kernel
theorem dX3_beginsLine_77 : decode cX3_beginsLine 77 = .ok (.iconst 3, 1) := by decide +kernel
theorem dX3_beginsLine_78 : decode cX3_beginsLine 78 = .ok (.invokevirtual 70, 3) := by decide +kernel
theorem dX3_beginsLine_81 : decode cX3_beginsLine 81 = .ok (.ifCond .eq 7, 3) := by decide +kernel
theorem dX3_beginsLine_84 : decode cX3_beginsLine 84 = .ok (.iconst 1, 1) := by decide +kernel
theorem dX3_beginsLine_85 : decode cX3_beginsLine 85 = .ok (.goto 4, 3) := by decide +kernel
theorem dX3_beginsLine_88 : decode cX3_beginsLine 88 = .ok (.iconst 0, 1) := by decide +kernel
theorem dX3_beginsLine_89 : decode cX3_beginsLine 89 = .ok (.ireturn, 1) := by decide +kernel
def T_X3_beginsLine_84 (M : Mm) (K : Int32 → Mm → Prop) : Prop := (K (1 : Int32) M)
set_option maxHeartbeats 4000000 in
set_option maxRecDepth 100000 in
theorem w_X3_beginsLine_84 {p : Program} {l : Launch} {e : Env} {s : State} {m : MethodId} {args : Array Value} {below : List Frame} {meth : Method} {c : Code} {G : fx_G} {K : Int32 → Mm → Prop} (X : fx_C G p s m c args cX3_beginsLine 4 RX3) (hr : meth.sig.returnType = (some .boolean)) (hk : meth.locks = false) : ∀ (M : Mm) (H : Heap) (locs : List Loc) (ls : Array Slot), T_X3_beginsLine_84  M K → fx_H G SH M s H locs → lv_has ls 4 [] → W p l e (fx_rm (1)) s m args below meth c H locs 0 0 (MQ below (va_Qi K (fx_R G SH) (fx_A G)) args s 0 0 (fx_A G)) (F0 m 84 ls []) := by
  obtain ⟨⟨hx, hb, hml, hown, hts⟩, hK, hQ⟩ := id X
  intro  M H locs ls hT h hl
  unfold T_X3_beginsLine_84 at hT
  refine lv_iconst (v := 1) hx hb dX3_beginsLine_84 (by decide) ?_
  refine lv_goto (tgt := 89) hx hb dX3_beginsLine_85 (by decide) ?_
  exact fx_zret X hr hk h (Or.inr rfl) hT dX3_beginsLine_89
def T_X3_beginsLine_54 (x2 : Int32) (x3 : Int32) (M : Mm) (K : Int32 → Mm → Prop) : Prop := ((x3 = 0 → (T_X7_refuse (1 : Int32) M (fun r9 M8 => ((r9 = 0 ∨ r9 = 1) ∧ K r9 M8)))) ∧ (¬ x3 = 0 → ((x2 < (16 : Int32) → (T_X3_beginsLine_84 M K)) ∧ (¬ x2 < (16 : Int32) → (T_X7_refuse (3 : Int32) M (fun r5 M4 => ((r5 = 0 → (K (0 : Int32) M4)) ∧ (¬ r5 = 0 → (T_X3_beginsLine_84 M4 K)))))))))
set_option maxHeartbeats 4000000 in
set_option maxRecDepth 100000 in
theorem w_X3_beginsLine_54 {p : Program} {l : Launch} {e : Env} {s : State} {m : MethodId} {args : Array Value} {below : List Frame} {meth : Method} {c : Code} {G : fx_G} {K : Int32 → Mm → Prop} (X : fx_C G p s m c args cX3_beginsLine 4 RX3) (hr : meth.sig.returnType = (some .boolean)) (hk : meth.locks = false) : ∀ (x2 : Int32) (x3 : Int32) (M : Mm) (H : Heap) (locs : List Loc) (ls : Array Slot), T_X3_beginsLine_54 x2 x3 M K → fx_H G SH M s H locs → lv_has ls 4 [(0, .ref (G.2.2.2 + 136)), (2, .int x2), (3, .int x3)] → W p l e (fx_rm (1)) s m args below meth c H locs 0 0 (MQ below (va_Qi K (fx_R G SH) (fx_A G)) args s 0 0 (fx_A G)) (F0 m 54 ls []) := by
  obtain ⟨⟨hx, hb, hml, hown, hts⟩, hK, hQ⟩ := id X
  intro x2 x3 M H locs ls hT h hl
  unfold T_X3_beginsLine_54 at hT
  refine lv_iload_n hx hb dX3_beginsLine_54 rfl (lv_at hl 2 rfl) ?_
  refine lv_if_ne (tgt := 67) hx hb dX3_beginsLine_55 (by decide) (fun hc1 => ?_) (fun hc1 => ?_)
  · have hT := hT.2 hc1
    refine lv_iload_n hx hb dX3_beginsLine_67 rfl (lv_at hl 1 rfl) ?_
    refine lv_bipush (v := 16) hx hb dX3_beginsLine_68 (by decide) ?_
    refine lv_icmp_lt (tgt := 84) hx hb dX3_beginsLine_70 (by decide) (fun hc2 => ?_) (fun hc2 => ?_)
    · have hT := hT.1 hc2
      exact w_X3_beginsLine_84 X hr hk M _ _ ls hT h (lv_sub hl [] rfl)
    · have hT := hT.2 hc2
      refine lv_aload_n hx hb dX3_beginsLine_73 rfl (lv_at hl 0 rfl) ?_
      refine fx_getR X h (k := 136) (j := 2) (r := 132) sh_136 rfl fl_RX3_32 dX3_beginsLine_74 ?_
      refine lv_iconst (v := 3) hx hb dX3_beginsLine_77 (by decide) ?_
      refine fx_vi X h ym_X7_refuse yi_X7_refuse ys_X7_refuse (fx_s4 (List.mem_of_getElem? (i := 169) rfl) rfl) sh_132 rfl (c_X7_refuse l G hT) (As := [.int (3 : Int32)]) (rest := []) rfl rfl ⟨Nat.le_of_ble_eq_true rfl, Nat.le_of_ble_eq_true rfl⟩ ⟨Nat.le_refl _, Nat.le_refl _⟩ hl.1 (Nat.le_of_ble_eq_true rfl) dX3_beginsLine_78 (fun r5 M4 H locs hT h => ?_)
      refine lv_if_eq (tgt := 88) hx hb dX3_beginsLine_81 (by decide) (fun hc6 => ?_) (fun hc6 => ?_)
      · have hT := hT.1 hc6
        refine lv_iconst (v := 0) hx hb dX3_beginsLine_88 (by decide) ?_
        exact fx_zret X hr hk h (Or.inl rfl) hT dX3_beginsLine_89
      · have hT := hT.2 hc6
        exact w_X3_beginsLine_84 X hr hk M4 _ _ ls hT h (lv_sub hl [] rfl)
  · have hT := hT.1 hc1
    refine lv_aload_n hx hb dX3_beginsLine_58 rfl (lv_at hl 0 rfl) ?_
    refine fx_getR X h (k := 136) (j := 2) (r := 132) sh_136 rfl fl_RX3_32 dX3_beginsLine_59 ?_
    refine lv_iconst (v := 1) hx hb dX3_beginsLine_62 (by decide) ?_
    refine fx_vi X h ym_X7_refuse yi_X7_refuse ys_X7_refuse (fx_s4 (List.mem_of_getElem? (i := 169) rfl) rfl) sh_132 rfl (c_X7_refuse l G hT) (As := [.int (1 : Int32)]) (rest := []) rfl rfl ⟨Nat.le_of_ble_eq_true rfl, Nat.le_of_ble_eq_true rfl⟩ ⟨Nat.le_refl _, Nat.le_refl _⟩ hl.1 (Nat.le_of_ble_eq_true rfl) dX3_beginsLine_63 (fun r9 M8 H locs hT h => ?_)
    exact fx_zret X hr hk h hT.1 hT.2 dX3_beginsLine_66
def T_X3_beginsLine_53 (x2 : Int32) (s0 : Int32) (M : Mm) (K : Int32 → Mm → Prop) : Prop := (T_X3_beginsLine_54 x2 s0 M K)
set_option maxHeartbeats 4000000 in
set_option maxRecDepth 100000 in
theorem w_X3_beginsLine_53 {p : Program} {l : Launch} {e : Env} {s : State} {m : MethodId} {args : Array Value} {below : List Frame} {meth : Method} {c : Code} {G : fx_G} {K : Int32 → Mm → Prop} (X : fx_C G p s m c args cX3_beginsLine 4 RX3) (hr : meth.sig.returnType = (some .boolean)) (hk : meth.locks = false) : ∀ (x2 : Int32) (s0 : Int32) (M : Mm) (H : Heap) (locs : List Loc) (ls : Array Slot), T_X3_beginsLine_53 x2 s0 M K → fx_H G SH M s H locs → lv_has ls 4 [(0, .ref (G.2.2.2 + 136)), (2, .int x2)] → W p l e (fx_rm (1)) s m args below meth c H locs 0 0 (MQ below (va_Qi K (fx_R G SH) (fx_A G)) args s 0 0 (fx_A G)) (F0 m 53 ls [.int s0]) := by
  obtain ⟨⟨hx, hb, hml, hown, hts⟩, hK, hQ⟩ := id X
  intro x2 s0 M H locs ls hT h hl
  unfold T_X3_beginsLine_53 at hT
  refine lv_istore_n (lv' := [(3, .int s0), (0, .ref (G.2.2.2 + 136)), (2, .int x2)]) hx hb dX3_beginsLine_53 rfl hl (by decide) rfl (fun ls hl => ?_)
  exact w_X3_beginsLine_54 X hr hk x2 s0 M _ _ ls hT h (lv_sub hl [1, 2, 0] rfl)
def T_X3_beginsLine_45 (x2 : Int32) (s0 : Int32) (s1 : Int32) (M : Mm) (K : Int32 → Mm → Prop) : Prop := ((s0 = s1 → (T_X3_beginsLine_53 x2 (1 : Int32) M K)) ∧ (¬ s0 = s1 → (T_X3_beginsLine_53 x2 (0 : Int32) M K)))
set_option maxHeartbeats 4000000 in
set_option maxRecDepth 100000 in
theorem w_X3_beginsLine_45 {p : Program} {l : Launch} {e : Env} {s : State} {m : MethodId} {args : Array Value} {below : List Frame} {meth : Method} {c : Code} {G : fx_G} {K : Int32 → Mm → Prop} (X : fx_C G p s m c args cX3_beginsLine 4 RX3) (hr : meth.sig.returnType = (some .boolean)) (hk : meth.locks = false) : ∀ (x2 : Int32) (s0 : Int32) (s1 : Int32) (M : Mm) (H : Heap) (locs : List Loc) (ls : Array Slot), T_X3_beginsLine_45 x2 s0 s1 M K → fx_H G SH M s H locs → lv_has ls 4 [(0, .ref (G.2.2.2 + 136)), (2, .int x2)] → W p l e (fx_rm (1)) s m args below meth c H locs 0 0 (MQ below (va_Qi K (fx_R G SH) (fx_A G)) args s 0 0 (fx_A G)) (F0 m 45 ls [.int s1, .int s0]) := by
  obtain ⟨⟨hx, hb, hml, hown, hts⟩, hK, hQ⟩ := id X
  intro x2 s0 s1 M H locs ls hT h hl
  unfold T_X3_beginsLine_45 at hT
  refine lv_icmp_ne (tgt := 52) hx hb dX3_beginsLine_45 (by decide) (fun hc10 => ?_) (fun hc10 => ?_)
  · have hT := hT.2 hc10
    refine lv_iconst (v := 0) hx hb dX3_beginsLine_52 (by decide) ?_
    exact w_X3_beginsLine_53 X hr hk x2 (0 : Int32) M _ _ ls hT h (lv_sub hl [0, 1] rfl)
  · have hT := hT.1 hc10
    refine lv_iconst (v := 1) hx hb dX3_beginsLine_48 (by decide) ?_
    refine lv_goto (tgt := 53) hx hb dX3_beginsLine_49 (by decide) ?_
    exact w_X3_beginsLine_53 X hr hk x2 (1 : Int32) M _ _ ls hT h (lv_sub hl [0, 1] rfl)
def T_X3_beginsLine (x1 : Int32) (x2 : Int32) (M : Mm) (K : Int32 → Mm → Prop) : Prop := ((x1 = 0 → (T_X11_isWithin (M 132 6) (256 : Int32) (258 : Int32) M (fun r15 M14 => (T_X3_beginsLine_54 x2 r15 M14 K)))) ∧ (¬ x1 = 0 → ((x1 = (2 : Int32) → (T_X3_beginsLine_45 x2 (M 132 6) (277 : Int32) M K)) ∧ (¬ x1 = (2 : Int32) → (T_X3_beginsLine_45 x2 (M 132 6) (275 : Int32) M K)))))
set_option maxHeartbeats 4000000 in
set_option maxRecDepth 100000 in
theorem c_X3_beginsLine (l : Launch) (G : fx_G) {x1 : Int32} {x2 : Int32} {M : Mm} {K : Int32 → Mm → Prop} (hT : T_X3_beginsLine x1 x2 M K) : Met l yX3_beginsLine (fx_ws yX3_beginsLine cX3_beginsLine 4 (some .boolean)) (fx_rm (1)) (va_Pc [.ref (G.2.2.2 + 136), .int x1, .int x2] (fx_P G SH M)) (va_Qi K (fx_R G SH) (fx_A G)) 0 0 (fx_A G) := by
  refine fx_met (own := RX3) (by decide +kernel) rfl (Nat.le_of_ble_eq_true rfl) (fun p e s m below meth c X hr hk h ls hl => ?_)
  obtain ⟨⟨hx, hb, hml, hown, hts⟩, hK, hQ⟩ := id X
  have hl : lv_has ls 4 [(0, .ref (G.2.2.2 + 136)), (1, .int x1), (2, .int x2)] := hl
  unfold T_X3_beginsLine at hT
  refine lv_iload_n hx hb dX3_beginsLine_0 rfl (lv_at hl 1 rfl) ?_
  refine lv_if_ne (tgt := 24) hx hb dX3_beginsLine_1 (by decide) (fun hc11 => ?_) (fun hc11 => ?_)
  · have hT := hT.2 hc11
    refine lv_aload_n hx hb dX3_beginsLine_24 rfl (lv_at hl 0 rfl) ?_
    refine fx_getR X h (k := 136) (j := 2) (r := 132) sh_136 rfl fl_RX3_32 dX3_beginsLine_25 ?_
    refine fx_getI X h (k := 132) (j := 6) sh_132 rfl fl_RX3_44 dX3_beginsLine_28 ?_
    refine lv_iload_n hx hb dX3_beginsLine_31 rfl (lv_at hl 1 rfl) ?_
    refine lv_iconst (v := 2) hx hb dX3_beginsLine_32 (by decide) ?_
    refine lv_icmp_ne (tgt := 42) hx hb dX3_beginsLine_33 (by decide) (fun hc12 => ?_) (fun hc12 => ?_)
    · have hT := hT.2 hc12
      refine lv_sipush (v := 275) hx hb dX3_beginsLine_42 (by decide) ?_
      exact w_X3_beginsLine_45 X hr hk x2 (M 132 6) (275 : Int32) M _ _ ls hT h (lv_sub hl [0, 2] rfl)
    · have hT := hT.1 hc12
      refine lv_sipush (v := 277) hx hb dX3_beginsLine_36 (by decide) ?_
      refine lv_goto (tgt := 45) hx hb dX3_beginsLine_39 (by decide) ?_
      exact w_X3_beginsLine_45 X hr hk x2 (M 132 6) (277 : Int32) M _ _ ls hT h (lv_sub hl [0, 2] rfl)
  · have hT := hT.1 hc11
    refine lv_aload_n hx hb dX3_beginsLine_4 rfl (lv_at hl 0 rfl) ?_
    refine fx_getR X h (k := 136) (j := 2) (r := 132) sh_136 rfl fl_RX3_32 dX3_beginsLine_5 ?_
    refine fx_getI X h (k := 132) (j := 6) sh_132 rfl fl_RX3_44 dX3_beginsLine_8 ?_
    refine lv_sipush (v := 256) hx hb dX3_beginsLine_11 (by decide) ?_
    refine lv_sipush (v := 258) hx hb dX3_beginsLine_14 (by decide) ?_
    refine fx_ni X h ym_X11_isWithin yt_X11_isWithin (nq_RX3_66) (c_X11_isWithin l G hT) (As := [.int (M 132 6), .int (256 : Int32), .int (258 : Int32)]) (rest := []) rfl rfl ⟨Nat.le_of_ble_eq_true rfl, Nat.le_of_ble_eq_true rfl⟩ ⟨Nat.le_refl _, Nat.le_refl _⟩ hl.1 (Nat.le_of_ble_eq_true rfl) dX3_beginsLine_17 (fun r15 M14 H locs hT h => ?_)
    refine lv_istore_n (lv' := [(3, .int r15), (0, .ref (G.2.2.2 + 136)), (1, .int x1), (2, .int x2)]) hx hb dX3_beginsLine_20 rfl hl (by decide) rfl (fun ls hl => ?_)
    refine lv_goto (tgt := 54) hx hb dX3_beginsLine_21 (by decide) ?_
    exact w_X3_beginsLine_54 X hr hk x2 r15 M14 _ _ ls hT h (lv_sub hl [1, 3, 0] rfl)
/-! MockParcels$Parser.takeNumber(II)I -/
theorem dX3_takeNumber_0 : decode cX3_takeNumber 0 = .ok (.aload_n 0, 1) := by decide +kernel
theorem dX3_takeNumber_1 : decode cX3_takeNumber 1 = .ok (.getfield 32, 3) := by decide +kernel
theorem dX3_takeNumber_4 : decode cX3_takeNumber 4 = .ok (.iload_n 1, 1) := by decide +kernel
theorem dX3_takeNumber_5 : decode cX3_takeNumber 5 = .ok (.iload_n 2, 1) := by decide +kernel
theorem dX3_takeNumber_6 : decode cX3_takeNumber 6 = .ok (.invokevirtual 74, 3) := by decide +kernel
theorem dX3_takeNumber_9 : decode cX3_takeNumber 9 = .ok (.ifCond .ne 5, 3) := by decide +kernel
theorem dX3_takeNumber_12 : decode cX3_takeNumber 12 = .ok (.iconst (-1), 1) := by decide +kernel
theorem dX3_takeNumber_13 : decode cX3_takeNumber 13 = .ok (.ireturn, 1) := by decide +kernel
theorem dX3_takeNumber_14 : decode cX3_takeNumber 14 = .ok (.aload_n 0, 1) := by decide +kernel
theorem dX3_takeNumber_15 : decode cX3_takeNumber 15 = .ok (.getfield 32, 3) := by decide +kernel
theorem dX3_takeNumber_18 : decode cX3_takeNumber 18 = .ok (.getfield 44, 3) := by decide +kernel
theorem dX3_takeNumber_21 : decode cX3_takeNumber 21 = .ok (.sipush 1000, 3) := by decide +kernel
theorem dX3_takeNumber_24 : decode cX3_takeNumber 24 = .ok (.isub, 1) := by decide +kernel
theorem dX3_takeNumber_25 : decode cX3_takeNumber 25 = .ok (.istore_n 3, 1) := by decide +kernel
theorem dX3_takeNumber_26 : decode cX3_takeNumber 26 = .ok (.aload_n 0, 1) := by decide +kernel
theorem dX3_takeNumber_27 : decode cX3_takeNumber 27 = .ok (.getfield 32, 3) := by decide +kernel
theorem dX3_takeNumber_30 : decode cX3_takeNumber 30 = .ok (.invokevirtual 77, 3) := by decide +kernel
theorem dX3_takeNumber_33 : decode cX3_takeNumber 33 = .ok (.iload_n 3, 1) := by decide +kernel
theorem dX3_takeNumber_34 : decode cX3_takeNumber 34 = .ok (.ireturn, 1) := by decide +kernel
def T_X3_takeNumber (x1 : Int32) (x2 : Int32) (M : Mm) (K : Int32 → Mm → Prop) : Prop := (T_X7_isNumber x1 x2 M (fun r3 M2 => ((r3 = 0 → (K (-1 : Int32) M2)) ∧ (¬ r3 = 0 → (∀ y5 : Int32, y5 = ((M2 132 6) - (1000 : Int32)) → (T_X7_step M2 (fun M7 => (K y5 M7))))))))
set_option maxHeartbeats 4000000 in
set_option maxRecDepth 100000 in
theorem c_X3_takeNumber (l : Launch) (G : fx_G) {x1 : Int32} {x2 : Int32} {M : Mm} {K : Int32 → Mm → Prop} (hT : T_X3_takeNumber x1 x2 M K) : Met l yX3_takeNumber (fx_ws yX3_takeNumber cX3_takeNumber 4 (some .int)) (fx_rm (2)) (va_Pc [.ref (G.2.2.2 + 136), .int x1, .int x2] (fx_P G SH M)) (va_Qi K (fx_R G SH) (fx_A G)) 0 0 (fx_A G) := by
  refine fx_met (own := RX3) (by decide +kernel) rfl (Nat.le_of_ble_eq_true rfl) (fun p e s m below meth c X hr hk h ls hl => ?_)
  obtain ⟨⟨hx, hb, hml, hown, hts⟩, hK, hQ⟩ := id X
  have hl : lv_has ls 4 [(0, .ref (G.2.2.2 + 136)), (1, .int x1), (2, .int x2)] := hl
  unfold T_X3_takeNumber at hT
  refine lv_aload_n hx hb dX3_takeNumber_0 rfl (lv_at hl 0 rfl) ?_
  refine fx_getR X h (k := 136) (j := 2) (r := 132) sh_136 rfl fl_RX3_32 dX3_takeNumber_1 ?_
  refine lv_iload_n hx hb dX3_takeNumber_4 rfl (lv_at hl 1 rfl) ?_
  refine lv_iload_n hx hb dX3_takeNumber_5 rfl (lv_at hl 2 rfl) ?_
  refine fx_vi X h ym_X7_isNumber yi_X7_isNumber ys_X7_isNumber (fx_s4 (List.mem_of_getElem? (i := 219) rfl) rfl) sh_132 rfl (c_X7_isNumber l G hT) (As := [.int x1, .int x2]) (rest := []) rfl rfl ⟨Nat.le_of_ble_eq_true rfl, Nat.le_of_ble_eq_true rfl⟩ ⟨Nat.le_refl _, Nat.le_refl _⟩ hl.1 (Nat.le_of_ble_eq_true rfl) dX3_takeNumber_6 (fun r3 M2 H locs hT h => ?_)
  refine lv_if_ne (tgt := 14) hx hb dX3_takeNumber_9 (by decide) (fun hc4 => ?_) (fun hc4 => ?_)
  · have hT := hT.2 hc4
    refine lv_aload_n hx hb dX3_takeNumber_14 rfl (lv_at hl 0 rfl) ?_
    refine fx_getR X h (k := 136) (j := 2) (r := 132) sh_136 rfl fl_RX3_32 dX3_takeNumber_15 ?_
    refine fx_getI X h (k := 132) (j := 6) sh_132 rfl fl_RX3_44 dX3_takeNumber_18 ?_
    refine lv_sipush (v := 1000) hx hb dX3_takeNumber_21 (by decide) ?_
    refine lv_isub hx hb dX3_takeNumber_24 ?_
    refine lv_topi (fun y5 ey5 => ?_)
    have hT := hT y5 ey5
    refine lv_istore_n (lv' := [(3, .int y5), (0, .ref (G.2.2.2 + 136)), (1, .int x1), (2, .int x2)]) hx hb dX3_takeNumber_25 rfl hl (by decide) rfl (fun ls hl => ?_)
    refine lv_aload_n hx hb dX3_takeNumber_26 rfl (lv_at hl 1 rfl) ?_
    refine fx_getR X h (k := 136) (j := 2) (r := 132) sh_136 rfl fl_RX3_32 dX3_takeNumber_27 ?_
    refine fx_vv X h ym_X7_step yi_X7_step ys_X7_step (fx_s4 (List.mem_of_getElem? (i := 177) rfl) rfl) sh_132 rfl (c_X7_step l G hT) (As := []) (rest := []) rfl rfl ⟨Nat.le_of_ble_eq_true rfl, Nat.le_of_ble_eq_true rfl⟩ ⟨Nat.le_refl _, Nat.le_refl _⟩ hl.1 (Nat.le_of_ble_eq_true rfl) dX3_takeNumber_30 (fun M7 H locs hT h => ?_)
    refine lv_iload_n hx hb dX3_takeNumber_33 rfl (lv_at hl 0 rfl) ?_
    exact fx_iret X hr hk h hT dX3_takeNumber_34
  · have hT := hT.1 hc4
    refine lv_iconst (v := -1) hx hb dX3_takeNumber_12 (by decide) ?_
    exact fx_iret X hr hk h hT dX3_takeNumber_13
/-! MockParcels$Parser.parseFollows()Z -/
theorem dX3_parseFollows_0 : decode cX3_parseFollows 0 = .ok (.aload_n 0, 1) := by decide +kernel
theorem dX3_parseFollows_1 : decode cX3_parseFollows 1 = .ok (.getfield 32, 3) := by decide +kernel
theorem dX3_parseFollows_4 : decode cX3_parseFollows 4 = .ok (.invokevirtual 77, 3) := by decide +kernel
theorem dX3_parseFollows_7 : decode cX3_parseFollows 7 = .ok (.aload_n 0, 1) := by decide +kernel
theorem dX3_parseFollows_8 : decode cX3_parseFollows 8 = .ok (.iconst 0, 1) := by decide +kernel
theorem dX3_parseFollows_9 : decode cX3_parseFollows 9 = .ok (.aload_n 0, 1) := by decide +kernel
theorem dX3_parseFollows_10 : decode cX3_parseFollows 10 = .ok (.getfield 29, 3) := by decide +kernel
theorem dX3_parseFollows_13 : decode cX3_parseFollows 13 = .ok (.iconst 1, 1) := by decide +kernel
theorem dX3_parseFollows_14 : decode cX3_parseFollows 14 = .ok (.isub, 1) := by decide +kernel
theorem dX3_parseFollows_15 : decode cX3_parseFollows 15 = .ok (.invokevirtual 80, 3) := by decide +kernel
theorem dX3_parseFollows_18 : decode cX3_parseFollows 18 = .ok (.istore_n 1, 1) := by decide +kernel
theorem dX3_parseFollows_19 : decode cX3_parseFollows 19 = .ok (.iload_n 1, 1) := by decide +kernel
theorem dX3_parseFollows_20 : decode cX3_parseFollows 20 = .ok (.iconst (-1), 1) := by decide +kernel
theorem dX3_parseFollows_21 : decode cX3_parseFollows 21 = .ok (.if_icmp .eq 33, 3) := by decide +kernel
theorem dX3_parseFollows_24 : decode cX3_parseFollows 24 = .ok (.aload_n 0, 1) := by decide +kernel
theorem dX3_parseFollows_25 : decode cX3_parseFollows 25 = .ok (.getfield 32, 3) := by decide +kernel
theorem dX3_parseFollows_28 : decode cX3_parseFollows 28 = .ok (.sipush 276, 3) := by decide +kernel
theorem dX3_parseFollows_31 : decode cX3_parseFollows 31 = .ok (.invokevirtual 84, 3) := by decide +kernel
theorem dX3_parseFollows_34 : decode cX3_parseFollows 34 = .ok (.ifCond .eq 20, 3) := by decide +kernel
theorem dX3_parseFollows_37 : decode cX3_parseFollows 37 = .ok (.aload_n 0, 1) := by decide +kernel
theorem dX3_parseFollows_38 : decode cX3_parseFollows 38 = .ok (.getfield 32, 3) := by decide +kernel
theorem dX3_parseFollows_41 : decode cX3_parseFollows 41 = .ok (.iconst 0, 1) := by decide +kernel
theorem dX3_parseFollows_42 : decode cX3_parseFollows 42 = .ok (.aload_n 0, 1) := by decide +kernel
theorem dX3_parseFollows_43 : decode cX3_parseFollows 43 = .ok (.getfield 29, 3) := by decide +kernel
theorem dX3_parseFollows_46 : decode cX3_parseFollows 46 = .ok (.iconst 1, 1) := by decide +kernel
theorem dX3_parseFollows_47 : decode cX3_parseFollows 47 = .ok (.isub, 1) := by decide +kernel
theorem dX3_parseFollows_48 : decode cX3_parseFollows 48 = .ok (.invokevirtual 74, 3) := by decide +kernel
theorem dX3_parseFollows_51 : decode cX3_parseFollows 51 = .ok (.ifCond .ne 5, 3) := by decide +kernel
theorem dX3_parseFollows_54 : decode cX3_parseFollows 54 = .ok (.iconst 0, 1) := by decide +kernel
theorem dX3_parseFollows_55 : decode cX3_parseFollows 55 = .ok (.ireturn, 1) := by decide +kernel
theorem dX3_parseFollows_56 : decode cX3_parseFollows 56 = .ok (.aload_n 0, 1) := by decide +kernel
theorem dX3_parseFollows_57 : decode cX3_parseFollows 57 = .ok (.getfield 32, 3) := by decide +kernel
theorem dX3_parseFollows_60 : decode cX3_parseFollows 60 = .ok (.getfield 44, 3) := by decide +kernel
theorem dX3_parseFollows_63 : decode cX3_parseFollows 63 = .ok (.sipush 1000, 3) := by decide +kernel
theorem dX3_parseFollows_66 : decode cX3_parseFollows 66 = .ok (.isub, 1) := by decide +kernel
theorem dX3_parseFollows_67 : decode cX3_parseFollows 67 = .ok (.istore_n 2, 1) := by decide +kernel
theorem dX3_parseFollows_68 : decode cX3_parseFollows 68 = .ok (.iload_n 1, 1) := by decide +kernel
theorem dX3_parseFollows_69 : decode cX3_parseFollows 69 = .ok (.iload_n 2, 1) := by decide +kernel
theorem dX3_parseFollows_70 : decode cX3_parseFollows 70 = .ok (.if_icmp .ne 12, 3) := by decide +kernel
theorem dX3_parseFollows_73 : decode cX3_parseFollows 73 = .ok (.aload_n 0, 1) := by decide +kernel
theorem dX3_parseFollows_74 : decode cX3_parseFollows 74 = .ok (.getfield 32, 3) := by decide +kernel
theorem dX3_parseFollows_77 : decode cX3_parseFollows 77 = .ok (.iconst 2, 1) := by decide +kernel
theorem dX3_parseFollows_78 : decode cX3_parseFollows 78 = .ok (.invokevirtual 70, 3) := by decide +kernel
theorem dX3_parseFollows_81 : decode cX3_parseFollows 81 = .ok (.ireturn, 1) := by decide +kernel
theorem dX3_parseFollows_82 : decode cX3_parseFollows 82 = .ok (.aload_n 0, 1) := by decide +kernel
theorem dX3_parseFollows_83 : decode cX3_parseFollows 83 = .ok (.getfield 32, 3) := by decide +kernel
theorem dX3_parseFollows_86 : decode cX3_parseFollows 86 = .ok (.invokevirtual 77, 3) := by decide +kernel
theorem dX3_parseFollows_89 : decode cX3_parseFollows 89 = .ok (.aload_n 0, 1) := by decide +kernel
theorem dX3_parseFollows_90 : decode cX3_parseFollows 90 = .ok (.getfield 32, 3) := by decide +kernel
theorem dX3_parseFollows_93 : decode cX3_parseFollows 93 = .ok (.bipush 59, 2) := by decide +kernel
theorem dX3_parseFollows_95 : decode cX3_parseFollows 95 = .ok (.invokevirtual 84, 3) := by decide +kernel
theorem dX3_parseFollows_98 : decode cX3_parseFollows 98 = .ok (.ifCond .ne 5, 3) := by decide +kernel
theorem dX3_parseFollows_101 : decode cX3_parseFollows 101 = .ok (.iconst 0, 1) := by decide +kernel
theorem dX3_parseFollows_102 : decode cX3_parseFollows 102 = .ok (.ireturn, 1) := by decide +kernel
theorem dX3_parseFollows_103 : decode cX3_parseFollows 103 = .ok (.aload_n 0, 1) := by decide +kernel
theorem dX3_parseFollows_104 : decode cX3_parseFollows 104 = .ok (.getfield 21, 3) := by decide +kernel
theorem dX3_parseFollows_107 : decode cX3_parseFollows 107 = .ok (.iload_n 1, 1) := by decide +kernel
theorem dX3_parseFollows_108 : decode cX3_parseFollows 108 = .ok (.iload_n 2, 1) := by decide +kernel
theorem dX3_parseFollows_109 : decode cX3_parseFollows 109 = .ok (.invokevirtual 87, 3) := by decide +kernel
theorem dX3_parseFollows_112 : decode cX3_parseFollows 112 = .ok (.iconst 1, 1) := by decide +kernel
theorem dX3_parseFollows_113 : decode cX3_parseFollows 113 = .ok (.ireturn, 1) := by decide +kernel
def T_X3_parseFollows (M : Mm) (K : Int32 → Mm → Prop) : Prop := (T_X7_step M (fun M2 => (T_X3_takeNumber (0 : Int32) ((M2 136 4) - (1 : Int32)) M2 (fun r5 M4 => ((r5 = (-1 : Int32) → (K (0 : Int32) M4)) ∧ (¬ r5 = (-1 : Int32) → (T_X7_take (276 : Int32) M4 (fun r9 M8 => ((r9 = 0 → (K (0 : Int32) M8)) ∧ (¬ r9 = 0 → (T_X7_isNumber (0 : Int32) ((M8 136 4) - (1 : Int32)) M8 (fun r13 M12 => ((r13 = 0 → (K (0 : Int32) M12)) ∧ (¬ r13 = 0 → (∀ y15 : Int32, y15 = ((M12 132 6) - (1000 : Int32)) → ((r5 = y15 → (T_X7_refuse (2 : Int32) M12 (fun r27 M26 => ((r27 = 0 ∨ r27 = 1) ∧ K r27 M26)))) ∧ (¬ r5 = y15 → (T_X7_step M12 (fun M18 => (T_X7_take (59 : Int32) M18 (fun r21 M20 => ((r21 = 0 → (K (0 : Int32) M20)) ∧ (¬ r21 = 0 → (T_X5_addFollows 144 r5 y15 M20 (fun M24 => (K (1 : Int32) M24))))))))))))))))))))))))))
set_option maxHeartbeats 4000000 in
set_option maxRecDepth 100000 in
theorem c_X3_parseFollows (l : Launch) (G : fx_G) {M : Mm} {K : Int32 → Mm → Prop} (hT : T_X3_parseFollows M K) : Met l yX3_parseFollows (fx_ws yX3_parseFollows cX3_parseFollows 3 (some .boolean)) (fx_rm (3)) (va_Pc [.ref (G.2.2.2 + 136)] (fx_P G SH M)) (va_Qi K (fx_R G SH) (fx_A G)) 0 0 (fx_A G) := by
  refine fx_met (own := RX3) (by decide +kernel) rfl (Nat.le_of_ble_eq_true rfl) (fun p e s m below meth c X hr hk h ls hl => ?_)
  obtain ⟨⟨hx, hb, hml, hown, hts⟩, hK, hQ⟩ := id X
  have hl : lv_has ls 3 [(0, .ref (G.2.2.2 + 136))] := hl
  unfold T_X3_parseFollows at hT
  refine lv_aload_n hx hb dX3_parseFollows_0 rfl (lv_at hl 0 rfl) ?_
  refine fx_getR X h (k := 136) (j := 2) (r := 132) sh_136 rfl fl_RX3_32 dX3_parseFollows_1 ?_
  refine fx_vv X h ym_X7_step yi_X7_step ys_X7_step (fx_s4 (List.mem_of_getElem? (i := 177) rfl) rfl) sh_132 rfl (c_X7_step l G hT) (As := []) (rest := []) rfl rfl ⟨Nat.le_of_ble_eq_true rfl, Nat.le_of_ble_eq_true rfl⟩ ⟨Nat.le_refl _, Nat.le_refl _⟩ hl.1 (Nat.le_of_ble_eq_true rfl) dX3_parseFollows_4 (fun M2 H locs hT h => ?_)
  refine lv_aload_n hx hb dX3_parseFollows_7 rfl (lv_at hl 0 rfl) ?_
  refine lv_iconst (v := 0) hx hb dX3_parseFollows_8 (by decide) ?_
  refine lv_aload_n hx hb dX3_parseFollows_9 rfl (lv_at hl 0 rfl) ?_
  refine fx_getI X h (k := 136) (j := 4) sh_136 rfl fl_RX3_29 dX3_parseFollows_10 ?_
  refine lv_iconst (v := 1) hx hb dX3_parseFollows_13 (by decide) ?_
  refine lv_isub hx hb dX3_parseFollows_14 ?_
  refine fx_vi X h ym_X3_takeNumber yi_X3_takeNumber ys_X3_takeNumber (fx_s4 (List.mem_of_getElem? (i := 215) rfl) rfl) sh_136 rfl (c_X3_takeNumber l G hT) (As := [.int (0 : Int32), .int ((M2 136 4) - (1 : Int32))]) (rest := []) rfl rfl ⟨Nat.le_of_ble_eq_true rfl, Nat.le_of_ble_eq_true rfl⟩ ⟨Nat.le_refl _, Nat.le_refl _⟩ hl.1 (Nat.le_of_ble_eq_true rfl) dX3_parseFollows_15 (fun r5 M4 H locs hT h => ?_)
  refine lv_istore_n (lv' := [(1, .int r5), (0, .ref (G.2.2.2 + 136))]) hx hb dX3_parseFollows_18 rfl hl (by decide) rfl (fun ls hl => ?_)
  refine lv_iload_n hx hb dX3_parseFollows_19 rfl (lv_at hl 0 rfl) ?_
  refine lv_iconst (v := -1) hx hb dX3_parseFollows_20 (by decide) ?_
  refine lv_icmp_eq (tgt := 54) hx hb dX3_parseFollows_21 (by decide) (fun hc6 => ?_) (fun hc6 => ?_)
  · have hT := hT.1 hc6
    refine lv_iconst (v := 0) hx hb dX3_parseFollows_54 (by decide) ?_
    exact fx_zret X hr hk h (Or.inl rfl) hT dX3_parseFollows_55
  · have hT := hT.2 hc6
    refine lv_aload_n hx hb dX3_parseFollows_24 rfl (lv_at hl 1 rfl) ?_
    refine fx_getR X h (k := 136) (j := 2) (r := 132) sh_136 rfl fl_RX3_32 dX3_parseFollows_25 ?_
    refine lv_sipush (v := 276) hx hb dX3_parseFollows_28 (by decide) ?_
    refine fx_vi X h ym_X7_take yi_X7_take ys_X7_take (fx_s4 (List.mem_of_getElem? (i := 201) rfl) rfl) sh_132 rfl (c_X7_take l G hT) (As := [.int (276 : Int32)]) (rest := []) rfl rfl ⟨Nat.le_of_ble_eq_true rfl, Nat.le_of_ble_eq_true rfl⟩ ⟨Nat.le_refl _, Nat.le_refl _⟩ hl.1 (Nat.le_of_ble_eq_true rfl) dX3_parseFollows_31 (fun r9 M8 H locs hT h => ?_)
    refine lv_if_eq (tgt := 54) hx hb dX3_parseFollows_34 (by decide) (fun hc10 => ?_) (fun hc10 => ?_)
    · have hT := hT.1 hc10
      refine lv_iconst (v := 0) hx hb dX3_parseFollows_54 (by decide) ?_
      exact fx_zret X hr hk h (Or.inl rfl) hT dX3_parseFollows_55
    · have hT := hT.2 hc10
      refine lv_aload_n hx hb dX3_parseFollows_37 rfl (lv_at hl 1 rfl) ?_
      refine fx_getR X h (k := 136) (j := 2) (r := 132) sh_136 rfl fl_RX3_32 dX3_parseFollows_38 ?_
      refine lv_iconst (v := 0) hx hb dX3_parseFollows_41 (by decide) ?_
      refine lv_aload_n hx hb dX3_parseFollows_42 rfl (lv_at hl 1 rfl) ?_
      refine fx_getI X h (k := 136) (j := 4) sh_136 rfl fl_RX3_29 dX3_parseFollows_43 ?_
      refine lv_iconst (v := 1) hx hb dX3_parseFollows_46 (by decide) ?_
      refine lv_isub hx hb dX3_parseFollows_47 ?_
      refine fx_vi X h ym_X7_isNumber yi_X7_isNumber ys_X7_isNumber (fx_s4 (List.mem_of_getElem? (i := 219) rfl) rfl) sh_132 rfl (c_X7_isNumber l G hT) (As := [.int (0 : Int32), .int ((M8 136 4) - (1 : Int32))]) (rest := []) rfl rfl ⟨Nat.le_of_ble_eq_true rfl, Nat.le_of_ble_eq_true rfl⟩ ⟨Nat.le_refl _, Nat.le_refl _⟩ hl.1 (Nat.le_of_ble_eq_true rfl) dX3_parseFollows_48 (fun r13 M12 H locs hT h => ?_)
      refine lv_if_ne (tgt := 56) hx hb dX3_parseFollows_51 (by decide) (fun hc14 => ?_) (fun hc14 => ?_)
      · have hT := hT.2 hc14
        refine lv_aload_n hx hb dX3_parseFollows_56 rfl (lv_at hl 1 rfl) ?_
        refine fx_getR X h (k := 136) (j := 2) (r := 132) sh_136 rfl fl_RX3_32 dX3_parseFollows_57 ?_
        refine fx_getI X h (k := 132) (j := 6) sh_132 rfl fl_RX3_44 dX3_parseFollows_60 ?_
        refine lv_sipush (v := 1000) hx hb dX3_parseFollows_63 (by decide) ?_
        refine lv_isub hx hb dX3_parseFollows_66 ?_
        refine lv_topi (fun y15 ey15 => ?_)
        have hT := hT y15 ey15
        refine lv_istore_n (lv' := [(2, .int y15), (1, .int r5), (0, .ref (G.2.2.2 + 136))]) hx hb dX3_parseFollows_67 rfl hl (by decide) rfl (fun ls hl => ?_)
        refine lv_iload_n hx hb dX3_parseFollows_68 rfl (lv_at hl 1 rfl) ?_
        refine lv_iload_n hx hb dX3_parseFollows_69 rfl (lv_at hl 0 rfl) ?_
        refine lv_icmp_ne (tgt := 82) hx hb dX3_parseFollows_70 (by decide) (fun hc16 => ?_) (fun hc16 => ?_)
        · have hT := hT.2 hc16
          refine lv_aload_n hx hb dX3_parseFollows_82 rfl (lv_at hl 2 rfl) ?_
          refine fx_getR X h (k := 136) (j := 2) (r := 132) sh_136 rfl fl_RX3_32 dX3_parseFollows_83 ?_
          refine fx_vv X h ym_X7_step yi_X7_step ys_X7_step (fx_s4 (List.mem_of_getElem? (i := 177) rfl) rfl) sh_132 rfl (c_X7_step l G hT) (As := []) (rest := []) rfl rfl ⟨Nat.le_of_ble_eq_true rfl, Nat.le_of_ble_eq_true rfl⟩ ⟨Nat.le_refl _, Nat.le_refl _⟩ hl.1 (Nat.le_of_ble_eq_true rfl) dX3_parseFollows_86 (fun M18 H locs hT h => ?_)
          refine lv_aload_n hx hb dX3_parseFollows_89 rfl (lv_at hl 2 rfl) ?_
          refine fx_getR X h (k := 136) (j := 2) (r := 132) sh_136 rfl fl_RX3_32 dX3_parseFollows_90 ?_
          refine lv_bipush (v := 59) hx hb dX3_parseFollows_93 (by decide) ?_
          refine fx_vi X h ym_X7_take yi_X7_take ys_X7_take (fx_s4 (List.mem_of_getElem? (i := 201) rfl) rfl) sh_132 rfl (c_X7_take l G hT) (As := [.int (59 : Int32)]) (rest := []) rfl rfl ⟨Nat.le_of_ble_eq_true rfl, Nat.le_of_ble_eq_true rfl⟩ ⟨Nat.le_refl _, Nat.le_refl _⟩ hl.1 (Nat.le_of_ble_eq_true rfl) dX3_parseFollows_95 (fun r21 M20 H locs hT h => ?_)
          refine lv_if_ne (tgt := 103) hx hb dX3_parseFollows_98 (by decide) (fun hc22 => ?_) (fun hc22 => ?_)
          · have hT := hT.2 hc22
            refine lv_aload_n hx hb dX3_parseFollows_103 rfl (lv_at hl 2 rfl) ?_
            refine fx_getR X h (k := 136) (j := 1) (r := 144) sh_136 rfl fl_RX3_21 dX3_parseFollows_104 ?_
            refine lv_iload_n hx hb dX3_parseFollows_107 rfl (lv_at hl 1 rfl) ?_
            refine lv_iload_n hx hb dX3_parseFollows_108 rfl (lv_at hl 0 rfl) ?_
            refine fx_vv X h ym_X5_addFollows yi_X5_addFollows ys_X5_addFollows (fx_s4 (List.mem_of_getElem? (i := 224) rfl) rfl) sh_144 rfl (c_X5_addFollows l G (by decide) hT) (As := [.int r5, .int y15]) (rest := []) rfl rfl ⟨Nat.le_of_ble_eq_true rfl, Nat.le_of_ble_eq_true rfl⟩ ⟨Nat.le_refl _, Nat.le_refl _⟩ hl.1 (Nat.le_of_ble_eq_true rfl) dX3_parseFollows_109 (fun M24 H locs hT h => ?_)
            refine lv_iconst (v := 1) hx hb dX3_parseFollows_112 (by decide) ?_
            exact fx_zret X hr hk h (Or.inr rfl) hT dX3_parseFollows_113
          · have hT := hT.1 hc22
            refine lv_iconst (v := 0) hx hb dX3_parseFollows_101 (by decide) ?_
            exact fx_zret X hr hk h (Or.inl rfl) hT dX3_parseFollows_102
        · have hT := hT.1 hc16
          refine lv_aload_n hx hb dX3_parseFollows_73 rfl (lv_at hl 2 rfl) ?_
          refine fx_getR X h (k := 136) (j := 2) (r := 132) sh_136 rfl fl_RX3_32 dX3_parseFollows_74 ?_
          refine lv_iconst (v := 2) hx hb dX3_parseFollows_77 (by decide) ?_
          refine fx_vi X h ym_X7_refuse yi_X7_refuse ys_X7_refuse (fx_s4 (List.mem_of_getElem? (i := 169) rfl) rfl) sh_132 rfl (c_X7_refuse l G hT) (As := [.int (2 : Int32)]) (rest := []) rfl rfl ⟨Nat.le_of_ble_eq_true rfl, Nat.le_of_ble_eq_true rfl⟩ ⟨Nat.le_refl _, Nat.le_refl _⟩ hl.1 (Nat.le_of_ble_eq_true rfl) dX3_parseFollows_78 (fun r27 M26 H locs hT h => ?_)
          exact fx_zret X hr hk h hT.1 hT.2 dX3_parseFollows_81
      · have hT := hT.1 hc14
        refine lv_iconst (v := 0) hx hb dX3_parseFollows_54 (by decide) ?_
        exact fx_zret X hr hk h (Or.inl rfl) hT dX3_parseFollows_55
/-! MockParcels$Parser.parseWants()Z -/
theorem dX3_parseWants_0 : decode cX3_parseWants 0 = .ok (.aload_n 0, 1) := by decide +kernel
theorem dX3_parseWants_1 : decode cX3_parseWants 1 = .ok (.getfield 32, 3) := by decide +kernel
theorem dX3_parseWants_4 : decode cX3_parseWants 4 = .ok (.invokevirtual 77, 3) := by decide +kernel
theorem dX3_parseWants_7 : decode cX3_parseWants 7 = .ok (.aload_n 0, 1) := by decide +kernel
theorem dX3_parseWants_8 : decode cX3_parseWants 8 = .ok (.iconst 0, 1) := by decide +kernel
theorem dX3_parseWants_9 : decode cX3_parseWants 9 = .ok (.aload_n 0, 1) := by decide +kernel
theorem dX3_parseWants_10 : decode cX3_parseWants 10 = .ok (.getfield 29, 3) := by decide +kernel
theorem dX3_parseWants_13 : decode cX3_parseWants 13 = .ok (.iconst 1, 1) := by decide +kernel
theorem dX3_parseWants_14 : decode cX3_parseWants 14 = .ok (.isub, 1) := by decide +kernel
theorem dX3_parseWants_15 : decode cX3_parseWants 15 = .ok (.invokevirtual 80, 3) := by decide +kernel
theorem dX3_parseWants_18 : decode cX3_parseWants 18 = .ok (.istore_n 1, 1) := by decide +kernel
theorem dX3_parseWants_19 : decode cX3_parseWants 19 = .ok (.iload_n 1, 1) := by decide +kernel
theorem dX3_parseWants_20 : decode cX3_parseWants 20 = .ok (.iconst (-1), 1) := by decide +kernel
theorem dX3_parseWants_21 : decode cX3_parseWants 21 = .ok (.if_icmp .eq 16, 3) := by decide +kernel
theorem dX3_parseWants_24 : decode cX3_parseWants 24 = .ok (.aload_n 0, 1) := by decide +kernel
theorem dX3_parseWants_25 : decode cX3_parseWants 25 = .ok (.getfield 32, 3) := by decide +kernel
theorem dX3_parseWants_28 : decode cX3_parseWants 28 = .ok (.sipush 282, 3) := by decide +kernel
theorem dX3_parseWants_31 : decode cX3_parseWants 31 = .ok (.invokevirtual 84, 3) := by decide +kernel
theorem dX3_parseWants_34 : decode cX3_parseWants 34 = .ok (.ifCond .ne 5, 3) := by decide +kernel
theorem dX3_parseWants_37 : decode cX3_parseWants 37 = .ok (.iconst 0, 1) := by decide +kernel
theorem dX3_parseWants_38 : decode cX3_parseWants 38 = .ok (.ireturn, 1) := by decide +kernel
theorem dX3_parseWants_39 : decode cX3_parseWants 39 = .ok (.aload_n 0, 1) := by decide +kernel
theorem dX3_parseWants_40 : decode cX3_parseWants 40 = .ok (.iconst 1, 1) := by decide +kernel
theorem dX3_parseWants_41 : decode cX3_parseWants 41 = .ok (.bipush 7, 2) := by decide +kernel
theorem dX3_parseWants_43 : decode cX3_parseWants 43 = .ok (.invokevirtual 80, 3) := by decide +kernel
theorem dX3_parseWants_46 : decode cX3_parseWants 46 = .ok (.istore_n 2, 1) := by decide +kernel
theorem dX3_parseWants_47 : decode cX3_parseWants 47 = .ok (.iload_n 2, 1) := by decide +kernel
theorem dX3_parseWants_48 : decode cX3_parseWants 48 = .ok (.iconst (-1), 1) := by decide +kernel
theorem dX3_parseWants_49 : decode cX3_parseWants 49 = .ok (.if_icmp .eq 16, 3) := by decide +kernel
theorem dX3_parseWants_52 : decode cX3_parseWants 52 = .ok (.aload_n 0, 1) := by decide +kernel
theorem dX3_parseWants_53 : decode cX3_parseWants 53 = .ok (.getfield 32, 3) := by decide +kernel
theorem dX3_parseWants_56 : decode cX3_parseWants 56 = .ok (.sipush 283, 3) := by decide +kernel
theorem dX3_parseWants_59 : decode cX3_parseWants 59 = .ok (.invokevirtual 84, 3) := by decide +kernel
theorem dX3_parseWants_62 : decode cX3_parseWants 62 = .ok (.ifCond .ne 5, 3) := by decide +kernel
theorem dX3_parseWants_65 : decode cX3_parseWants 65 = .ok (.iconst 0, 1) := by decide +kernel
theorem dX3_parseWants_66 : decode cX3_parseWants 66 = .ok (.ireturn, 1) := by decide +kernel
theorem dX3_parseWants_67 : decode cX3_parseWants 67 = .ok (.aload_n 0, 1) := by decide +kernel
theorem dX3_parseWants_68 : decode cX3_parseWants 68 = .ok (.iconst 0, 1) := by decide +kernel
theorem dX3_parseWants_69 : decode cX3_parseWants 69 = .ok (.bipush 99, 2) := by decide +kernel
theorem dX3_parseWants_71 : decode cX3_parseWants 71 = .ok (.invokevirtual 80, 3) := by decide +kernel
theorem dX3_parseWants_74 : decode cX3_parseWants 74 = .ok (.istore_n 3, 1) := by decide +kernel
theorem dX3_parseWants_75 : decode cX3_parseWants 75 = .ok (.iload_n 3, 1) := by decide +kernel
theorem dX3_parseWants_76 : decode cX3_parseWants 76 = .ok (.iconst (-1), 1) := by decide +kernel
theorem dX3_parseWants_77 : decode cX3_parseWants 77 = .ok (.if_icmp .eq 15, 3) := by decide +kernel
theorem dX3_parseWants_80 : decode cX3_parseWants 80 = .ok (.aload_n 0, 1) := by decide +kernel
theorem dX3_parseWants_81 : decode cX3_parseWants 81 = .ok (.getfield 32, 3) := by decide +kernel
theorem dX3_parseWants_84 : decode cX3_parseWants 84 = .ok (.bipush 59, 2) := by decide +kernel
theorem dX3_parseWants_86 : decode cX3_parseWants 86 = .ok (.invokevirtual 84, 3) := by decide +kernel
theorem dX3_parseWants_89 : decode cX3_parseWants 89 = .ok (.ifCond .ne 5, 3) := by decide +kernel
theorem dX3_parseWants_92 : decode cX3_parseWants 92 = .ok (.iconst 0, 1) := by decide +kernel
theorem dX3_parseWants_93 : decode cX3_parseWants 93 = .ok (.ireturn, 1) := by decide +kernel
theorem dX3_parseWants_94 : decode cX3_parseWants 94 = .ok (.aload_n 0, 1) := by decide +kernel
theorem dX3_parseWants_95 : decode cX3_parseWants 95 = .ok (.getfield 21, 3) := by decide +kernel
theorem dX3_parseWants_98 : decode cX3_parseWants 98 = .ok (.iload_n 1, 1) := by decide +kernel
theorem dX3_parseWants_99 : decode cX3_parseWants 99 = .ok (.iload_n 2, 1) := by decide +kernel
theorem dX3_parseWants_100 : decode cX3_parseWants 100 = .ok (.iload_n 3, 1) := by decide +kernel
theorem dX3_parseWants_101 : decode cX3_parseWants 101 = .ok (.invokevirtual 91, 3) := by decide +kernel
theorem dX3_parseWants_104 : decode cX3_parseWants 104 = .ok (.iconst 1, 1) := by decide +kernel
theorem dX3_parseWants_105 : decode cX3_parseWants 105 = .ok (.ireturn, 1) := by decide +kernel
def T_X3_parseWants (M : Mm) (K : Int32 → Mm → Prop) : Prop := (T_X7_step M (fun M2 => (T_X3_takeNumber (0 : Int32) ((M2 136 4) - (1 : Int32)) M2 (fun r5 M4 => ((r5 = (-1 : Int32) → (K (0 : Int32) M4)) ∧ (¬ r5 = (-1 : Int32) → (T_X7_take (282 : Int32) M4 (fun r9 M8 => ((r9 = 0 → (K (0 : Int32) M8)) ∧ (¬ r9 = 0 → (T_X3_takeNumber (1 : Int32) (7 : Int32) M8 (fun r13 M12 => ((r13 = (-1 : Int32) → (K (0 : Int32) M12)) ∧ (¬ r13 = (-1 : Int32) → (T_X7_take (283 : Int32) M12 (fun r17 M16 => ((r17 = 0 → (K (0 : Int32) M16)) ∧ (¬ r17 = 0 → (T_X3_takeNumber (0 : Int32) (99 : Int32) M16 (fun r21 M20 => ((r21 = (-1 : Int32) → (K (0 : Int32) M20)) ∧ (¬ r21 = (-1 : Int32) → (T_X7_take (59 : Int32) M20 (fun r25 M24 => ((r25 = 0 → (K (0 : Int32) M24)) ∧ (¬ r25 = 0 → (T_X5_addWants 144 r5 r13 r21 M24 (fun M28 => (K (1 : Int32) M28)))))))))))))))))))))))))))))
set_option maxHeartbeats 4000000 in
set_option maxRecDepth 100000 in
theorem c_X3_parseWants (l : Launch) (G : fx_G) {M : Mm} {K : Int32 → Mm → Prop} (hT : T_X3_parseWants M K) : Met l yX3_parseWants (fx_ws yX3_parseWants cX3_parseWants 4 (some .boolean)) (fx_rm (3)) (va_Pc [.ref (G.2.2.2 + 136)] (fx_P G SH M)) (va_Qi K (fx_R G SH) (fx_A G)) 0 0 (fx_A G) := by
  refine fx_met (own := RX3) (by decide +kernel) rfl (Nat.le_of_ble_eq_true rfl) (fun p e s m below meth c X hr hk h ls hl => ?_)
  obtain ⟨⟨hx, hb, hml, hown, hts⟩, hK, hQ⟩ := id X
  have hl : lv_has ls 4 [(0, .ref (G.2.2.2 + 136))] := hl
  unfold T_X3_parseWants at hT
  refine lv_aload_n hx hb dX3_parseWants_0 rfl (lv_at hl 0 rfl) ?_
  refine fx_getR X h (k := 136) (j := 2) (r := 132) sh_136 rfl fl_RX3_32 dX3_parseWants_1 ?_
  refine fx_vv X h ym_X7_step yi_X7_step ys_X7_step (fx_s4 (List.mem_of_getElem? (i := 177) rfl) rfl) sh_132 rfl (c_X7_step l G hT) (As := []) (rest := []) rfl rfl ⟨Nat.le_of_ble_eq_true rfl, Nat.le_of_ble_eq_true rfl⟩ ⟨Nat.le_refl _, Nat.le_refl _⟩ hl.1 (Nat.le_of_ble_eq_true rfl) dX3_parseWants_4 (fun M2 H locs hT h => ?_)
  refine lv_aload_n hx hb dX3_parseWants_7 rfl (lv_at hl 0 rfl) ?_
  refine lv_iconst (v := 0) hx hb dX3_parseWants_8 (by decide) ?_
  refine lv_aload_n hx hb dX3_parseWants_9 rfl (lv_at hl 0 rfl) ?_
  refine fx_getI X h (k := 136) (j := 4) sh_136 rfl fl_RX3_29 dX3_parseWants_10 ?_
  refine lv_iconst (v := 1) hx hb dX3_parseWants_13 (by decide) ?_
  refine lv_isub hx hb dX3_parseWants_14 ?_
  refine fx_vi X h ym_X3_takeNumber yi_X3_takeNumber ys_X3_takeNumber (fx_s4 (List.mem_of_getElem? (i := 215) rfl) rfl) sh_136 rfl (c_X3_takeNumber l G hT) (As := [.int (0 : Int32), .int ((M2 136 4) - (1 : Int32))]) (rest := []) rfl rfl ⟨Nat.le_of_ble_eq_true rfl, Nat.le_of_ble_eq_true rfl⟩ ⟨Nat.le_refl _, Nat.le_refl _⟩ hl.1 (Nat.le_of_ble_eq_true rfl) dX3_parseWants_15 (fun r5 M4 H locs hT h => ?_)
  refine lv_istore_n (lv' := [(1, .int r5), (0, .ref (G.2.2.2 + 136))]) hx hb dX3_parseWants_18 rfl hl (by decide) rfl (fun ls hl => ?_)
  refine lv_iload_n hx hb dX3_parseWants_19 rfl (lv_at hl 0 rfl) ?_
  refine lv_iconst (v := -1) hx hb dX3_parseWants_20 (by decide) ?_
  refine lv_icmp_eq (tgt := 37) hx hb dX3_parseWants_21 (by decide) (fun hc6 => ?_) (fun hc6 => ?_)
  · have hT := hT.1 hc6
    refine lv_iconst (v := 0) hx hb dX3_parseWants_37 (by decide) ?_
    exact fx_zret X hr hk h (Or.inl rfl) hT dX3_parseWants_38
  · have hT := hT.2 hc6
    refine lv_aload_n hx hb dX3_parseWants_24 rfl (lv_at hl 1 rfl) ?_
    refine fx_getR X h (k := 136) (j := 2) (r := 132) sh_136 rfl fl_RX3_32 dX3_parseWants_25 ?_
    refine lv_sipush (v := 282) hx hb dX3_parseWants_28 (by decide) ?_
    refine fx_vi X h ym_X7_take yi_X7_take ys_X7_take (fx_s4 (List.mem_of_getElem? (i := 201) rfl) rfl) sh_132 rfl (c_X7_take l G hT) (As := [.int (282 : Int32)]) (rest := []) rfl rfl ⟨Nat.le_of_ble_eq_true rfl, Nat.le_of_ble_eq_true rfl⟩ ⟨Nat.le_refl _, Nat.le_refl _⟩ hl.1 (Nat.le_of_ble_eq_true rfl) dX3_parseWants_31 (fun r9 M8 H locs hT h => ?_)
    refine lv_if_ne (tgt := 39) hx hb dX3_parseWants_34 (by decide) (fun hc10 => ?_) (fun hc10 => ?_)
    · have hT := hT.2 hc10
      refine lv_aload_n hx hb dX3_parseWants_39 rfl (lv_at hl 1 rfl) ?_
      refine lv_iconst (v := 1) hx hb dX3_parseWants_40 (by decide) ?_
      refine lv_bipush (v := 7) hx hb dX3_parseWants_41 (by decide) ?_
      refine fx_vi X h ym_X3_takeNumber yi_X3_takeNumber ys_X3_takeNumber (fx_s4 (List.mem_of_getElem? (i := 215) rfl) rfl) sh_136 rfl (c_X3_takeNumber l G hT) (As := [.int (1 : Int32), .int (7 : Int32)]) (rest := []) rfl rfl ⟨Nat.le_of_ble_eq_true rfl, Nat.le_of_ble_eq_true rfl⟩ ⟨Nat.le_refl _, Nat.le_refl _⟩ hl.1 (Nat.le_of_ble_eq_true rfl) dX3_parseWants_43 (fun r13 M12 H locs hT h => ?_)
      refine lv_istore_n (lv' := [(2, .int r13), (1, .int r5), (0, .ref (G.2.2.2 + 136))]) hx hb dX3_parseWants_46 rfl hl (by decide) rfl (fun ls hl => ?_)
      refine lv_iload_n hx hb dX3_parseWants_47 rfl (lv_at hl 0 rfl) ?_
      refine lv_iconst (v := -1) hx hb dX3_parseWants_48 (by decide) ?_
      refine lv_icmp_eq (tgt := 65) hx hb dX3_parseWants_49 (by decide) (fun hc14 => ?_) (fun hc14 => ?_)
      · have hT := hT.1 hc14
        refine lv_iconst (v := 0) hx hb dX3_parseWants_65 (by decide) ?_
        exact fx_zret X hr hk h (Or.inl rfl) hT dX3_parseWants_66
      · have hT := hT.2 hc14
        refine lv_aload_n hx hb dX3_parseWants_52 rfl (lv_at hl 2 rfl) ?_
        refine fx_getR X h (k := 136) (j := 2) (r := 132) sh_136 rfl fl_RX3_32 dX3_parseWants_53 ?_
        refine lv_sipush (v := 283) hx hb dX3_parseWants_56 (by decide) ?_
        refine fx_vi X h ym_X7_take yi_X7_take ys_X7_take (fx_s4 (List.mem_of_getElem? (i := 201) rfl) rfl) sh_132 rfl (c_X7_take l G hT) (As := [.int (283 : Int32)]) (rest := []) rfl rfl ⟨Nat.le_of_ble_eq_true rfl, Nat.le_of_ble_eq_true rfl⟩ ⟨Nat.le_refl _, Nat.le_refl _⟩ hl.1 (Nat.le_of_ble_eq_true rfl) dX3_parseWants_59 (fun r17 M16 H locs hT h => ?_)
        refine lv_if_ne (tgt := 67) hx hb dX3_parseWants_62 (by decide) (fun hc18 => ?_) (fun hc18 => ?_)
        · have hT := hT.2 hc18
          refine lv_aload_n hx hb dX3_parseWants_67 rfl (lv_at hl 2 rfl) ?_
          refine lv_iconst (v := 0) hx hb dX3_parseWants_68 (by decide) ?_
          refine lv_bipush (v := 99) hx hb dX3_parseWants_69 (by decide) ?_
          refine fx_vi X h ym_X3_takeNumber yi_X3_takeNumber ys_X3_takeNumber (fx_s4 (List.mem_of_getElem? (i := 215) rfl) rfl) sh_136 rfl (c_X3_takeNumber l G hT) (As := [.int (0 : Int32), .int (99 : Int32)]) (rest := []) rfl rfl ⟨Nat.le_of_ble_eq_true rfl, Nat.le_of_ble_eq_true rfl⟩ ⟨Nat.le_refl _, Nat.le_refl _⟩ hl.1 (Nat.le_of_ble_eq_true rfl) dX3_parseWants_71 (fun r21 M20 H locs hT h => ?_)
          refine lv_istore_n (lv' := [(3, .int r21), (2, .int r13), (1, .int r5), (0, .ref (G.2.2.2 + 136))]) hx hb dX3_parseWants_74 rfl hl (by decide) rfl (fun ls hl => ?_)
          refine lv_iload_n hx hb dX3_parseWants_75 rfl (lv_at hl 0 rfl) ?_
          refine lv_iconst (v := -1) hx hb dX3_parseWants_76 (by decide) ?_
          refine lv_icmp_eq (tgt := 92) hx hb dX3_parseWants_77 (by decide) (fun hc22 => ?_) (fun hc22 => ?_)
          · have hT := hT.1 hc22
            refine lv_iconst (v := 0) hx hb dX3_parseWants_92 (by decide) ?_
            exact fx_zret X hr hk h (Or.inl rfl) hT dX3_parseWants_93
          · have hT := hT.2 hc22
            refine lv_aload_n hx hb dX3_parseWants_80 rfl (lv_at hl 3 rfl) ?_
            refine fx_getR X h (k := 136) (j := 2) (r := 132) sh_136 rfl fl_RX3_32 dX3_parseWants_81 ?_
            refine lv_bipush (v := 59) hx hb dX3_parseWants_84 (by decide) ?_
            refine fx_vi X h ym_X7_take yi_X7_take ys_X7_take (fx_s4 (List.mem_of_getElem? (i := 201) rfl) rfl) sh_132 rfl (c_X7_take l G hT) (As := [.int (59 : Int32)]) (rest := []) rfl rfl ⟨Nat.le_of_ble_eq_true rfl, Nat.le_of_ble_eq_true rfl⟩ ⟨Nat.le_refl _, Nat.le_refl _⟩ hl.1 (Nat.le_of_ble_eq_true rfl) dX3_parseWants_86 (fun r25 M24 H locs hT h => ?_)
            refine lv_if_ne (tgt := 94) hx hb dX3_parseWants_89 (by decide) (fun hc26 => ?_) (fun hc26 => ?_)
            · have hT := hT.2 hc26
              refine lv_aload_n hx hb dX3_parseWants_94 rfl (lv_at hl 3 rfl) ?_
              refine fx_getR X h (k := 136) (j := 1) (r := 144) sh_136 rfl fl_RX3_21 dX3_parseWants_95 ?_
              refine lv_iload_n hx hb dX3_parseWants_98 rfl (lv_at hl 2 rfl) ?_
              refine lv_iload_n hx hb dX3_parseWants_99 rfl (lv_at hl 1 rfl) ?_
              refine lv_iload_n hx hb dX3_parseWants_100 rfl (lv_at hl 0 rfl) ?_
              refine fx_vv X h ym_X5_addWants yi_X5_addWants ys_X5_addWants (fx_s5 (List.mem_of_getElem? (i := 4) rfl) rfl) sh_144 rfl (c_X5_addWants l G (by decide) hT) (As := [.int r5, .int r13, .int r21]) (rest := []) rfl rfl ⟨Nat.le_of_ble_eq_true rfl, Nat.le_of_ble_eq_true rfl⟩ ⟨Nat.le_refl _, Nat.le_refl _⟩ hl.1 (Nat.le_of_ble_eq_true rfl) dX3_parseWants_101 (fun M28 H locs hT h => ?_)
              refine lv_iconst (v := 1) hx hb dX3_parseWants_104 (by decide) ?_
              exact fx_zret X hr hk h (Or.inr rfl) hT dX3_parseWants_105
            · have hT := hT.1 hc26
              refine lv_iconst (v := 0) hx hb dX3_parseWants_92 (by decide) ?_
              exact fx_zret X hr hk h (Or.inl rfl) hT dX3_parseWants_93
        · have hT := hT.1 hc18
          refine lv_iconst (v := 0) hx hb dX3_parseWants_65 (by decide) ?_
          exact fx_zret X hr hk h (Or.inl rfl) hT dX3_parseWants_66
    · have hT := hT.1 hc10
      refine lv_iconst (v := 0) hx hb dX3_parseWants_37 (by decide) ?_
      exact fx_zret X hr hk h (Or.inl rfl) hT dX3_parseWants_38
/-! MockParcels$Parser.mostOf(I)I -/
theorem dX3_mostOf_0 : decode cX3_mostOf 0 = .ok (.iload_n 0, 1) := by decide +kernel
theorem dX3_mostOf_1 : decode cX3_mostOf 1 = .ok (.lookupswitch 44 #[(271, 38), (272, 35), (280, 41)], 35) := by decide +kernel
theorem dX3_mostOf_36 : decode cX3_mostOf 36 = .ok (.bipush 9, 2) := by decide +kernel
theorem dX3_mostOf_38 : decode cX3_mostOf 38 = .ok (.ireturn, 1) := by decide +kernel
theorem dX3_mostOf_39 : decode cX3_mostOf 39 = .ok (.bipush 99, 2) := by decide +kernel
theorem dX3_mostOf_41 : decode cX3_mostOf 41 = .ok (.ireturn, 1) := by decide +kernel
theorem dX3_mostOf_42 : decode cX3_mostOf 42 = .ok (.bipush 99, 2) := by decide +kernel
theorem dX3_mostOf_44 : decode cX3_mostOf 44 = .ok (.ireturn, 1) := by decide +kernel
theorem dX3_mostOf_45 : decode cX3_mostOf 45 = .ok (.sipush 999, 3) := by decide +kernel
theorem dX3_mostOf_48 : decode cX3_mostOf 48 = .ok (.ireturn, 1) := by decide +kernel
def T_X3_mostOf (x0 : Int32) (M : Mm) (K : Int32 → Mm → Prop) : Prop := ((x0 = (271 : Int32) → (K (99 : Int32) M)) ∧ (¬ x0 = (271 : Int32) → ((x0 = (272 : Int32) → (K (9 : Int32) M)) ∧ (¬ x0 = (272 : Int32) → ((x0 = (280 : Int32) → (K (99 : Int32) M)) ∧ (¬ x0 = (280 : Int32) → (K (999 : Int32) M)))))))
set_option maxHeartbeats 4000000 in
set_option maxRecDepth 100000 in
theorem c_X3_mostOf (l : Launch) (G : fx_G) {x0 : Int32} {M : Mm} {K : Int32 → Mm → Prop} (hT : T_X3_mostOf x0 M K) : Met l yX3_mostOf (fx_ws yX3_mostOf cX3_mostOf 1 (some .int)) (fx_rm (0)) (va_Pc [.int x0] (fx_P G SH M)) (va_Qi K (fx_R G SH) (fx_A G)) 0 0 (fx_A G) := by
  refine fx_met (own := RX3) (by decide +kernel) rfl (Nat.le_of_ble_eq_true rfl) (fun p e s m below meth c X hr hk h ls hl => ?_)
  obtain ⟨⟨hx, hb, hml, hown, hts⟩, hK, hQ⟩ := id X
  have hl : lv_has ls 1 [(0, .int x0)] := hl
  unfold T_X3_mostOf at hT
  refine lv_iload_n hx hb dX3_mostOf_0 rfl (lv_at hl 0 rfl) ?_
  by_cases hc1 : x0 = (271 : Int32)
  · have hT := hT.1 hc1
    refine lv_lookup (off := 38) (tgt := 39) hx hb dX3_mostOf_1 (by decide) (by rw [hc1]; decide) (by decide) ?_
    refine lv_bipush (v := 99) hx hb dX3_mostOf_39 (by decide) ?_
    exact fx_iret X hr hk h hT dX3_mostOf_41
  have hT := hT.2 hc1
  by_cases hc2 : x0 = (272 : Int32)
  · have hT := hT.1 hc2
    refine lv_lookup (off := 35) (tgt := 36) hx hb dX3_mostOf_1 (by decide) (by rw [hc2]; decide) (by decide) ?_
    refine lv_bipush (v := 9) hx hb dX3_mostOf_36 (by decide) ?_
    exact fx_iret X hr hk h hT dX3_mostOf_38
  have hT := hT.2 hc2
  by_cases hc3 : x0 = (280 : Int32)
  · have hT := hT.1 hc3
    refine lv_lookup (off := 41) (tgt := 42) hx hb dX3_mostOf_1 (by decide) (by rw [hc3]; decide) (by decide) ?_
    refine lv_bipush (v := 99) hx hb dX3_mostOf_42 (by decide) ?_
    exact fx_iret X hr hk h hT dX3_mostOf_44
  have hT := hT.2 hc3
  have khc1 : ¬ (x0).toInt = 271 := fun q => hc1 (Int32.toInt_inj.mp (q.trans (by decide)))
  have jhc1 : ¬ 271 = (x0).toInt := fun q => khc1 q.symm
  have khc2 : ¬ (x0).toInt = 272 := fun q => hc2 (Int32.toInt_inj.mp (q.trans (by decide)))
  have jhc2 : ¬ 272 = (x0).toInt := fun q => khc2 q.symm
  have khc3 : ¬ (x0).toInt = 280 := fun q => hc3 (Int32.toInt_inj.mp (q.trans (by decide)))
  have jhc3 : ¬ 280 = (x0).toInt := fun q => khc3 q.symm
  refine lv_lookup (off := 44) (tgt := 45) hx hb dX3_mostOf_1 (by decide) (by simp [Op.lookupswitch.offset, khc1, jhc1, khc2, jhc2, khc3, jhc3]) (by decide) ?_
  refine lv_sipush (v := 999) hx hb dX3_mostOf_45 (by decide) ?_
  exact fx_iret X hr hk h hT dX3_mostOf_48
/-! MockParcels$Parser.parseDay()Z -/
theorem dX3_parseDay_0 : decode cX3_parseDay 0 = .ok (.aload_n 0, 1) := by decide +kernel
theorem dX3_parseDay_1 : decode cX3_parseDay 1 = .ok (.getfield 32, 3) := by decide +kernel
theorem dX3_parseDay_4 : decode cX3_parseDay 4 = .ok (.invokevirtual 77, 3) := by decide +kernel
theorem dX3_parseDay_7 : decode cX3_parseDay 7 = .ok (.aload_n 0, 1) := by decide +kernel
theorem dX3_parseDay_8 : decode cX3_parseDay 8 = .ok (.iconst 0, 1) := by decide +kernel
theorem dX3_parseDay_9 : decode cX3_parseDay 9 = .ok (.sipush 999, 3) := by decide +kernel
theorem dX3_parseDay_12 : decode cX3_parseDay 12 = .ok (.invokevirtual 80, 3) := by decide +kernel
theorem dX3_parseDay_15 : decode cX3_parseDay 15 = .ok (.istore_n 1, 1) := by decide +kernel
theorem dX3_parseDay_16 : decode cX3_parseDay 16 = .ok (.iload_n 1, 1) := by decide +kernel
theorem dX3_parseDay_17 : decode cX3_parseDay 17 = .ok (.iconst (-1), 1) := by decide +kernel
theorem dX3_parseDay_18 : decode cX3_parseDay 18 = .ok (.if_icmp .ne 5, 3) := by decide +kernel
theorem dX3_parseDay_21 : decode cX3_parseDay 21 = .ok (.iconst 0, 1) := by decide +kernel
theorem dX3_parseDay_22 : decode cX3_parseDay 22 = .ok (.ireturn, 1) := by decide +kernel
theorem dX3_parseDay_23 : decode cX3_parseDay 23 = .ok (.aload_n 0, 1) := by decide +kernel
theorem dX3_parseDay_24 : decode cX3_parseDay 24 = .ok (.getfield 32, 3) := by decide +kernel
theorem dX3_parseDay_27 : decode cX3_parseDay 27 = .ok (.getfield 44, 3) := by decide +kernel
theorem dX3_parseDay_30 : decode cX3_parseDay 30 = .ok (.istore_n 2, 1) := by decide +kernel
theorem dX3_parseDay_31 : decode cX3_parseDay 31 = .ok (.iload_n 2, 1) := by decide +kernel
theorem dX3_parseDay_32 : decode cX3_parseDay 32 = .ok (.sipush 278, 3) := by decide +kernel
theorem dX3_parseDay_35 : decode cX3_parseDay 35 = .ok (.sipush 281, 3) := by decide +kernel
theorem dX3_parseDay_38 : decode cX3_parseDay 38 = .ok (.invokestatic 66, 3) := by decide +kernel
theorem dX3_parseDay_41 : decode cX3_parseDay 41 = .ok (.ifCond .ne 26, 3) := by decide +kernel
theorem dX3_parseDay_44 : decode cX3_parseDay 44 = .ok (.iload_n 2, 1) := by decide +kernel
theorem dX3_parseDay_45 : decode cX3_parseDay 45 = .ok (.sipush 272, 3) := by decide +kernel
theorem dX3_parseDay_48 : decode cX3_parseDay 48 = .ok (.if_icmp .eq 19, 3) := by decide +kernel
theorem dX3_parseDay_51 : decode cX3_parseDay 51 = .ok (.iload_n 2, 1) := by decide +kernel
theorem dX3_parseDay_52 : decode cX3_parseDay 52 = .ok (.sipush 271, 3) := by decide +kernel
theorem dX3_parseDay_55 : decode cX3_parseDay 55 = .ok (.if_icmp .eq 12, 3) := by decide +kernel
theorem dX3_parseDay_58 : decode cX3_parseDay 58 = .ok (.aload_n 0, 1) := by decide +kernel
theorem dX3_parseDay_59 : decode cX3_parseDay 59 = .ok (.getfield 32, 3) := by decide +kernel
theorem dX3_parseDay_62 : decode cX3_parseDay 62 = .ok (.iconst 1, 1) := by decide +kernel
theorem dX3_parseDay_63 : decode cX3_parseDay 63 = .ok (.invokevirtual 70, 3) := by decide +kernel
theorem dX3_parseDay_66 : decode cX3_parseDay 66 = .ok (.ireturn, 1) := by decide +kernel
theorem dX3_parseDay_67 : decode cX3_parseDay 67 = .ok (.aload_n 0, 1) := by decide +kernel
theorem dX3_parseDay_68 : decode cX3_parseDay 68 = .ok (.getfield 32, 3) := by decide +kernel
theorem dX3_parseDay_71 : decode cX3_parseDay 71 = .ok (.invokevirtual 77, 3) := by decide +kernel
theorem dX3_parseDay_74 : decode cX3_parseDay 74 = .ok (.iconst 0, 1) := by decide +kernel
theorem dX3_parseDay_75 : decode cX3_parseDay 75 = .ok (.istore_n 3, 1) := by decide +kernel
theorem dX3_parseDay_76 : decode cX3_parseDay 76 = .ok (.iload_n 2, 1) := by decide +kernel
theorem dX3_parseDay_77 : decode cX3_parseDay 77 = .ok (.sipush 278, 3) := by decide +kernel
theorem dX3_parseDay_80 : decode cX3_parseDay 80 = .ok (.if_icmp .eq 17, 3) := by decide +kernel
theorem dX3_parseDay_83 : decode cX3_parseDay 83 = .ok (.iload_n 2, 1) := by decide +kernel
theorem dX3_parseDay_84 : decode cX3_parseDay 84 = .ok (.sipush 280, 3) := by decide +kernel
theorem dX3_parseDay_87 : decode cX3_parseDay 87 = .ok (.if_icmp .eq 10, 3) := by decide +kernel
theorem dX3_parseDay_90 : decode cX3_parseDay 90 = .ok (.iload_n 2, 1) := by decide +kernel
theorem dX3_parseDay_91 : decode cX3_parseDay 91 = .ok (.sipush 281, 3) := by decide +kernel
theorem dX3_parseDay_94 : decode cX3_parseDay 94 = .ok (.if_icmp .ne 29, 3) := by decide +kernel
theorem dX3_parseDay_97 : decode cX3_parseDay 97 = .ok (.aload_n 0, 1) := by decide +kernel
theorem dX3_parseDay_98 : decode cX3_parseDay 98 = .ok (.iconst 0, 1) := by decide +kernel
theorem dX3_parseDay_99 : decode cX3_parseDay 99 = .ok (.iload_n 2, 1) := by decide +kernel
theorem dX3_parseDay_100 : decode cX3_parseDay 100 = .ok (.sipush 281, 3) := by decide +kernel
theorem dX3_parseDay_103 : decode cX3_parseDay 103 = .ok (.if_icmp .ne 10, 3) := by decide +kernel
theorem dX3_parseDay_106 : decode cX3_parseDay 106 = .ok (.aload_n 0, 1) := by decide +kernel
theorem dX3_parseDay_107 : decode cX3_parseDay 107 = .ok (.getfield 29, 3) := by decide +kernel
theorem dX3_parseDay_110 : decode cX3_parseDay 110 = .ok (.goto 7, 3) := by decide +kernel
theorem dX3_parseDay_113 : decode cX3_parseDay 113 = .ok (.aload_n 0, 1) := by decide +kernel
theorem dX3_parseDay_114 : decode cX3_parseDay 114 = .ok (.getfield 25, 3) := by decide +kernel
theorem dX3_parseDay_117 : decode cX3_parseDay 117 = .ok (.iconst 1, 1) := by decide +kernel
theorem dX3_parseDay_118 : decode cX3_parseDay 118 = .ok (.isub, 1) := by decide +kernel
theorem dX3_parseDay_119 : decode cX3_parseDay 119 = .ok (.invokevirtual 80, 3) := by decide +kernel
theorem dX3_parseDay_122 : decode cX3_parseDay 122 = .ok (.istore_n 3, 1) := by decide +kernel
theorem dX3_parseDay_123 : decode cX3_parseDay 123 = .ok (.iconst 0, 1) := by decide +kernel
theorem dX3_parseDay_124 : decode cX3_parseDay 124 = .ok (.istore 4, 2) := by decide +kernel
theorem dX3_parseDay_126 : decode cX3_parseDay 126 = .ok (.iload_n 3, 1) := by decide +kernel
theorem dX3_parseDay_127 : decode cX3_parseDay 127 = .ok (.iconst (-1), 1) := by decide +kernel
theorem dX3_parseDay_128 : decode cX3_parseDay 128 = .ok (.if_icmp .eq 39, 3) := by decide +kernel
theorem dX3_parseDay_131 : decode cX3_parseDay 131 = .ok (.iload_n 2, 1) := by decide +kernel
theorem dX3_parseDay_132 : decode cX3_parseDay 132 = .ok (.sipush 278, 3) := by decide +kernel
theorem dX3_parseDay_135 : decode cX3_parseDay 135 = .ok (.if_icmp .eq 32, 3) := by decide +kernel
theorem dX3_parseDay_138 : decode cX3_parseDay 138 = .ok (.iload_n 2, 1) := by decide +kernel
theorem dX3_parseDay_139 : decode cX3_parseDay 139 = .ok (.sipush 279, 3) := by decide +kernel
theorem dX3_parseDay_142 : decode cX3_parseDay 142 = .ok (.if_icmp .eq 25, 3) := by decide +kernel
theorem dX3_parseDay_145 : decode cX3_parseDay 145 = .ok (.aload_n 0, 1) := by decide +kernel
theorem dX3_parseDay_146 : decode cX3_parseDay 146 = .ok (.iload_n 2, 1) := by decide +kernel
theorem dX3_parseDay_147 : decode cX3_parseDay 147 = .ok (.sipush 281, 3) := by decide +kernel
theorem dX3_parseDay_150 : decode cX3_parseDay 150 = .ok (.if_icmp .ne 7, 3) := by decide +kernel
theorem dX3_parseDay_153 : decode cX3_parseDay 153 = .ok (.iconst 1, 1) := by decide +kernel
theorem dX3_parseDay_154 : decode cX3_parseDay 154 = .ok (.goto 4, 3) := by decide +kernel
theorem dX3_parseDay_157 : decode cX3_parseDay 157 = .ok (.iconst 0, 1) := by decide +kernel
theorem dX3_parseDay_158 : decode cX3_parseDay 158 = .ok (.iload_n 2, 1) := by decide +kernel
theorem dX3_parseDay_159 : decode cX3_parseDay 159 = .ok (.invokestatic 95, 3) := by decide +kernel
theorem dX3_parseDay_162 : decode cX3_parseDay 162 = .ok (.invokevirtual 80, 3) := by decide +kernel
theorem dX3_parseDay_165 : decode cX3_parseDay 165 = .ok (.istore 4, 2) := by decide +kernel
theorem dX3_parseDay_167 : decode cX3_parseDay 167 = .ok (.iload_n 3, 1) := by decide +kernel
theorem dX3_parseDay_168 : decode cX3_parseDay 168 = .ok (.iconst (-1), 1) := by decide +kernel
theorem dX3_parseDay_169 : decode cX3_parseDay 169 = .ok (.if_icmp .eq 21, 3) := by decide +kernel
theorem dX3_parseDay_172 : decode cX3_parseDay 172 = .ok (.iload 4, 2) := by decide +kernel
theorem dX3_parseDay_174 : decode cX3_parseDay 174 = .ok (.iconst (-1), 1) := by decide +kernel
theorem dX3_parseDay_175 : decode cX3_parseDay 175 = .ok (.if_icmp .eq 15, 3) := by decide +kernel
theorem dX3_parseDay_178 : decode cX3_parseDay 178 = .ok (.aload_n 0, 1) := by decide +kernel
theorem dX3_parseDay_179 : decode cX3_parseDay 179 = .ok (.getfield 32, 3) := by decide +kernel
theorem dX3_parseDay_182 : decode cX3_parseDay 182 = .ok (.bipush 59, 2) := by decide +kernel
theorem dX3_parseDay_184 : decode cX3_parseDay 184 = .ok (.invokevirtual 84, 3) := by decide +kernel
theorem dX3_parseDay_187 : decode cX3_parseDay 187 = .ok (.ifCond .ne 5, 3) := by decide +kernel
theorem dX3_parseDay_190 : decode cX3_parseDay 190 = .ok (.iconst 0, 1) := by decide +kernel
theorem dX3_parseDay_191 : decode cX3_parseDay 191 = .ok (.ireturn, 1) := by decide +kernel
theorem dX3_parseDay_192 : decode cX3_parseDay 192 = .ok (.aload_n 0, 1) := by decide +kernel
theorem dX3_parseDay_193 : decode cX3_parseDay 193 = .ok (.getfield 21, 3) := by decide +kernel
theorem dX3_parseDay_196 : decode cX3_parseDay 196 = .ok (.iload_n 1, 1) := by decide +kernel
theorem dX3_parseDay_197 : decode cX3_parseDay 197 = .ok (.iload_n 2, 1) := by decide +kernel
theorem dX3_parseDay_198 : decode cX3_parseDay 198 = .ok (.iload_n 3, 1) := by decide +kernel
theorem dX3_parseDay_199 : decode cX3_parseDay 199 = .ok (.iload 4, 2) := by decide +kernel
theorem dX3_parseDay_201 : decode cX3_parseDay 201 = .ok (.invokevirtual 99, 3) := by decide +kernel
theorem dX3_parseDay_204 : decode cX3_parseDay 204 = .ok (.iconst 1, 1) := by decide +kernel
theorem dX3_parseDay_205 : decode cX3_parseDay 205 = .ok (.ireturn, 1) := by decide +kernel
def T_X3_parseDay_167 (x1 : Int32) (x2 : Int32) (x3 : Int32) (x4 : Int32) (M : Mm) (K : Int32 → Mm → Prop) : Prop := ((x3 = (-1 : Int32) → (K (0 : Int32) M)) ∧ (¬ x3 = (-1 : Int32) → ((x4 = (-1 : Int32) → (K (0 : Int32) M)) ∧ (¬ x4 = (-1 : Int32) → (T_X7_take (59 : Int32) M (fun r5 M4 => ((r5 = 0 → (K (0 : Int32) M4)) ∧ (¬ r5 = 0 → (T_X5_addDay 144 x1 x2 x3 x4 M4 (fun M8 => (K (1 : Int32) M8)))))))))))
set_option maxHeartbeats 4000000 in
set_option maxRecDepth 100000 in
theorem w_X3_parseDay_167 {p : Program} {l : Launch} {e : Env} {s : State} {m : MethodId} {args : Array Value} {below : List Frame} {meth : Method} {c : Code} {G : fx_G} {K : Int32 → Mm → Prop} (X : fx_C G p s m c args cX3_parseDay 5 RX3) (hr : meth.sig.returnType = (some .boolean)) (hk : meth.locks = false) : ∀ (x1 : Int32) (x2 : Int32) (x3 : Int32) (x4 : Int32) (M : Mm) (H : Heap) (locs : List Loc) (ls : Array Slot), T_X3_parseDay_167 x1 x2 x3 x4 M K → fx_H G SH M s H locs → lv_has ls 5 [(0, .ref (G.2.2.2 + 136)), (1, .int x1), (2, .int x2), (3, .int x3), (4, .int x4)] → W p l e (fx_rm (3)) s m args below meth c H locs 0 0 (MQ below (va_Qi K (fx_R G SH) (fx_A G)) args s 0 0 (fx_A G)) (F0 m 167 ls []) := by
  obtain ⟨⟨hx, hb, hml, hown, hts⟩, hK, hQ⟩ := id X
  intro x1 x2 x3 x4 M H locs ls hT h hl
  unfold T_X3_parseDay_167 at hT
  refine lv_iload_n hx hb dX3_parseDay_167 rfl (lv_at hl 3 rfl) ?_
  refine lv_iconst (v := -1) hx hb dX3_parseDay_168 (by decide) ?_
  refine lv_icmp_eq (tgt := 190) hx hb dX3_parseDay_169 (by decide) (fun hc1 => ?_) (fun hc1 => ?_)
  · have hT := hT.1 hc1
    refine lv_iconst (v := 0) hx hb dX3_parseDay_190 (by decide) ?_
    exact fx_zret X hr hk h (Or.inl rfl) hT dX3_parseDay_191
  · have hT := hT.2 hc1
    refine lv_iload hx hb dX3_parseDay_172 (lv_at hl 4 rfl) ?_
    refine lv_iconst (v := -1) hx hb dX3_parseDay_174 (by decide) ?_
    refine lv_icmp_eq (tgt := 190) hx hb dX3_parseDay_175 (by decide) (fun hc2 => ?_) (fun hc2 => ?_)
    · have hT := hT.1 hc2
      refine lv_iconst (v := 0) hx hb dX3_parseDay_190 (by decide) ?_
      exact fx_zret X hr hk h (Or.inl rfl) hT dX3_parseDay_191
    · have hT := hT.2 hc2
      refine lv_aload_n hx hb dX3_parseDay_178 rfl (lv_at hl 0 rfl) ?_
      refine fx_getR X h (k := 136) (j := 2) (r := 132) sh_136 rfl fl_RX3_32 dX3_parseDay_179 ?_
      refine lv_bipush (v := 59) hx hb dX3_parseDay_182 (by decide) ?_
      refine fx_vi X h ym_X7_take yi_X7_take ys_X7_take (fx_s4 (List.mem_of_getElem? (i := 201) rfl) rfl) sh_132 rfl (c_X7_take l G hT) (As := [.int (59 : Int32)]) (rest := []) rfl rfl ⟨Nat.le_of_ble_eq_true rfl, Nat.le_of_ble_eq_true rfl⟩ ⟨Nat.le_refl _, Nat.le_refl _⟩ hl.1 (Nat.le_of_ble_eq_true rfl) dX3_parseDay_184 (fun r5 M4 H locs hT h => ?_)
      refine lv_if_ne (tgt := 192) hx hb dX3_parseDay_187 (by decide) (fun hc6 => ?_) (fun hc6 => ?_)
      · have hT := hT.2 hc6
        refine lv_aload_n hx hb dX3_parseDay_192 rfl (lv_at hl 0 rfl) ?_
        refine fx_getR X h (k := 136) (j := 1) (r := 144) sh_136 rfl fl_RX3_21 dX3_parseDay_193 ?_
        refine lv_iload_n hx hb dX3_parseDay_196 rfl (lv_at hl 1 rfl) ?_
        refine lv_iload_n hx hb dX3_parseDay_197 rfl (lv_at hl 2 rfl) ?_
        refine lv_iload_n hx hb dX3_parseDay_198 rfl (lv_at hl 3 rfl) ?_
        refine lv_iload hx hb dX3_parseDay_199 (lv_at hl 4 rfl) ?_
        refine fx_vv X h ym_X5_addDay yi_X5_addDay ys_X5_addDay (fx_s4 (List.mem_of_getElem? (i := 236) rfl) rfl) sh_144 rfl (c_X5_addDay l G (by decide) hT) (As := [.int x1, .int x2, .int x3, .int x4]) (rest := []) rfl rfl ⟨Nat.le_of_ble_eq_true rfl, Nat.le_of_ble_eq_true rfl⟩ ⟨Nat.le_refl _, Nat.le_refl _⟩ hl.1 (Nat.le_of_ble_eq_true rfl) dX3_parseDay_201 (fun M8 H locs hT h => ?_)
        refine lv_iconst (v := 1) hx hb dX3_parseDay_204 (by decide) ?_
        exact fx_zret X hr hk h (Or.inr rfl) hT dX3_parseDay_205
      · have hT := hT.1 hc6
        refine lv_iconst (v := 0) hx hb dX3_parseDay_190 (by decide) ?_
        exact fx_zret X hr hk h (Or.inl rfl) hT dX3_parseDay_191
def T_X3_parseDay_158 (x1 : Int32) (x2 : Int32) (x3 : Int32) (s1 : Int32) (M : Mm) (K : Int32 → Mm → Prop) : Prop := (T_X3_mostOf x2 M (fun r11 M10 => (T_X3_takeNumber s1 r11 M10 (fun r14 M13 => (T_X3_parseDay_167 x1 x2 x3 r14 M13 K)))))
set_option maxHeartbeats 4000000 in
set_option maxRecDepth 100000 in
theorem w_X3_parseDay_158 {p : Program} {l : Launch} {e : Env} {s : State} {m : MethodId} {args : Array Value} {below : List Frame} {meth : Method} {c : Code} {G : fx_G} {K : Int32 → Mm → Prop} (X : fx_C G p s m c args cX3_parseDay 5 RX3) (hr : meth.sig.returnType = (some .boolean)) (hk : meth.locks = false) : ∀ (x1 : Int32) (x2 : Int32) (x3 : Int32) (s1 : Int32) (M : Mm) (H : Heap) (locs : List Loc) (ls : Array Slot), T_X3_parseDay_158 x1 x2 x3 s1 M K → fx_H G SH M s H locs → lv_has ls 5 [(0, .ref (G.2.2.2 + 136)), (1, .int x1), (2, .int x2), (3, .int x3)] → W p l e (fx_rm (3)) s m args below meth c H locs 0 0 (MQ below (va_Qi K (fx_R G SH) (fx_A G)) args s 0 0 (fx_A G)) (F0 m 158 ls [.int s1, .ref (G.2.2.2 + 136)]) := by
  obtain ⟨⟨hx, hb, hml, hown, hts⟩, hK, hQ⟩ := id X
  intro x1 x2 x3 s1 M H locs ls hT h hl
  unfold T_X3_parseDay_158 at hT
  refine lv_iload_n hx hb dX3_parseDay_158 rfl (lv_at hl 2 rfl) ?_
  refine fx_si X h ym_X3_mostOf yt_X3_mostOf (fx_s4 (List.mem_of_getElem? (i := 233) rfl) rfl) (c_X3_mostOf l G hT) (As := [.int x2]) (rest := [.int s1, .ref (G.2.2.2 + 136)]) rfl rfl ⟨Nat.le_of_ble_eq_true rfl, Nat.le_of_ble_eq_true rfl⟩ ⟨Nat.le_refl _, Nat.le_refl _⟩ hl.1 (Nat.le_of_ble_eq_true rfl) dX3_parseDay_159 (fun r11 M10 H locs hT h => ?_)
  refine fx_vi X h ym_X3_takeNumber yi_X3_takeNumber ys_X3_takeNumber (fx_s4 (List.mem_of_getElem? (i := 215) rfl) rfl) sh_136 rfl (c_X3_takeNumber l G hT) (As := [.int s1, .int r11]) (rest := []) rfl rfl ⟨Nat.le_of_ble_eq_true rfl, Nat.le_of_ble_eq_true rfl⟩ ⟨Nat.le_refl _, Nat.le_refl _⟩ hl.1 (Nat.le_of_ble_eq_true rfl) dX3_parseDay_162 (fun r14 M13 H locs hT h => ?_)
  refine lv_istore (lv' := [(4, .int r14), (0, .ref (G.2.2.2 + 136)), (1, .int x1), (2, .int x2), (3, .int x3)]) hx hb dX3_parseDay_165 hl (by decide) rfl (fun ls hl => ?_)
  exact w_X3_parseDay_167 X hr hk x1 x2 x3 r14 M13 _ _ ls hT h (lv_sub hl [1, 2, 3, 4, 0] rfl)
def T_X3_parseDay_123 (x1 : Int32) (x2 : Int32) (x3 : Int32) (M : Mm) (K : Int32 → Mm → Prop) : Prop := ((x3 = (-1 : Int32) → (T_X3_parseDay_167 x1 x2 x3 (0 : Int32) M K)) ∧ (¬ x3 = (-1 : Int32) → ((x2 = (278 : Int32) → (T_X3_parseDay_167 x1 x2 x3 (0 : Int32) M K)) ∧ (¬ x2 = (278 : Int32) → ((x2 = (279 : Int32) → (T_X3_parseDay_167 x1 x2 x3 (0 : Int32) M K)) ∧ (¬ x2 = (279 : Int32) → ((x2 = (281 : Int32) → (T_X3_parseDay_158 x1 x2 x3 (1 : Int32) M K)) ∧ (¬ x2 = (281 : Int32) → (T_X3_parseDay_158 x1 x2 x3 (0 : Int32) M K)))))))))
set_option maxHeartbeats 4000000 in
set_option maxRecDepth 100000 in
theorem w_X3_parseDay_123 {p : Program} {l : Launch} {e : Env} {s : State} {m : MethodId} {args : Array Value} {below : List Frame} {meth : Method} {c : Code} {G : fx_G} {K : Int32 → Mm → Prop} (X : fx_C G p s m c args cX3_parseDay 5 RX3) (hr : meth.sig.returnType = (some .boolean)) (hk : meth.locks = false) : ∀ (x1 : Int32) (x2 : Int32) (x3 : Int32) (M : Mm) (H : Heap) (locs : List Loc) (ls : Array Slot), T_X3_parseDay_123 x1 x2 x3 M K → fx_H G SH M s H locs → lv_has ls 5 [(0, .ref (G.2.2.2 + 136)), (1, .int x1), (2, .int x2), (3, .int x3)] → W p l e (fx_rm (3)) s m args below meth c H locs 0 0 (MQ below (va_Qi K (fx_R G SH) (fx_A G)) args s 0 0 (fx_A G)) (F0 m 123 ls []) := by
  obtain ⟨⟨hx, hb, hml, hown, hts⟩, hK, hQ⟩ := id X
  intro x1 x2 x3 M H locs ls hT h hl
  unfold T_X3_parseDay_123 at hT
  refine lv_iconst (v := 0) hx hb dX3_parseDay_123 (by decide) ?_
  refine lv_istore (lv' := [(4, .int (0 : Int32)), (0, .ref (G.2.2.2 + 136)), (1, .int x1), (2, .int x2), (3, .int x3)]) hx hb dX3_parseDay_124 hl (by decide) rfl (fun ls hl => ?_)
  refine lv_iload_n hx hb dX3_parseDay_126 rfl (lv_at hl 4 rfl) ?_
  refine lv_iconst (v := -1) hx hb dX3_parseDay_127 (by decide) ?_
  refine lv_icmp_eq (tgt := 167) hx hb dX3_parseDay_128 (by decide) (fun hc15 => ?_) (fun hc15 => ?_)
  · have hT := hT.1 hc15
    exact w_X3_parseDay_167 X hr hk x1 x2 x3 (0 : Int32) M _ _ ls hT h (lv_sub hl [1, 2, 3, 4, 0] rfl)
  · have hT := hT.2 hc15
    refine lv_iload_n hx hb dX3_parseDay_131 rfl (lv_at hl 3 rfl) ?_
    refine lv_sipush (v := 278) hx hb dX3_parseDay_132 (by decide) ?_
    refine lv_icmp_eq (tgt := 167) hx hb dX3_parseDay_135 (by decide) (fun hc16 => ?_) (fun hc16 => ?_)
    · have hT := hT.1 hc16
      exact w_X3_parseDay_167 X hr hk x1 x2 x3 (0 : Int32) M _ _ ls hT h (lv_sub hl [1, 2, 3, 4, 0] rfl)
    · have hT := hT.2 hc16
      refine lv_iload_n hx hb dX3_parseDay_138 rfl (lv_at hl 3 rfl) ?_
      refine lv_sipush (v := 279) hx hb dX3_parseDay_139 (by decide) ?_
      refine lv_icmp_eq (tgt := 167) hx hb dX3_parseDay_142 (by decide) (fun hc17 => ?_) (fun hc17 => ?_)
      · have hT := hT.1 hc17
        exact w_X3_parseDay_167 X hr hk x1 x2 x3 (0 : Int32) M _ _ ls hT h (lv_sub hl [1, 2, 3, 4, 0] rfl)
      · have hT := hT.2 hc17
        refine lv_aload_n hx hb dX3_parseDay_145 rfl (lv_at hl 1 rfl) ?_
        refine lv_iload_n hx hb dX3_parseDay_146 rfl (lv_at hl 3 rfl) ?_
        refine lv_sipush (v := 281) hx hb dX3_parseDay_147 (by decide) ?_
        refine lv_icmp_ne (tgt := 157) hx hb dX3_parseDay_150 (by decide) (fun hc18 => ?_) (fun hc18 => ?_)
        · have hT := hT.2 hc18
          refine lv_iconst (v := 0) hx hb dX3_parseDay_157 (by decide) ?_
          exact w_X3_parseDay_158 X hr hk x1 x2 x3 (0 : Int32) M _ _ ls hT h (lv_sub hl [1, 2, 3, 4] rfl)
        · have hT := hT.1 hc18
          refine lv_iconst (v := 1) hx hb dX3_parseDay_153 (by decide) ?_
          refine lv_goto (tgt := 158) hx hb dX3_parseDay_154 (by decide) ?_
          exact w_X3_parseDay_158 X hr hk x1 x2 x3 (1 : Int32) M _ _ ls hT h (lv_sub hl [1, 2, 3, 4] rfl)
def T_X3_parseDay_117 (x1 : Int32) (x2 : Int32) (s1 : Int32) (s2 : Int32) (M : Mm) (K : Int32 → Mm → Prop) : Prop := (T_X3_takeNumber s1 (s2 - (1 : Int32)) M (fun r21 M20 => (T_X3_parseDay_123 x1 x2 r21 M20 K)))
set_option maxHeartbeats 4000000 in
set_option maxRecDepth 100000 in
theorem w_X3_parseDay_117 {p : Program} {l : Launch} {e : Env} {s : State} {m : MethodId} {args : Array Value} {below : List Frame} {meth : Method} {c : Code} {G : fx_G} {K : Int32 → Mm → Prop} (X : fx_C G p s m c args cX3_parseDay 5 RX3) (hr : meth.sig.returnType = (some .boolean)) (hk : meth.locks = false) : ∀ (x1 : Int32) (x2 : Int32) (s1 : Int32) (s2 : Int32) (M : Mm) (H : Heap) (locs : List Loc) (ls : Array Slot), T_X3_parseDay_117 x1 x2 s1 s2 M K → fx_H G SH M s H locs → lv_has ls 5 [(0, .ref (G.2.2.2 + 136)), (1, .int x1), (2, .int x2)] → W p l e (fx_rm (3)) s m args below meth c H locs 0 0 (MQ below (va_Qi K (fx_R G SH) (fx_A G)) args s 0 0 (fx_A G)) (F0 m 117 ls [.int s2, .int s1, .ref (G.2.2.2 + 136)]) := by
  obtain ⟨⟨hx, hb, hml, hown, hts⟩, hK, hQ⟩ := id X
  intro x1 x2 s1 s2 M H locs ls hT h hl
  unfold T_X3_parseDay_117 at hT
  refine lv_iconst (v := 1) hx hb dX3_parseDay_117 (by decide) ?_
  refine lv_isub hx hb dX3_parseDay_118 ?_
  refine fx_vi X h ym_X3_takeNumber yi_X3_takeNumber ys_X3_takeNumber (fx_s4 (List.mem_of_getElem? (i := 215) rfl) rfl) sh_136 rfl (c_X3_takeNumber l G hT) (As := [.int s1, .int (s2 - (1 : Int32))]) (rest := []) rfl rfl ⟨Nat.le_of_ble_eq_true rfl, Nat.le_of_ble_eq_true rfl⟩ ⟨Nat.le_refl _, Nat.le_refl _⟩ hl.1 (Nat.le_of_ble_eq_true rfl) dX3_parseDay_119 (fun r21 M20 H locs hT h => ?_)
  refine lv_istore_n (lv' := [(3, .int r21), (0, .ref (G.2.2.2 + 136)), (1, .int x1), (2, .int x2)]) hx hb dX3_parseDay_122 rfl hl (by decide) rfl (fun ls hl => ?_)
  exact w_X3_parseDay_123 X hr hk x1 x2 r21 M20 _ _ ls hT h (lv_sub hl [1, 2, 3, 0] rfl)
def T_X3_parseDay_97 (x1 : Int32) (x2 : Int32) (M : Mm) (K : Int32 → Mm → Prop) : Prop := ((x2 = (281 : Int32) → (T_X3_parseDay_117 x1 x2 (0 : Int32) (M 136 4) M K)) ∧ (¬ x2 = (281 : Int32) → (T_X3_parseDay_117 x1 x2 (0 : Int32) (M 136 3) M K)))
set_option maxHeartbeats 4000000 in
set_option maxRecDepth 100000 in
theorem w_X3_parseDay_97 {p : Program} {l : Launch} {e : Env} {s : State} {m : MethodId} {args : Array Value} {below : List Frame} {meth : Method} {c : Code} {G : fx_G} {K : Int32 → Mm → Prop} (X : fx_C G p s m c args cX3_parseDay 5 RX3) (hr : meth.sig.returnType = (some .boolean)) (hk : meth.locks = false) : ∀ (x1 : Int32) (x2 : Int32) (M : Mm) (H : Heap) (locs : List Loc) (ls : Array Slot), T_X3_parseDay_97 x1 x2 M K → fx_H G SH M s H locs → lv_has ls 5 [(0, .ref (G.2.2.2 + 136)), (1, .int x1), (2, .int x2)] → W p l e (fx_rm (3)) s m args below meth c H locs 0 0 (MQ below (va_Qi K (fx_R G SH) (fx_A G)) args s 0 0 (fx_A G)) (F0 m 97 ls []) := by
  obtain ⟨⟨hx, hb, hml, hown, hts⟩, hK, hQ⟩ := id X
  intro x1 x2 M H locs ls hT h hl
  unfold T_X3_parseDay_97 at hT
  refine lv_aload_n hx hb dX3_parseDay_97 rfl (lv_at hl 0 rfl) ?_
  refine lv_iconst (v := 0) hx hb dX3_parseDay_98 (by decide) ?_
  refine lv_iload_n hx hb dX3_parseDay_99 rfl (lv_at hl 2 rfl) ?_
  refine lv_sipush (v := 281) hx hb dX3_parseDay_100 (by decide) ?_
  refine lv_icmp_ne (tgt := 113) hx hb dX3_parseDay_103 (by decide) (fun hc22 => ?_) (fun hc22 => ?_)
  · have hT := hT.2 hc22
    refine lv_aload_n hx hb dX3_parseDay_113 rfl (lv_at hl 0 rfl) ?_
    refine fx_getI X h (k := 136) (j := 3) sh_136 rfl fl_RX3_25 dX3_parseDay_114 ?_
    exact w_X3_parseDay_117 X hr hk x1 x2 (0 : Int32) (M 136 3) M _ _ ls hT h (lv_sub hl [0, 1, 2] rfl)
  · have hT := hT.1 hc22
    refine lv_aload_n hx hb dX3_parseDay_106 rfl (lv_at hl 0 rfl) ?_
    refine fx_getI X h (k := 136) (j := 4) sh_136 rfl fl_RX3_29 dX3_parseDay_107 ?_
    refine lv_goto (tgt := 117) hx hb dX3_parseDay_110 (by decide) ?_
    exact w_X3_parseDay_117 X hr hk x1 x2 (0 : Int32) (M 136 4) M _ _ ls hT h (lv_sub hl [0, 1, 2] rfl)
def T_X3_parseDay_67 (x1 : Int32) (x2 : Int32) (M : Mm) (K : Int32 → Mm → Prop) : Prop := (T_X7_step M (fun M24 => ((x2 = (278 : Int32) → (T_X3_parseDay_97 x1 x2 M24 K)) ∧ (¬ x2 = (278 : Int32) → ((x2 = (280 : Int32) → (T_X3_parseDay_97 x1 x2 M24 K)) ∧ (¬ x2 = (280 : Int32) → ((x2 = (281 : Int32) → (T_X3_parseDay_97 x1 x2 M24 K)) ∧ (¬ x2 = (281 : Int32) → (T_X3_parseDay_123 x1 x2 (0 : Int32) M24 K)))))))))
set_option maxHeartbeats 4000000 in
set_option maxRecDepth 100000 in
theorem w_X3_parseDay_67 {p : Program} {l : Launch} {e : Env} {s : State} {m : MethodId} {args : Array Value} {below : List Frame} {meth : Method} {c : Code} {G : fx_G} {K : Int32 → Mm → Prop} (X : fx_C G p s m c args cX3_parseDay 5 RX3) (hr : meth.sig.returnType = (some .boolean)) (hk : meth.locks = false) : ∀ (x1 : Int32) (x2 : Int32) (M : Mm) (H : Heap) (locs : List Loc) (ls : Array Slot), T_X3_parseDay_67 x1 x2 M K → fx_H G SH M s H locs → lv_has ls 5 [(0, .ref (G.2.2.2 + 136)), (1, .int x1), (2, .int x2)] → W p l e (fx_rm (3)) s m args below meth c H locs 0 0 (MQ below (va_Qi K (fx_R G SH) (fx_A G)) args s 0 0 (fx_A G)) (F0 m 67 ls []) := by
  obtain ⟨⟨hx, hb, hml, hown, hts⟩, hK, hQ⟩ := id X
  intro x1 x2 M H locs ls hT h hl
  unfold T_X3_parseDay_67 at hT
  refine lv_aload_n hx hb dX3_parseDay_67 rfl (lv_at hl 0 rfl) ?_
  refine fx_getR X h (k := 136) (j := 2) (r := 132) sh_136 rfl fl_RX3_32 dX3_parseDay_68 ?_
  refine fx_vv X h ym_X7_step yi_X7_step ys_X7_step (fx_s4 (List.mem_of_getElem? (i := 177) rfl) rfl) sh_132 rfl (c_X7_step l G hT) (As := []) (rest := []) rfl rfl ⟨Nat.le_of_ble_eq_true rfl, Nat.le_of_ble_eq_true rfl⟩ ⟨Nat.le_refl _, Nat.le_refl _⟩ hl.1 (Nat.le_of_ble_eq_true rfl) dX3_parseDay_71 (fun M24 H locs hT h => ?_)
  refine lv_iconst (v := 0) hx hb dX3_parseDay_74 (by decide) ?_
  refine lv_istore_n (lv' := [(3, .int (0 : Int32)), (0, .ref (G.2.2.2 + 136)), (1, .int x1), (2, .int x2)]) hx hb dX3_parseDay_75 rfl hl (by decide) rfl (fun ls hl => ?_)
  refine lv_iload_n hx hb dX3_parseDay_76 rfl (lv_at hl 3 rfl) ?_
  refine lv_sipush (v := 278) hx hb dX3_parseDay_77 (by decide) ?_
  refine lv_icmp_eq (tgt := 97) hx hb dX3_parseDay_80 (by decide) (fun hc25 => ?_) (fun hc25 => ?_)
  · have hT := hT.1 hc25
    exact w_X3_parseDay_97 X hr hk x1 x2 M24 _ _ ls hT h (lv_sub hl [1, 2, 3] rfl)
  · have hT := hT.2 hc25
    refine lv_iload_n hx hb dX3_parseDay_83 rfl (lv_at hl 3 rfl) ?_
    refine lv_sipush (v := 280) hx hb dX3_parseDay_84 (by decide) ?_
    refine lv_icmp_eq (tgt := 97) hx hb dX3_parseDay_87 (by decide) (fun hc26 => ?_) (fun hc26 => ?_)
    · have hT := hT.1 hc26
      exact w_X3_parseDay_97 X hr hk x1 x2 M24 _ _ ls hT h (lv_sub hl [1, 2, 3] rfl)
    · have hT := hT.2 hc26
      refine lv_iload_n hx hb dX3_parseDay_90 rfl (lv_at hl 3 rfl) ?_
      refine lv_sipush (v := 281) hx hb dX3_parseDay_91 (by decide) ?_
      refine lv_icmp_ne (tgt := 123) hx hb dX3_parseDay_94 (by decide) (fun hc27 => ?_) (fun hc27 => ?_)
      · have hT := hT.2 hc27
        exact w_X3_parseDay_123 X hr hk x1 x2 (0 : Int32) M24 _ _ ls hT h (lv_sub hl [1, 2, 3, 0] rfl)
      · have hT := hT.1 hc27
        exact w_X3_parseDay_97 X hr hk x1 x2 M24 _ _ ls hT h (lv_sub hl [1, 2, 3] rfl)
def T_X3_parseDay (M : Mm) (K : Int32 → Mm → Prop) : Prop := (T_X7_step M (fun M29 => (T_X3_takeNumber (0 : Int32) (999 : Int32) M29 (fun r32 M31 => ((r32 = (-1 : Int32) → (K (0 : Int32) M31)) ∧ (¬ r32 = (-1 : Int32) → (∀ y34 : Int32, y34 = (M31 132 6) → (T_X11_isWithin y34 (278 : Int32) (281 : Int32) M31 (fun r37 M36 => ((r37 = 0 → ((y34 = (272 : Int32) → (T_X3_parseDay_67 r32 y34 M36 K)) ∧ (¬ y34 = (272 : Int32) → ((y34 = (271 : Int32) → (T_X3_parseDay_67 r32 y34 M36 K)) ∧ (¬ y34 = (271 : Int32) → (T_X7_refuse (1 : Int32) M36 (fun r43 M42 => ((r43 = 0 ∨ r43 = 1) ∧ K r43 M42)))))))) ∧ (¬ r37 = 0 → (T_X3_parseDay_67 r32 y34 M36 K))))))))))))
set_option maxHeartbeats 4000000 in
set_option maxRecDepth 100000 in
theorem c_X3_parseDay (l : Launch) (G : fx_G) {M : Mm} {K : Int32 → Mm → Prop} (hT : T_X3_parseDay M K) : Met l yX3_parseDay (fx_ws yX3_parseDay cX3_parseDay 5 (some .boolean)) (fx_rm (3)) (va_Pc [.ref (G.2.2.2 + 136)] (fx_P G SH M)) (va_Qi K (fx_R G SH) (fx_A G)) 0 0 (fx_A G) := by
  refine fx_met (own := RX3) (by decide +kernel) rfl (Nat.le_of_ble_eq_true rfl) (fun p e s m below meth c X hr hk h ls hl => ?_)
  obtain ⟨⟨hx, hb, hml, hown, hts⟩, hK, hQ⟩ := id X
  have hl : lv_has ls 5 [(0, .ref (G.2.2.2 + 136))] := hl
  unfold T_X3_parseDay at hT
  refine lv_aload_n hx hb dX3_parseDay_0 rfl (lv_at hl 0 rfl) ?_
  refine fx_getR X h (k := 136) (j := 2) (r := 132) sh_136 rfl fl_RX3_32 dX3_parseDay_1 ?_
  refine fx_vv X h ym_X7_step yi_X7_step ys_X7_step (fx_s4 (List.mem_of_getElem? (i := 177) rfl) rfl) sh_132 rfl (c_X7_step l G hT) (As := []) (rest := []) rfl rfl ⟨Nat.le_of_ble_eq_true rfl, Nat.le_of_ble_eq_true rfl⟩ ⟨Nat.le_refl _, Nat.le_refl _⟩ hl.1 (Nat.le_of_ble_eq_true rfl) dX3_parseDay_4 (fun M29 H locs hT h => ?_)
  refine lv_aload_n hx hb dX3_parseDay_7 rfl (lv_at hl 0 rfl) ?_
  refine lv_iconst (v := 0) hx hb dX3_parseDay_8 (by decide) ?_
  refine lv_sipush (v := 999) hx hb dX3_parseDay_9 (by decide) ?_
  refine fx_vi X h ym_X3_takeNumber yi_X3_takeNumber ys_X3_takeNumber (fx_s4 (List.mem_of_getElem? (i := 215) rfl) rfl) sh_136 rfl (c_X3_takeNumber l G hT) (As := [.int (0 : Int32), .int (999 : Int32)]) (rest := []) rfl rfl ⟨Nat.le_of_ble_eq_true rfl, Nat.le_of_ble_eq_true rfl⟩ ⟨Nat.le_refl _, Nat.le_refl _⟩ hl.1 (Nat.le_of_ble_eq_true rfl) dX3_parseDay_12 (fun r32 M31 H locs hT h => ?_)
  refine lv_istore_n (lv' := [(1, .int r32), (0, .ref (G.2.2.2 + 136))]) hx hb dX3_parseDay_15 rfl hl (by decide) rfl (fun ls hl => ?_)
  refine lv_iload_n hx hb dX3_parseDay_16 rfl (lv_at hl 0 rfl) ?_
  refine lv_iconst (v := -1) hx hb dX3_parseDay_17 (by decide) ?_
  refine lv_icmp_ne (tgt := 23) hx hb dX3_parseDay_18 (by decide) (fun hc33 => ?_) (fun hc33 => ?_)
  · have hT := hT.2 hc33
    refine lv_aload_n hx hb dX3_parseDay_23 rfl (lv_at hl 1 rfl) ?_
    refine fx_getR X h (k := 136) (j := 2) (r := 132) sh_136 rfl fl_RX3_32 dX3_parseDay_24 ?_
    refine fx_getI X h (k := 132) (j := 6) sh_132 rfl fl_RX3_44 dX3_parseDay_27 ?_
    refine lv_topi (fun y34 ey34 => ?_)
    have hT := hT y34 ey34
    refine lv_istore_n (lv' := [(2, .int y34), (1, .int r32), (0, .ref (G.2.2.2 + 136))]) hx hb dX3_parseDay_30 rfl hl (by decide) rfl (fun ls hl => ?_)
    refine lv_iload_n hx hb dX3_parseDay_31 rfl (lv_at hl 0 rfl) ?_
    refine lv_sipush (v := 278) hx hb dX3_parseDay_32 (by decide) ?_
    refine lv_sipush (v := 281) hx hb dX3_parseDay_35 (by decide) ?_
    refine fx_ni X h ym_X11_isWithin yt_X11_isWithin (nq_RX3_66) (c_X11_isWithin l G hT) (As := [.int y34, .int (278 : Int32), .int (281 : Int32)]) (rest := []) rfl rfl ⟨Nat.le_of_ble_eq_true rfl, Nat.le_of_ble_eq_true rfl⟩ ⟨Nat.le_refl _, Nat.le_refl _⟩ hl.1 (Nat.le_of_ble_eq_true rfl) dX3_parseDay_38 (fun r37 M36 H locs hT h => ?_)
    refine lv_if_ne (tgt := 67) hx hb dX3_parseDay_41 (by decide) (fun hc38 => ?_) (fun hc38 => ?_)
    · have hT := hT.2 hc38
      exact w_X3_parseDay_67 X hr hk r32 y34 M36 _ _ ls hT h (lv_sub hl [2, 1, 0] rfl)
    · have hT := hT.1 hc38
      refine lv_iload_n hx hb dX3_parseDay_44 rfl (lv_at hl 0 rfl) ?_
      refine lv_sipush (v := 272) hx hb dX3_parseDay_45 (by decide) ?_
      refine lv_icmp_eq (tgt := 67) hx hb dX3_parseDay_48 (by decide) (fun hc39 => ?_) (fun hc39 => ?_)
      · have hT := hT.1 hc39
        exact w_X3_parseDay_67 X hr hk r32 y34 M36 _ _ ls hT h (lv_sub hl [2, 1, 0] rfl)
      · have hT := hT.2 hc39
        refine lv_iload_n hx hb dX3_parseDay_51 rfl (lv_at hl 0 rfl) ?_
        refine lv_sipush (v := 271) hx hb dX3_parseDay_52 (by decide) ?_
        refine lv_icmp_eq (tgt := 67) hx hb dX3_parseDay_55 (by decide) (fun hc40 => ?_) (fun hc40 => ?_)
        · have hT := hT.1 hc40
          exact w_X3_parseDay_67 X hr hk r32 y34 M36 _ _ ls hT h (lv_sub hl [2, 1, 0] rfl)
        · have hT := hT.2 hc40
          refine lv_aload_n hx hb dX3_parseDay_58 rfl (lv_at hl 2 rfl) ?_
          refine fx_getR X h (k := 136) (j := 2) (r := 132) sh_136 rfl fl_RX3_32 dX3_parseDay_59 ?_
          refine lv_iconst (v := 1) hx hb dX3_parseDay_62 (by decide) ?_
          refine fx_vi X h ym_X7_refuse yi_X7_refuse ys_X7_refuse (fx_s4 (List.mem_of_getElem? (i := 169) rfl) rfl) sh_132 rfl (c_X7_refuse l G hT) (As := [.int (1 : Int32)]) (rest := []) rfl rfl ⟨Nat.le_of_ble_eq_true rfl, Nat.le_of_ble_eq_true rfl⟩ ⟨Nat.le_refl _, Nat.le_refl _⟩ hl.1 (Nat.le_of_ble_eq_true rfl) dX3_parseDay_63 (fun r43 M42 H locs hT h => ?_)
          exact fx_zret X hr hk h hT.1 hT.2 dX3_parseDay_66
  · have hT := hT.1 hc33
    refine lv_iconst (v := 0) hx hb dX3_parseDay_21 (by decide) ?_
    exact fx_zret X hr hk h (Or.inl rfl) hT dX3_parseDay_22
/-! MockParcels$Parser.parseUnit(Z)Z -/
theorem dX3_parseUnit_0 : decode cX3_parseUnit 0 = .ok (.aload_n 0, 1) := by decide +kernel
theorem dX3_parseUnit_1 : decode cX3_parseUnit 1 = .ok (.getfield 32, 3) := by decide +kernel
theorem dX3_parseUnit_4 : decode cX3_parseUnit 4 = .ok (.getfield 44, 3) := by decide +kernel
theorem dX3_parseUnit_7 : decode cX3_parseUnit 7 = .ok (.istore_n 2, 1) := by decide +kernel
theorem dX3_parseUnit_8 : decode cX3_parseUnit 8 = .ok (.iload_n 2, 1) := by decide +kernel
theorem dX3_parseUnit_9 : decode cX3_parseUnit 9 = .ok (.sipush 1000, 3) := by decide +kernel
theorem dX3_parseUnit_12 : decode cX3_parseUnit 12 = .ok (.if_icmp .lt 39, 3) := by decide +kernel
theorem dX3_parseUnit_15 : decode cX3_parseUnit 15 = .ok (.iload_n 1, 1) := by decide +kernel
theorem dX3_parseUnit_16 : decode cX3_parseUnit 16 = .ok (.ifCond .eq 19, 3) := by decide +kernel
theorem dX3_parseUnit_19 : decode cX3_parseUnit 19 = .ok (.iload_n 2, 1) := by decide +kernel
theorem dX3_parseUnit_20 : decode cX3_parseUnit 20 = .ok (.sipush 1000, 3) := by decide +kernel
theorem dX3_parseUnit_23 : decode cX3_parseUnit 23 = .ok (.if_icmp .ne 12, 3) := by decide +kernel
theorem dX3_parseUnit_26 : decode cX3_parseUnit 26 = .ok (.aload_n 0, 1) := by decide +kernel
theorem dX3_parseUnit_27 : decode cX3_parseUnit 27 = .ok (.getfield 32, 3) := by decide +kernel
theorem dX3_parseUnit_30 : decode cX3_parseUnit 30 = .ok (.iconst 2, 1) := by decide +kernel
theorem dX3_parseUnit_31 : decode cX3_parseUnit 31 = .ok (.invokevirtual 70, 3) := by decide +kernel
theorem dX3_parseUnit_34 : decode cX3_parseUnit 34 = .ok (.ireturn, 1) := by decide +kernel
theorem dX3_parseUnit_35 : decode cX3_parseUnit 35 = .ok (.aload_n 0, 1) := by decide +kernel
theorem dX3_parseUnit_36 : decode cX3_parseUnit 36 = .ok (.getfield 12, 3) := by decide +kernel
theorem dX3_parseUnit_39 : decode cX3_parseUnit 39 = .ok (.iload_n 2, 1) := by decide +kernel
theorem dX3_parseUnit_40 : decode cX3_parseUnit 40 = .ok (.sipush 1000, 3) := by decide +kernel
theorem dX3_parseUnit_43 : decode cX3_parseUnit 43 = .ok (.isub, 1) := by decide +kernel
theorem dX3_parseUnit_44 : decode cX3_parseUnit 44 = .ok (.invokevirtual 118, 3) := by decide +kernel
theorem dX3_parseUnit_47 : decode cX3_parseUnit 47 = .ok (.pop, 1) := by decide +kernel
theorem dX3_parseUnit_48 : decode cX3_parseUnit 48 = .ok (.goto 50, 3) := by decide +kernel
theorem dX3_parseUnit_51 : decode cX3_parseUnit 51 = .ok (.iload_n 1, 1) := by decide +kernel
theorem dX3_parseUnit_52 : decode cX3_parseUnit 52 = .ok (.ifCond .ne 37, 3) := by decide +kernel
theorem dX3_parseUnit_55 : decode cX3_parseUnit 55 = .ok (.iload_n 2, 1) := by decide +kernel
theorem dX3_parseUnit_56 : decode cX3_parseUnit 56 = .ok (.sipush 263, 3) := by decide +kernel
theorem dX3_parseUnit_59 : decode cX3_parseUnit 59 = .ok (.if_icmp .lt 30, 3) := by decide +kernel
theorem dX3_parseUnit_62 : decode cX3_parseUnit 62 = .ok (.iload_n 2, 1) := by decide +kernel
theorem dX3_parseUnit_63 : decode cX3_parseUnit 63 = .ok (.sipush 274, 3) := by decide +kernel
theorem dX3_parseUnit_66 : decode cX3_parseUnit 66 = .ok (.if_icmp .gt 23, 3) := by decide +kernel
theorem dX3_parseUnit_69 : decode cX3_parseUnit 69 = .ok (.aload_n 0, 1) := by decide +kernel
theorem dX3_parseUnit_70 : decode cX3_parseUnit 70 = .ok (.getfield 12, 3) := by decide +kernel
theorem dX3_parseUnit_73 : decode cX3_parseUnit 73 = .ok (.sipush 10000, 3) := by decide +kernel
theorem dX3_parseUnit_76 : decode cX3_parseUnit 76 = .ok (.iload_n 2, 1) := by decide +kernel
theorem dX3_parseUnit_77 : decode cX3_parseUnit 77 = .ok (.iadd, 1) := by decide +kernel
theorem dX3_parseUnit_78 : decode cX3_parseUnit 78 = .ok (.sipush 263, 3) := by decide +kernel
theorem dX3_parseUnit_81 : decode cX3_parseUnit 81 = .ok (.isub, 1) := by decide +kernel
theorem dX3_parseUnit_82 : decode cX3_parseUnit 82 = .ok (.invokevirtual 118, 3) := by decide +kernel
theorem dX3_parseUnit_85 : decode cX3_parseUnit 85 = .ok (.pop, 1) := by decide +kernel
theorem dX3_parseUnit_86 : decode cX3_parseUnit 86 = .ok (.goto 12, 3) := by decide +kernel
theorem dX3_parseUnit_89 : decode cX3_parseUnit 89 = .ok (.aload_n 0, 1) := by decide +kernel
theorem dX3_parseUnit_90 : decode cX3_parseUnit 90 = .ok (.getfield 32, 3) := by decide +kernel
theorem dX3_parseUnit_93 : decode cX3_parseUnit 93 = .ok (.iconst 1, 1) := by decide +kernel
theorem dX3_parseUnit_94 : decode cX3_parseUnit 94 = .ok (.invokevirtual 70, 3) := by decide +kernel
theorem dX3_parseUnit_97 : decode cX3_parseUnit 97 = .ok (.ireturn, 1) := by decide +kernel
theorem dX3_parseUnit_98 : decode cX3_parseUnit 98 = .ok (.aload_n 0, 1) := by decide +kernel
theorem dX3_parseUnit_99 : decode cX3_parseUnit 99 = .ok (.getfield 32, 3) := by decide +kernel
theorem dX3_parseUnit_102 : decode cX3_parseUnit 102 = .ok (.invokevirtual 77, 3) := by decide +kernel
theorem dX3_parseUnit_105 : decode cX3_parseUnit 105 = .ok (.iconst 1, 1) := by decide +kernel
theorem dX3_parseUnit_106 : decode cX3_parseUnit 106 = .ok (.ireturn, 1) := by decide +kernel
def T_X3_parseUnit_89 (M : Mm) (K : Int32 → Mm → Prop) : Prop := (T_X7_refuse (1 : Int32) M (fun r3 M2 => ((r3 = 0 ∨ r3 = 1) ∧ K r3 M2)))
set_option maxHeartbeats 4000000 in
set_option maxRecDepth 100000 in
theorem w_X3_parseUnit_89 {p : Program} {l : Launch} {e : Env} {s : State} {m : MethodId} {args : Array Value} {below : List Frame} {meth : Method} {c : Code} {G : fx_G} {K : Int32 → Mm → Prop} (X : fx_C G p s m c args cX3_parseUnit 3 RX3) (hr : meth.sig.returnType = (some .boolean)) (hk : meth.locks = false) : ∀ (M : Mm) (H : Heap) (locs : List Loc) (ls : Array Slot), T_X3_parseUnit_89  M K → fx_H G SH M s H locs → lv_has ls 3 [(0, .ref (G.2.2.2 + 136))] → W p l e (fx_rm (1)) s m args below meth c H locs 0 0 (MQ below (va_Qi K (fx_R G SH) (fx_A G)) args s 0 0 (fx_A G)) (F0 m 89 ls []) := by
  obtain ⟨⟨hx, hb, hml, hown, hts⟩, hK, hQ⟩ := id X
  intro  M H locs ls hT h hl
  unfold T_X3_parseUnit_89 at hT
  refine lv_aload_n hx hb dX3_parseUnit_89 rfl (lv_at hl 0 rfl) ?_
  refine fx_getR X h (k := 136) (j := 2) (r := 132) sh_136 rfl fl_RX3_32 dX3_parseUnit_90 ?_
  refine lv_iconst (v := 1) hx hb dX3_parseUnit_93 (by decide) ?_
  refine fx_vi X h ym_X7_refuse yi_X7_refuse ys_X7_refuse (fx_s4 (List.mem_of_getElem? (i := 169) rfl) rfl) sh_132 rfl (c_X7_refuse l G hT) (As := [.int (1 : Int32)]) (rest := []) rfl rfl ⟨Nat.le_of_ble_eq_true rfl, Nat.le_of_ble_eq_true rfl⟩ ⟨Nat.le_refl _, Nat.le_refl _⟩ hl.1 (Nat.le_of_ble_eq_true rfl) dX3_parseUnit_94 (fun r3 M2 H locs hT h => ?_)
  exact fx_zret X hr hk h hT.1 hT.2 dX3_parseUnit_97
def T_X3_parseUnit_98 (M : Mm) (K : Int32 → Mm → Prop) : Prop := (T_X7_step M (fun M5 => (K (1 : Int32) M5)))
set_option maxHeartbeats 4000000 in
set_option maxRecDepth 100000 in
theorem w_X3_parseUnit_98 {p : Program} {l : Launch} {e : Env} {s : State} {m : MethodId} {args : Array Value} {below : List Frame} {meth : Method} {c : Code} {G : fx_G} {K : Int32 → Mm → Prop} (X : fx_C G p s m c args cX3_parseUnit 3 RX3) (hr : meth.sig.returnType = (some .boolean)) (hk : meth.locks = false) : ∀ (M : Mm) (H : Heap) (locs : List Loc) (ls : Array Slot), T_X3_parseUnit_98  M K → fx_H G SH M s H locs → lv_has ls 3 [(0, .ref (G.2.2.2 + 136))] → W p l e (fx_rm (1)) s m args below meth c H locs 0 0 (MQ below (va_Qi K (fx_R G SH) (fx_A G)) args s 0 0 (fx_A G)) (F0 m 98 ls []) := by
  obtain ⟨⟨hx, hb, hml, hown, hts⟩, hK, hQ⟩ := id X
  intro  M H locs ls hT h hl
  unfold T_X3_parseUnit_98 at hT
  refine lv_aload_n hx hb dX3_parseUnit_98 rfl (lv_at hl 0 rfl) ?_
  refine fx_getR X h (k := 136) (j := 2) (r := 132) sh_136 rfl fl_RX3_32 dX3_parseUnit_99 ?_
  refine fx_vv X h ym_X7_step yi_X7_step ys_X7_step (fx_s4 (List.mem_of_getElem? (i := 177) rfl) rfl) sh_132 rfl (c_X7_step l G hT) (As := []) (rest := []) rfl rfl ⟨Nat.le_of_ble_eq_true rfl, Nat.le_of_ble_eq_true rfl⟩ ⟨Nat.le_refl _, Nat.le_refl _⟩ hl.1 (Nat.le_of_ble_eq_true rfl) dX3_parseUnit_102 (fun M5 H locs hT h => ?_)
  refine lv_iconst (v := 1) hx hb dX3_parseUnit_105 (by decide) ?_
  exact fx_zret X hr hk h (Or.inr rfl) hT dX3_parseUnit_106
def T_X3_parseUnit_35 (x2 : Int32) (M : Mm) (K : Int32 → Mm → Prop) : Prop := (T_X2_add 137 (x2 - (1000 : Int32)) M (fun r8 M7 => (T_X3_parseUnit_98 M7 K)))
set_option maxHeartbeats 4000000 in
set_option maxRecDepth 100000 in
theorem w_X3_parseUnit_35 {p : Program} {l : Launch} {e : Env} {s : State} {m : MethodId} {args : Array Value} {below : List Frame} {meth : Method} {c : Code} {G : fx_G} {K : Int32 → Mm → Prop} (X : fx_C G p s m c args cX3_parseUnit 3 RX3) (hr : meth.sig.returnType = (some .boolean)) (hk : meth.locks = false) : ∀ (x2 : Int32) (M : Mm) (H : Heap) (locs : List Loc) (ls : Array Slot), T_X3_parseUnit_35 x2 M K → fx_H G SH M s H locs → lv_has ls 3 [(0, .ref (G.2.2.2 + 136)), (2, .int x2)] → W p l e (fx_rm (1)) s m args below meth c H locs 0 0 (MQ below (va_Qi K (fx_R G SH) (fx_A G)) args s 0 0 (fx_A G)) (F0 m 35 ls []) := by
  obtain ⟨⟨hx, hb, hml, hown, hts⟩, hK, hQ⟩ := id X
  intro x2 M H locs ls hT h hl
  unfold T_X3_parseUnit_35 at hT
  refine lv_aload_n hx hb dX3_parseUnit_35 rfl (lv_at hl 0 rfl) ?_
  refine fx_getR X h (k := 136) (j := 0) (r := 137) sh_136 rfl fl_RX3_12 dX3_parseUnit_36 ?_
  refine lv_iload_n hx hb dX3_parseUnit_39 rfl (lv_at hl 1 rfl) ?_
  refine lv_sipush (v := 1000) hx hb dX3_parseUnit_40 (by decide) ?_
  refine lv_isub hx hb dX3_parseUnit_43 ?_
  refine fx_vi X h ym_X2_add yi_X2_add ys_X2_add (fx_s4 (List.mem_of_getElem? (i := 189) rfl) rfl) sh_137 rfl (c_X2_add l G (by decide) hT) (As := [.int (x2 - (1000 : Int32))]) (rest := []) rfl rfl ⟨Nat.le_of_ble_eq_true rfl, Nat.le_of_ble_eq_true rfl⟩ ⟨Nat.le_refl _, Nat.le_refl _⟩ hl.1 (Nat.le_of_ble_eq_true rfl) dX3_parseUnit_44 (fun r8 M7 H locs hT h => ?_)
  refine lv_pop hx hb dX3_parseUnit_47 rfl ?_
  refine lv_goto (tgt := 98) hx hb dX3_parseUnit_48 (by decide) ?_
  exact w_X3_parseUnit_98 X hr hk M7 _ _ ls hT h (lv_sub hl [0] rfl)
def T_X3_parseUnit (x1 : Int32) (M : Mm) (K : Int32 → Mm → Prop) : Prop := (∀ y9 : Int32, y9 = (M 132 6) → ((y9 < (1000 : Int32) → ((x1 = 0 → ((y9 < (263 : Int32) → (T_X3_parseUnit_89 M K)) ∧ (¬ y9 < (263 : Int32) → (((274 : Int32) < y9 → (T_X3_parseUnit_89 M K)) ∧ (¬ (274 : Int32) < y9 → (T_X2_add 137 (((10000 : Int32) + y9) - (263 : Int32)) M (fun r16 M15 => (T_X3_parseUnit_98 M15 K)))))))) ∧ (¬ x1 = 0 → (T_X3_parseUnit_89 M K)))) ∧ (¬ y9 < (1000 : Int32) → ((x1 = 0 → (T_X3_parseUnit_35 y9 M K)) ∧ (¬ x1 = 0 → ((y9 = (1000 : Int32) → (T_X7_refuse (2 : Int32) M (fun r21 M20 => ((r21 = 0 ∨ r21 = 1) ∧ K r21 M20)))) ∧ (¬ y9 = (1000 : Int32) → (T_X3_parseUnit_35 y9 M K))))))))
set_option maxHeartbeats 4000000 in
set_option maxRecDepth 100000 in
theorem c_X3_parseUnit (l : Launch) (G : fx_G) {x1 : Int32} {M : Mm} {K : Int32 → Mm → Prop} (hT : T_X3_parseUnit x1 M K) : Met l yX3_parseUnit (fx_ws yX3_parseUnit cX3_parseUnit 3 (some .boolean)) (fx_rm (1)) (va_Pc [.ref (G.2.2.2 + 136), .int x1] (fx_P G SH M)) (va_Qi K (fx_R G SH) (fx_A G)) 0 0 (fx_A G) := by
  refine fx_met (own := RX3) (by decide +kernel) rfl (Nat.le_of_ble_eq_true rfl) (fun p e s m below meth c X hr hk h ls hl => ?_)
  obtain ⟨⟨hx, hb, hml, hown, hts⟩, hK, hQ⟩ := id X
  have hl : lv_has ls 3 [(0, .ref (G.2.2.2 + 136)), (1, .int x1)] := hl
  unfold T_X3_parseUnit at hT
  refine lv_aload_n hx hb dX3_parseUnit_0 rfl (lv_at hl 0 rfl) ?_
  refine fx_getR X h (k := 136) (j := 2) (r := 132) sh_136 rfl fl_RX3_32 dX3_parseUnit_1 ?_
  refine fx_getI X h (k := 132) (j := 6) sh_132 rfl fl_RX3_44 dX3_parseUnit_4 ?_
  refine lv_topi (fun y9 ey9 => ?_)
  have hT := hT y9 ey9
  refine lv_istore_n (lv' := [(2, .int y9), (0, .ref (G.2.2.2 + 136)), (1, .int x1)]) hx hb dX3_parseUnit_7 rfl hl (by decide) rfl (fun ls hl => ?_)
  refine lv_iload_n hx hb dX3_parseUnit_8 rfl (lv_at hl 0 rfl) ?_
  refine lv_sipush (v := 1000) hx hb dX3_parseUnit_9 (by decide) ?_
  refine lv_icmp_lt (tgt := 51) hx hb dX3_parseUnit_12 (by decide) (fun hc10 => ?_) (fun hc10 => ?_)
  · have hT := hT.1 hc10
    refine lv_iload_n hx hb dX3_parseUnit_51 rfl (lv_at hl 2 rfl) ?_
    refine lv_if_ne (tgt := 89) hx hb dX3_parseUnit_52 (by decide) (fun hc11 => ?_) (fun hc11 => ?_)
    · have hT := hT.2 hc11
      exact w_X3_parseUnit_89 X hr hk M _ _ ls hT h (lv_sub hl [1] rfl)
    · have hT := hT.1 hc11
      refine lv_iload_n hx hb dX3_parseUnit_55 rfl (lv_at hl 0 rfl) ?_
      refine lv_sipush (v := 263) hx hb dX3_parseUnit_56 (by decide) ?_
      refine lv_icmp_lt (tgt := 89) hx hb dX3_parseUnit_59 (by decide) (fun hc12 => ?_) (fun hc12 => ?_)
      · have hT := hT.1 hc12
        exact w_X3_parseUnit_89 X hr hk M _ _ ls hT h (lv_sub hl [1] rfl)
      · have hT := hT.2 hc12
        refine lv_iload_n hx hb dX3_parseUnit_62 rfl (lv_at hl 0 rfl) ?_
        refine lv_sipush (v := 274) hx hb dX3_parseUnit_63 (by decide) ?_
        refine lv_icmp_gt (tgt := 89) hx hb dX3_parseUnit_66 (by decide) (fun hc13 => ?_) (fun hc13 => ?_)
        · have hT := hT.1 hc13
          exact w_X3_parseUnit_89 X hr hk M _ _ ls hT h (lv_sub hl [1] rfl)
        · have hT := hT.2 hc13
          refine lv_aload_n hx hb dX3_parseUnit_69 rfl (lv_at hl 1 rfl) ?_
          refine fx_getR X h (k := 136) (j := 0) (r := 137) sh_136 rfl fl_RX3_12 dX3_parseUnit_70 ?_
          refine lv_sipush (v := 10000) hx hb dX3_parseUnit_73 (by decide) ?_
          refine lv_iload_n hx hb dX3_parseUnit_76 rfl (lv_at hl 0 rfl) ?_
          refine lv_iadd hx hb dX3_parseUnit_77 ?_
          refine lv_sipush (v := 263) hx hb dX3_parseUnit_78 (by decide) ?_
          refine lv_isub hx hb dX3_parseUnit_81 ?_
          refine fx_vi X h ym_X2_add yi_X2_add ys_X2_add (fx_s4 (List.mem_of_getElem? (i := 189) rfl) rfl) sh_137 rfl (c_X2_add l G (by decide) hT) (As := [.int (((10000 : Int32) + y9) - (263 : Int32))]) (rest := []) rfl rfl ⟨Nat.le_of_ble_eq_true rfl, Nat.le_of_ble_eq_true rfl⟩ ⟨Nat.le_refl _, Nat.le_refl _⟩ hl.1 (Nat.le_of_ble_eq_true rfl) dX3_parseUnit_82 (fun r16 M15 H locs hT h => ?_)
          refine lv_pop hx hb dX3_parseUnit_85 rfl ?_
          refine lv_goto (tgt := 98) hx hb dX3_parseUnit_86 (by decide) ?_
          exact w_X3_parseUnit_98 X hr hk M15 _ _ ls hT h (lv_sub hl [1] rfl)
  · have hT := hT.2 hc10
    refine lv_iload_n hx hb dX3_parseUnit_15 rfl (lv_at hl 2 rfl) ?_
    refine lv_if_eq (tgt := 35) hx hb dX3_parseUnit_16 (by decide) (fun hc17 => ?_) (fun hc17 => ?_)
    · have hT := hT.1 hc17
      exact w_X3_parseUnit_35 X hr hk y9 M _ _ ls hT h (lv_sub hl [1, 0] rfl)
    · have hT := hT.2 hc17
      refine lv_iload_n hx hb dX3_parseUnit_19 rfl (lv_at hl 0 rfl) ?_
      refine lv_sipush (v := 1000) hx hb dX3_parseUnit_20 (by decide) ?_
      refine lv_icmp_ne (tgt := 35) hx hb dX3_parseUnit_23 (by decide) (fun hc18 => ?_) (fun hc18 => ?_)
      · have hT := hT.2 hc18
        exact w_X3_parseUnit_35 X hr hk y9 M _ _ ls hT h (lv_sub hl [1, 0] rfl)
      · have hT := hT.1 hc18
        refine lv_aload_n hx hb dX3_parseUnit_26 rfl (lv_at hl 1 rfl) ?_
        refine fx_getR X h (k := 136) (j := 2) (r := 132) sh_136 rfl fl_RX3_32 dX3_parseUnit_27 ?_
        refine lv_iconst (v := 2) hx hb dX3_parseUnit_30 (by decide) ?_
        refine fx_vi X h ym_X7_refuse yi_X7_refuse ys_X7_refuse (fx_s4 (List.mem_of_getElem? (i := 169) rfl) rfl) sh_132 rfl (c_X7_refuse l G hT) (As := [.int (2 : Int32)]) (rest := []) rfl rfl ⟨Nat.le_of_ble_eq_true rfl, Nat.le_of_ble_eq_true rfl⟩ ⟨Nat.le_refl _, Nat.le_refl _⟩ hl.1 (Nat.le_of_ble_eq_true rfl) dX3_parseUnit_31 (fun r21 M20 H locs hT h => ?_)
        exact fx_zret X hr hk h hT.1 hT.2 dX3_parseUnit_34
/-! MockParcels$Parser.parseSum()Z -/
theorem dX3_parseSum_0 : decode cX3_parseSum 0 = .ok (.iconst (-1), 1) := by decide +kernel
theorem dX3_parseSum_1 : decode cX3_parseSum 1 = .ok (.istore_n 1, 1) := by decide +kernel
theorem dX3_parseSum_2 : decode cX3_parseSum 2 = .ok (.iconst 0, 1) := by decide +kernel
theorem dX3_parseSum_3 : decode cX3_parseSum 3 = .ok (.istore_n 2, 1) := by decide +kernel
theorem dX3_parseSum_4 : decode cX3_parseSum 4 = .ok (.iload_n 2, 1) := by decide +kernel
theorem dX3_parseSum_5 : decode cX3_parseSum 5 = .ok (.sipush 400, 3) := by decide +kernel
theorem dX3_parseSum_8 : decode cX3_parseSum 8 = .ok (.if_icmp .gt 168, 3) := by decide +kernel
theorem dX3_parseSum_11 : decode cX3_parseSum 11 = .ok (.aload_n 0, 1) := by decide +kernel
theorem dX3_parseSum_12 : decode cX3_parseSum 12 = .ok (.iconst 0, 1) := by decide +kernel
theorem dX3_parseSum_13 : decode cX3_parseSum 13 = .ok (.invokevirtual 121, 3) := by decide +kernel
theorem dX3_parseSum_16 : decode cX3_parseSum 16 = .ok (.ifCond .ne 5, 3) := by decide +kernel
theorem dX3_parseSum_19 : decode cX3_parseSum 19 = .ok (.iconst 0, 1) := by decide +kernel
theorem dX3_parseSum_20 : decode cX3_parseSum 20 = .ok (.ireturn, 1) := by decide +kernel
theorem dX3_parseSum_21 : decode cX3_parseSum 21 = .ok (.iconst 0, 1) := by decide +kernel
theorem dX3_parseSum_22 : decode cX3_parseSum 22 = .ok (.istore_n 3, 1) := by decide +kernel
theorem dX3_parseSum_23 : decode cX3_parseSum 23 = .ok (.iload_n 3, 1) := by decide +kernel
theorem dX3_parseSum_24 : decode cX3_parseSum 24 = .ok (.sipush 400, 3) := by decide +kernel
theorem dX3_parseSum_27 : decode cX3_parseSum 27 = .ok (.if_icmp .ge 84, 3) := by decide +kernel
theorem dX3_parseSum_30 : decode cX3_parseSum 30 = .ok (.aload_n 0, 1) := by decide +kernel
theorem dX3_parseSum_31 : decode cX3_parseSum 31 = .ok (.getfield 32, 3) := by decide +kernel
theorem dX3_parseSum_34 : decode cX3_parseSum 34 = .ok (.getfield 44, 3) := by decide +kernel
theorem dX3_parseSum_37 : decode cX3_parseSum 37 = .ok (.bipush 42, 2) := by decide +kernel
theorem dX3_parseSum_39 : decode cX3_parseSum 39 = .ok (.if_icmp .eq 15, 3) := by decide +kernel
theorem dX3_parseSum_42 : decode cX3_parseSum 42 = .ok (.aload_n 0, 1) := by decide +kernel
theorem dX3_parseSum_43 : decode cX3_parseSum 43 = .ok (.getfield 32, 3) := by decide +kernel
theorem dX3_parseSum_46 : decode cX3_parseSum 46 = .ok (.getfield 44, 3) := by decide +kernel
theorem dX3_parseSum_49 : decode cX3_parseSum 49 = .ok (.bipush 47, 2) := by decide +kernel
theorem dX3_parseSum_51 : decode cX3_parseSum 51 = .ok (.if_icmp .ne 60, 3) := by decide +kernel
theorem dX3_parseSum_54 : decode cX3_parseSum 54 = .ok (.aload_n 0, 1) := by decide +kernel
theorem dX3_parseSum_55 : decode cX3_parseSum 55 = .ok (.getfield 32, 3) := by decide +kernel
theorem dX3_parseSum_58 : decode cX3_parseSum 58 = .ok (.getfield 44, 3) := by decide +kernel
theorem dX3_parseSum_61 : decode cX3_parseSum 61 = .ok (.istore 4, 2) := by decide +kernel
theorem dX3_parseSum_63 : decode cX3_parseSum 63 = .ok (.aload_n 0, 1) := by decide +kernel
theorem dX3_parseSum_64 : decode cX3_parseSum 64 = .ok (.getfield 32, 3) := by decide +kernel
theorem dX3_parseSum_67 : decode cX3_parseSum 67 = .ok (.invokevirtual 77, 3) := by decide +kernel
theorem dX3_parseSum_70 : decode cX3_parseSum 70 = .ok (.aload_n 0, 1) := by decide +kernel
theorem dX3_parseSum_71 : decode cX3_parseSum 71 = .ok (.iload 4, 2) := by decide +kernel
theorem dX3_parseSum_73 : decode cX3_parseSum 73 = .ok (.bipush 47, 2) := by decide +kernel
theorem dX3_parseSum_75 : decode cX3_parseSum 75 = .ok (.if_icmp .ne 7, 3) := by decide +kernel
theorem dX3_parseSum_78 : decode cX3_parseSum 78 = .ok (.iconst 1, 1) := by decide +kernel
theorem dX3_parseSum_79 : decode cX3_parseSum 79 = .ok (.goto 4, 3) := by decide +kernel
theorem dX3_parseSum_82 : decode cX3_parseSum 82 = .ok (.iconst 0, 1) := by decide +kernel
theorem dX3_parseSum_83 : decode cX3_parseSum 83 = .ok (.invokevirtual 121, 3) := by decide +kernel
theorem dX3_parseSum_86 : decode cX3_parseSum 86 = .ok (.ifCond .ne 5, 3) := by decide +kernel
theorem dX3_parseSum_89 : decode cX3_parseSum 89 = .ok (.iconst 0, 1) := by decide +kernel
theorem dX3_parseSum_90 : decode cX3_parseSum 90 = .ok (.ireturn, 1) := by decide +kernel
theorem dX3_parseSum_91 : decode cX3_parseSum 91 = .ok (.aload_n 0, 1) := by decide +kernel
theorem dX3_parseSum_92 : decode cX3_parseSum 92 = .ok (.getfield 12, 3) := by decide +kernel
theorem dX3_parseSum_95 : decode cX3_parseSum 95 = .ok (.sipush 20000, 3) := by decide +kernel
theorem dX3_parseSum_98 : decode cX3_parseSum 98 = .ok (.iload 4, 2) := by decide +kernel
theorem dX3_parseSum_100 : decode cX3_parseSum 100 = .ok (.iadd, 1) := by decide +kernel
theorem dX3_parseSum_101 : decode cX3_parseSum 101 = .ok (.invokevirtual 118, 3) := by decide +kernel
theorem dX3_parseSum_104 : decode cX3_parseSum 104 = .ok (.pop, 1) := by decide +kernel
theorem dX3_parseSum_105 : decode cX3_parseSum 105 = .ok (.iinc 3 1, 3) := by decide +kernel
theorem dX3_parseSum_108 : decode cX3_parseSum 108 = .ok (.goto (-85), 3) := by decide +kernel
theorem dX3_parseSum_111 : decode cX3_parseSum 111 = .ok (.iload_n 1, 1) := by decide +kernel
theorem dX3_parseSum_112 : decode cX3_parseSum 112 = .ok (.iconst (-1), 1) := by decide +kernel
theorem dX3_parseSum_113 : decode cX3_parseSum 113 = .ok (.if_icmp .eq 16, 3) := by decide +kernel
theorem dX3_parseSum_116 : decode cX3_parseSum 116 = .ok (.aload_n 0, 1) := by decide +kernel
theorem dX3_parseSum_117 : decode cX3_parseSum 117 = .ok (.getfield 12, 3) := by decide +kernel
theorem dX3_parseSum_120 : decode cX3_parseSum 120 = .ok (.sipush 20000, 3) := by decide +kernel
theorem dX3_parseSum_123 : decode cX3_parseSum 123 = .ok (.iload_n 1, 1) := by decide +kernel
theorem dX3_parseSum_124 : decode cX3_parseSum 124 = .ok (.iadd, 1) := by decide +kernel
theorem dX3_parseSum_125 : decode cX3_parseSum 125 = .ok (.invokevirtual 118, 3) := by decide +kernel
theorem dX3_parseSum_128 : decode cX3_parseSum 128 = .ok (.pop, 1) := by decide +kernel
theorem dX3_parseSum_129 : decode cX3_parseSum 129 = .ok (.aload_n 0, 1) := by decide +kernel
theorem dX3_parseSum_130 : decode cX3_parseSum 130 = .ok (.getfield 32, 3) := by decide +kernel
theorem dX3_parseSum_133 : decode cX3_parseSum 133 = .ok (.getfield 44, 3) := by decide +kernel
theorem dX3_parseSum_136 : decode cX3_parseSum 136 = .ok (.bipush 43, 2) := by decide +kernel
theorem dX3_parseSum_138 : decode cX3_parseSum 138 = .ok (.if_icmp .eq 17, 3) := by decide +kernel
theorem dX3_parseSum_141 : decode cX3_parseSum 141 = .ok (.aload_n 0, 1) := by decide +kernel
theorem dX3_parseSum_142 : decode cX3_parseSum 142 = .ok (.getfield 32, 3) := by decide +kernel
theorem dX3_parseSum_145 : decode cX3_parseSum 145 = .ok (.getfield 44, 3) := by decide +kernel
theorem dX3_parseSum_148 : decode cX3_parseSum 148 = .ok (.bipush 45, 2) := by decide +kernel
theorem dX3_parseSum_150 : decode cX3_parseSum 150 = .ok (.if_icmp .eq 5, 3) := by decide +kernel
theorem dX3_parseSum_153 : decode cX3_parseSum 153 = .ok (.iconst 1, 1) := by decide +kernel
theorem dX3_parseSum_154 : decode cX3_parseSum 154 = .ok (.ireturn, 1) := by decide +kernel
theorem dX3_parseSum_155 : decode cX3_parseSum 155 = .ok (.aload_n 0, 1) := by decide +kernel
theorem dX3_parseSum_156 : decode cX3_parseSum 156 = .ok (.getfield 32, 3) := by decide +kernel
theorem dX3_parseSum_159 : decode cX3_parseSum 159 = .ok (.getfield 44, 3) := by decide +kernel
theorem dX3_parseSum_162 : decode cX3_parseSum 162 = .ok (.istore_n 1, 1) := by decide +kernel
theorem dX3_parseSum_163 : decode cX3_parseSum 163 = .ok (.aload_n 0, 1) := by decide +kernel
theorem dX3_parseSum_164 : decode cX3_parseSum 164 = .ok (.getfield 32, 3) := by decide +kernel
theorem dX3_parseSum_167 : decode cX3_parseSum 167 = .ok (.invokevirtual 77, 3) := by decide +kernel
theorem dX3_parseSum_170 : decode cX3_parseSum 170 = .ok (.iinc 2 1, 3) := by decide +kernel
theorem dX3_parseSum_173 : decode cX3_parseSum 173 = .ok (.goto (-169), 3) := by decide +kernel
theorem dX3_parseSum_176 : decode cX3_parseSum 176 = .ok (.iconst 0, 1) := by decide +kernel
theorem dX3_parseSum_177 : decode cX3_parseSum 177 = .ok (.ireturn, 1) := by decide +kernel
def T_X3_parseSum_155 (B4 : Int32 → Int32 → Mm → Prop) (x2 : Int32) (M : Mm) (K : Int32 → Mm → Prop) : Prop := (∀ y1 : Int32, y1 = (M 132 6) → (T_X7_step M (fun M3 => (∀ y4 : Int32, y4 = x2 + (1 : Int32) → (B4 y1 y4 M3)))))
set_option maxHeartbeats 4000000 in
set_option maxRecDepth 100000 in
theorem w_X3_parseSum_155 {p : Program} {l : Launch} {e : Env} {s : State} {m : MethodId} {args : Array Value} {below : List Frame} {meth : Method} {c : Code} {G : fx_G} {K : Int32 → Mm → Prop} {B4 : Int32 → Int32 → Mm → Prop} (X : fx_C G p s m c args cX3_parseSum 5 RX3) (hr : meth.sig.returnType = (some .boolean)) (hk : meth.locks = false) (hB4 : ∀ (x1 : Int32) (x2 : Int32) (M : Mm) (H : Heap) (locs : List Loc) (ls : Array Slot), B4 x1 x2 M → fx_H G SH M s H locs → lv_has ls 5 [(0, .ref (G.2.2.2 + 136)), (1, .int x1), (2, .int x2)] → W p l e (fx_rm (2)) s m args below meth c H locs 0 0 (MQ below (va_Qi K (fx_R G SH) (fx_A G)) args s 0 0 (fx_A G)) (F0 m 4 ls [])) : ∀ (x2 : Int32) (M : Mm) (H : Heap) (locs : List Loc) (ls : Array Slot), T_X3_parseSum_155 B4 x2 M K → fx_H G SH M s H locs → lv_has ls 5 [(0, .ref (G.2.2.2 + 136)), (2, .int x2)] → W p l e (fx_rm (2)) s m args below meth c H locs 0 0 (MQ below (va_Qi K (fx_R G SH) (fx_A G)) args s 0 0 (fx_A G)) (F0 m 155 ls []) := by
  obtain ⟨⟨hx, hb, hml, hown, hts⟩, hK, hQ⟩ := id X
  intro x2 M H locs ls hT h hl
  unfold T_X3_parseSum_155 at hT
  refine lv_aload_n hx hb dX3_parseSum_155 rfl (lv_at hl 0 rfl) ?_
  refine fx_getR X h (k := 136) (j := 2) (r := 132) sh_136 rfl fl_RX3_32 dX3_parseSum_156 ?_
  refine fx_getI X h (k := 132) (j := 6) sh_132 rfl fl_RX3_44 dX3_parseSum_159 ?_
  refine lv_topi (fun y1 ey1 => ?_)
  have hT := hT y1 ey1
  refine lv_istore_n (lv' := [(1, .int y1), (0, .ref (G.2.2.2 + 136)), (2, .int x2)]) hx hb dX3_parseSum_162 rfl hl (by decide) rfl (fun ls hl => ?_)
  refine lv_aload_n hx hb dX3_parseSum_163 rfl (lv_at hl 1 rfl) ?_
  refine fx_getR X h (k := 136) (j := 2) (r := 132) sh_136 rfl fl_RX3_32 dX3_parseSum_164 ?_
  refine fx_vv X h ym_X7_step yi_X7_step ys_X7_step (fx_s4 (List.mem_of_getElem? (i := 177) rfl) rfl) sh_132 rfl (c_X7_step l G hT) (As := []) (rest := []) rfl rfl ⟨Nat.le_of_ble_eq_true rfl, Nat.le_of_ble_eq_true rfl⟩ ⟨Nat.le_refl _, Nat.le_refl _⟩ hl.1 (Nat.le_of_ble_eq_true rfl) dX3_parseSum_167 (fun M3 H locs hT h => ?_)
  obtain ⟨y4, ey4⟩ : ∃ z : Int32, z = x2 + (1 : Int32) := ⟨_, rfl⟩
  have hT := hT y4 ey4
  refine lv_iinc (v := y4) (lv' := [(2, .int y4), (1, .int y1), (0, .ref (G.2.2.2 + 136))]) hx hb dX3_parseSum_170 hl (k := 2) rfl (by rw [ey4]; rfl) (by decide) rfl (fun ls hl => ?_)
  refine lv_goto (tgt := 4) hx hb dX3_parseSum_173 (by decide) ?_
  exact hB4 y1 y4 M3 _ _ ls hT h (lv_sub hl [2, 1, 0] rfl)
def T_X3_parseSum_129 (B4 : Int32 → Int32 → Mm → Prop) (x2 : Int32) (M : Mm) (K : Int32 → Mm → Prop) : Prop := (((M 132 6) = (43 : Int32) → (T_X3_parseSum_155 B4 x2 M K)) ∧ (¬ (M 132 6) = (43 : Int32) → (((M 132 6) = (45 : Int32) → (T_X3_parseSum_155 B4 x2 M K)) ∧ (¬ (M 132 6) = (45 : Int32) → (K (1 : Int32) M)))))
set_option maxHeartbeats 4000000 in
set_option maxRecDepth 100000 in
theorem w_X3_parseSum_129 {p : Program} {l : Launch} {e : Env} {s : State} {m : MethodId} {args : Array Value} {below : List Frame} {meth : Method} {c : Code} {G : fx_G} {K : Int32 → Mm → Prop} {B4 : Int32 → Int32 → Mm → Prop} (X : fx_C G p s m c args cX3_parseSum 5 RX3) (hr : meth.sig.returnType = (some .boolean)) (hk : meth.locks = false) (hB4 : ∀ (x1 : Int32) (x2 : Int32) (M : Mm) (H : Heap) (locs : List Loc) (ls : Array Slot), B4 x1 x2 M → fx_H G SH M s H locs → lv_has ls 5 [(0, .ref (G.2.2.2 + 136)), (1, .int x1), (2, .int x2)] → W p l e (fx_rm (2)) s m args below meth c H locs 0 0 (MQ below (va_Qi K (fx_R G SH) (fx_A G)) args s 0 0 (fx_A G)) (F0 m 4 ls [])) : ∀ (x2 : Int32) (M : Mm) (H : Heap) (locs : List Loc) (ls : Array Slot), T_X3_parseSum_129 B4 x2 M K → fx_H G SH M s H locs → lv_has ls 5 [(0, .ref (G.2.2.2 + 136)), (2, .int x2)] → W p l e (fx_rm (2)) s m args below meth c H locs 0 0 (MQ below (va_Qi K (fx_R G SH) (fx_A G)) args s 0 0 (fx_A G)) (F0 m 129 ls []) := by
  obtain ⟨⟨hx, hb, hml, hown, hts⟩, hK, hQ⟩ := id X
  intro x2 M H locs ls hT h hl
  unfold T_X3_parseSum_129 at hT
  refine lv_aload_n hx hb dX3_parseSum_129 rfl (lv_at hl 0 rfl) ?_
  refine fx_getR X h (k := 136) (j := 2) (r := 132) sh_136 rfl fl_RX3_32 dX3_parseSum_130 ?_
  refine fx_getI X h (k := 132) (j := 6) sh_132 rfl fl_RX3_44 dX3_parseSum_133 ?_
  refine lv_bipush (v := 43) hx hb dX3_parseSum_136 (by decide) ?_
  refine lv_icmp_eq (tgt := 155) hx hb dX3_parseSum_138 (by decide) (fun hc5 => ?_) (fun hc5 => ?_)
  · have hT := hT.1 hc5
    exact w_X3_parseSum_155 X hr hk (B4 := B4) hB4 x2 M _ _ ls hT h (lv_sub hl [0, 1] rfl)
  · have hT := hT.2 hc5
    refine lv_aload_n hx hb dX3_parseSum_141 rfl (lv_at hl 0 rfl) ?_
    refine fx_getR X h (k := 136) (j := 2) (r := 132) sh_136 rfl fl_RX3_32 dX3_parseSum_142 ?_
    refine fx_getI X h (k := 132) (j := 6) sh_132 rfl fl_RX3_44 dX3_parseSum_145 ?_
    refine lv_bipush (v := 45) hx hb dX3_parseSum_148 (by decide) ?_
    refine lv_icmp_eq (tgt := 155) hx hb dX3_parseSum_150 (by decide) (fun hc6 => ?_) (fun hc6 => ?_)
    · have hT := hT.1 hc6
      exact w_X3_parseSum_155 X hr hk (B4 := B4) hB4 x2 M _ _ ls hT h (lv_sub hl [0, 1] rfl)
    · have hT := hT.2 hc6
      refine lv_iconst (v := 1) hx hb dX3_parseSum_153 (by decide) ?_
      exact fx_zret X hr hk h (Or.inr rfl) hT dX3_parseSum_154
def T_X3_parseSum_111 (B4 : Int32 → Int32 → Mm → Prop) (x1 : Int32) (x2 : Int32) (M : Mm) (K : Int32 → Mm → Prop) : Prop := ((x1 = (-1 : Int32) → (T_X3_parseSum_129 B4 x2 M K)) ∧ (¬ x1 = (-1 : Int32) → (T_X2_add 137 ((20000 : Int32) + x1) M (fun r10 M9 => (T_X3_parseSum_129 B4 x2 M9 K)))))
set_option maxHeartbeats 4000000 in
set_option maxRecDepth 100000 in
theorem w_X3_parseSum_111 {p : Program} {l : Launch} {e : Env} {s : State} {m : MethodId} {args : Array Value} {below : List Frame} {meth : Method} {c : Code} {G : fx_G} {K : Int32 → Mm → Prop} {B4 : Int32 → Int32 → Mm → Prop} (X : fx_C G p s m c args cX3_parseSum 5 RX3) (hr : meth.sig.returnType = (some .boolean)) (hk : meth.locks = false) (hB4 : ∀ (x1 : Int32) (x2 : Int32) (M : Mm) (H : Heap) (locs : List Loc) (ls : Array Slot), B4 x1 x2 M → fx_H G SH M s H locs → lv_has ls 5 [(0, .ref (G.2.2.2 + 136)), (1, .int x1), (2, .int x2)] → W p l e (fx_rm (2)) s m args below meth c H locs 0 0 (MQ below (va_Qi K (fx_R G SH) (fx_A G)) args s 0 0 (fx_A G)) (F0 m 4 ls [])) : ∀ (x1 : Int32) (x2 : Int32) (M : Mm) (H : Heap) (locs : List Loc) (ls : Array Slot), T_X3_parseSum_111 B4 x1 x2 M K → fx_H G SH M s H locs → lv_has ls 5 [(0, .ref (G.2.2.2 + 136)), (1, .int x1), (2, .int x2)] → W p l e (fx_rm (2)) s m args below meth c H locs 0 0 (MQ below (va_Qi K (fx_R G SH) (fx_A G)) args s 0 0 (fx_A G)) (F0 m 111 ls []) := by
  obtain ⟨⟨hx, hb, hml, hown, hts⟩, hK, hQ⟩ := id X
  intro x1 x2 M H locs ls hT h hl
  unfold T_X3_parseSum_111 at hT
  refine lv_iload_n hx hb dX3_parseSum_111 rfl (lv_at hl 1 rfl) ?_
  refine lv_iconst (v := -1) hx hb dX3_parseSum_112 (by decide) ?_
  refine lv_icmp_eq (tgt := 129) hx hb dX3_parseSum_113 (by decide) (fun hc7 => ?_) (fun hc7 => ?_)
  · have hT := hT.1 hc7
    exact w_X3_parseSum_129 X hr hk (B4 := B4) hB4 x2 M _ _ ls hT h (lv_sub hl [0, 2] rfl)
  · have hT := hT.2 hc7
    refine lv_aload_n hx hb dX3_parseSum_116 rfl (lv_at hl 0 rfl) ?_
    refine fx_getR X h (k := 136) (j := 0) (r := 137) sh_136 rfl fl_RX3_12 dX3_parseSum_117 ?_
    refine lv_sipush (v := 20000) hx hb dX3_parseSum_120 (by decide) ?_
    refine lv_iload_n hx hb dX3_parseSum_123 rfl (lv_at hl 1 rfl) ?_
    refine lv_iadd hx hb dX3_parseSum_124 ?_
    refine fx_vi X h ym_X2_add yi_X2_add ys_X2_add (fx_s4 (List.mem_of_getElem? (i := 189) rfl) rfl) sh_137 rfl (c_X2_add l G (by decide) hT) (As := [.int ((20000 : Int32) + x1)]) (rest := []) rfl rfl ⟨Nat.le_of_ble_eq_true rfl, Nat.le_of_ble_eq_true rfl⟩ ⟨Nat.le_refl _, Nat.le_refl _⟩ hl.1 (Nat.le_of_ble_eq_true rfl) dX3_parseSum_125 (fun r10 M9 H locs hT h => ?_)
    refine lv_pop hx hb dX3_parseSum_128 rfl ?_
    exact w_X3_parseSum_129 X hr hk (B4 := B4) hB4 x2 M9 _ _ ls hT h (lv_sub hl [0, 2] rfl)
def T_X3_parseSum_83 (B4 : Int32 → Int32 → Mm → Prop) (B23 : Int32 → Int32 → Int32 → Mm → Prop) (x1 : Int32) (x2 : Int32) (x3 : Int32) (x4 : Int32) (s1 : Int32) (M : Mm) (K : Int32 → Mm → Prop) : Prop := (T_X3_parseUnit s1 M (fun r13 M12 => ((r13 = 0 → (K (0 : Int32) M12)) ∧ (¬ r13 = 0 → (T_X2_add 137 ((20000 : Int32) + x4) M12 (fun r17 M16 => (∀ y18 : Int32, y18 = x3 + (1 : Int32) → (B23 x1 x2 y18 M16))))))))
set_option maxHeartbeats 4000000 in
set_option maxRecDepth 100000 in
theorem w_X3_parseSum_83 {p : Program} {l : Launch} {e : Env} {s : State} {m : MethodId} {args : Array Value} {below : List Frame} {meth : Method} {c : Code} {G : fx_G} {K : Int32 → Mm → Prop} {B4 : Int32 → Int32 → Mm → Prop} {B23 : Int32 → Int32 → Int32 → Mm → Prop} (X : fx_C G p s m c args cX3_parseSum 5 RX3) (hr : meth.sig.returnType = (some .boolean)) (hk : meth.locks = false) (hB4 : ∀ (x1 : Int32) (x2 : Int32) (M : Mm) (H : Heap) (locs : List Loc) (ls : Array Slot), B4 x1 x2 M → fx_H G SH M s H locs → lv_has ls 5 [(0, .ref (G.2.2.2 + 136)), (1, .int x1), (2, .int x2)] → W p l e (fx_rm (2)) s m args below meth c H locs 0 0 (MQ below (va_Qi K (fx_R G SH) (fx_A G)) args s 0 0 (fx_A G)) (F0 m 4 ls [])) (hB23 : ∀ (x1 : Int32) (x2 : Int32) (x3 : Int32) (M : Mm) (H : Heap) (locs : List Loc) (ls : Array Slot), B23 x1 x2 x3 M → fx_H G SH M s H locs → lv_has ls 5 [(0, .ref (G.2.2.2 + 136)), (1, .int x1), (2, .int x2), (3, .int x3)] → W p l e (fx_rm (2)) s m args below meth c H locs 0 0 (MQ below (va_Qi K (fx_R G SH) (fx_A G)) args s 0 0 (fx_A G)) (F0 m 23 ls [])) : ∀ (x1 : Int32) (x2 : Int32) (x3 : Int32) (x4 : Int32) (s1 : Int32) (M : Mm) (H : Heap) (locs : List Loc) (ls : Array Slot), T_X3_parseSum_83 B4 B23 x1 x2 x3 x4 s1 M K → fx_H G SH M s H locs → lv_has ls 5 [(0, .ref (G.2.2.2 + 136)), (1, .int x1), (2, .int x2), (3, .int x3), (4, .int x4)] → W p l e (fx_rm (2)) s m args below meth c H locs 0 0 (MQ below (va_Qi K (fx_R G SH) (fx_A G)) args s 0 0 (fx_A G)) (F0 m 83 ls [.int s1, .ref (G.2.2.2 + 136)]) := by
  obtain ⟨⟨hx, hb, hml, hown, hts⟩, hK, hQ⟩ := id X
  intro x1 x2 x3 x4 s1 M H locs ls hT h hl
  unfold T_X3_parseSum_83 at hT
  refine fx_vi X h ym_X3_parseUnit yi_X3_parseUnit ys_X3_parseUnit (fx_s4 (List.mem_of_getElem? (i := 185) rfl) rfl) sh_136 rfl (c_X3_parseUnit l G hT) (As := [.int s1]) (rest := []) rfl rfl ⟨Nat.le_of_ble_eq_true rfl, Nat.le_of_ble_eq_true rfl⟩ ⟨Nat.le_refl _, Nat.le_refl _⟩ hl.1 (Nat.le_of_ble_eq_true rfl) dX3_parseSum_83 (fun r13 M12 H locs hT h => ?_)
  refine lv_if_ne (tgt := 91) hx hb dX3_parseSum_86 (by decide) (fun hc14 => ?_) (fun hc14 => ?_)
  · have hT := hT.2 hc14
    refine lv_aload_n hx hb dX3_parseSum_91 rfl (lv_at hl 0 rfl) ?_
    refine fx_getR X h (k := 136) (j := 0) (r := 137) sh_136 rfl fl_RX3_12 dX3_parseSum_92 ?_
    refine lv_sipush (v := 20000) hx hb dX3_parseSum_95 (by decide) ?_
    refine lv_iload hx hb dX3_parseSum_98 (lv_at hl 4 rfl) ?_
    refine lv_iadd hx hb dX3_parseSum_100 ?_
    refine fx_vi X h ym_X2_add yi_X2_add ys_X2_add (fx_s4 (List.mem_of_getElem? (i := 189) rfl) rfl) sh_137 rfl (c_X2_add l G (by decide) hT) (As := [.int ((20000 : Int32) + x4)]) (rest := []) rfl rfl ⟨Nat.le_of_ble_eq_true rfl, Nat.le_of_ble_eq_true rfl⟩ ⟨Nat.le_refl _, Nat.le_refl _⟩ hl.1 (Nat.le_of_ble_eq_true rfl) dX3_parseSum_101 (fun r17 M16 H locs hT h => ?_)
    refine lv_pop hx hb dX3_parseSum_104 rfl ?_
    obtain ⟨y18, ey18⟩ : ∃ z : Int32, z = x3 + (1 : Int32) := ⟨_, rfl⟩
    have hT := hT y18 ey18
    refine lv_iinc (v := y18) (lv' := [(3, .int y18), (0, .ref (G.2.2.2 + 136)), (1, .int x1), (2, .int x2), (4, .int x4)]) hx hb dX3_parseSum_105 hl (k := 3) rfl (by rw [ey18]; rfl) (by decide) rfl (fun ls hl => ?_)
    refine lv_goto (tgt := 23) hx hb dX3_parseSum_108 (by decide) ?_
    exact hB23 x1 x2 y18 M16 _ _ ls hT h (lv_sub hl [1, 2, 3, 0] rfl)
  · have hT := hT.1 hc14
    refine lv_iconst (v := 0) hx hb dX3_parseSum_89 (by decide) ?_
    exact fx_zret X hr hk h (Or.inl rfl) hT dX3_parseSum_90
def T_X3_parseSum_54 (B4 : Int32 → Int32 → Mm → Prop) (B23 : Int32 → Int32 → Int32 → Mm → Prop) (x1 : Int32) (x2 : Int32) (x3 : Int32) (M : Mm) (K : Int32 → Mm → Prop) : Prop := (∀ y19 : Int32, y19 = (M 132 6) → (T_X7_step M (fun M21 => ((y19 = (47 : Int32) → (T_X3_parseSum_83 B4 B23 x1 x2 x3 y19 (1 : Int32) M21 K)) ∧ (¬ y19 = (47 : Int32) → (T_X3_parseSum_83 B4 B23 x1 x2 x3 y19 (0 : Int32) M21 K))))))
set_option maxHeartbeats 4000000 in
set_option maxRecDepth 100000 in
theorem w_X3_parseSum_54 {p : Program} {l : Launch} {e : Env} {s : State} {m : MethodId} {args : Array Value} {below : List Frame} {meth : Method} {c : Code} {G : fx_G} {K : Int32 → Mm → Prop} {B4 : Int32 → Int32 → Mm → Prop} {B23 : Int32 → Int32 → Int32 → Mm → Prop} (X : fx_C G p s m c args cX3_parseSum 5 RX3) (hr : meth.sig.returnType = (some .boolean)) (hk : meth.locks = false) (hB4 : ∀ (x1 : Int32) (x2 : Int32) (M : Mm) (H : Heap) (locs : List Loc) (ls : Array Slot), B4 x1 x2 M → fx_H G SH M s H locs → lv_has ls 5 [(0, .ref (G.2.2.2 + 136)), (1, .int x1), (2, .int x2)] → W p l e (fx_rm (2)) s m args below meth c H locs 0 0 (MQ below (va_Qi K (fx_R G SH) (fx_A G)) args s 0 0 (fx_A G)) (F0 m 4 ls [])) (hB23 : ∀ (x1 : Int32) (x2 : Int32) (x3 : Int32) (M : Mm) (H : Heap) (locs : List Loc) (ls : Array Slot), B23 x1 x2 x3 M → fx_H G SH M s H locs → lv_has ls 5 [(0, .ref (G.2.2.2 + 136)), (1, .int x1), (2, .int x2), (3, .int x3)] → W p l e (fx_rm (2)) s m args below meth c H locs 0 0 (MQ below (va_Qi K (fx_R G SH) (fx_A G)) args s 0 0 (fx_A G)) (F0 m 23 ls [])) : ∀ (x1 : Int32) (x2 : Int32) (x3 : Int32) (M : Mm) (H : Heap) (locs : List Loc) (ls : Array Slot), T_X3_parseSum_54 B4 B23 x1 x2 x3 M K → fx_H G SH M s H locs → lv_has ls 5 [(0, .ref (G.2.2.2 + 136)), (1, .int x1), (2, .int x2), (3, .int x3)] → W p l e (fx_rm (2)) s m args below meth c H locs 0 0 (MQ below (va_Qi K (fx_R G SH) (fx_A G)) args s 0 0 (fx_A G)) (F0 m 54 ls []) := by
  obtain ⟨⟨hx, hb, hml, hown, hts⟩, hK, hQ⟩ := id X
  intro x1 x2 x3 M H locs ls hT h hl
  unfold T_X3_parseSum_54 at hT
  refine lv_aload_n hx hb dX3_parseSum_54 rfl (lv_at hl 0 rfl) ?_
  refine fx_getR X h (k := 136) (j := 2) (r := 132) sh_136 rfl fl_RX3_32 dX3_parseSum_55 ?_
  refine fx_getI X h (k := 132) (j := 6) sh_132 rfl fl_RX3_44 dX3_parseSum_58 ?_
  refine lv_topi (fun y19 ey19 => ?_)
  have hT := hT y19 ey19
  refine lv_istore (lv' := [(4, .int y19), (0, .ref (G.2.2.2 + 136)), (1, .int x1), (2, .int x2), (3, .int x3)]) hx hb dX3_parseSum_61 hl (by decide) rfl (fun ls hl => ?_)
  refine lv_aload_n hx hb dX3_parseSum_63 rfl (lv_at hl 1 rfl) ?_
  refine fx_getR X h (k := 136) (j := 2) (r := 132) sh_136 rfl fl_RX3_32 dX3_parseSum_64 ?_
  refine fx_vv X h ym_X7_step yi_X7_step ys_X7_step (fx_s4 (List.mem_of_getElem? (i := 177) rfl) rfl) sh_132 rfl (c_X7_step l G hT) (As := []) (rest := []) rfl rfl ⟨Nat.le_of_ble_eq_true rfl, Nat.le_of_ble_eq_true rfl⟩ ⟨Nat.le_refl _, Nat.le_refl _⟩ hl.1 (Nat.le_of_ble_eq_true rfl) dX3_parseSum_67 (fun M21 H locs hT h => ?_)
  refine lv_aload_n hx hb dX3_parseSum_70 rfl (lv_at hl 1 rfl) ?_
  refine lv_iload hx hb dX3_parseSum_71 (lv_at hl 0 rfl) ?_
  refine lv_bipush (v := 47) hx hb dX3_parseSum_73 (by decide) ?_
  refine lv_icmp_ne (tgt := 82) hx hb dX3_parseSum_75 (by decide) (fun hc22 => ?_) (fun hc22 => ?_)
  · have hT := hT.2 hc22
    refine lv_iconst (v := 0) hx hb dX3_parseSum_82 (by decide) ?_
    exact w_X3_parseSum_83 X hr hk (B4 := B4) hB4 (B23 := B23) hB23 x1 x2 x3 y19 (0 : Int32) M21 _ _ ls hT h (lv_sub hl [1, 2, 3, 4, 0] rfl)
  · have hT := hT.1 hc22
    refine lv_iconst (v := 1) hx hb dX3_parseSum_78 (by decide) ?_
    refine lv_goto (tgt := 83) hx hb dX3_parseSum_79 (by decide) ?_
    exact w_X3_parseSum_83 X hr hk (B4 := B4) hB4 (B23 := B23) hB23 x1 x2 x3 y19 (1 : Int32) M21 _ _ ls hT h (lv_sub hl [1, 2, 3, 4, 0] rfl)
def T_X3_parseSum_23 (B4 : Int32 → Int32 → Mm → Prop) : Nat → Int32 → Int32 → Int32 → Mm → (Int32 → Mm → Prop) → Prop
  | 0, _, _, _, _, _ => False
  | n + 1, x1, x2, x3, M, K => (((400 : Int32) ≤ x3 → (T_X3_parseSum_111 B4 x1 x2 M K)) ∧ (¬ (400 : Int32) ≤ x3 → (((M 132 6) = (42 : Int32) → (T_X3_parseSum_54 B4 (fun x1 x2 x3 M => T_X3_parseSum_23 B4 n x1 x2 x3 M K) x1 x2 x3 M K)) ∧ (¬ (M 132 6) = (42 : Int32) → (((M 132 6) = (47 : Int32) → (T_X3_parseSum_54 B4 (fun x1 x2 x3 M => T_X3_parseSum_23 B4 n x1 x2 x3 M K) x1 x2 x3 M K)) ∧ (¬ (M 132 6) = (47 : Int32) → (T_X3_parseSum_111 B4 x1 x2 M K)))))))
set_option maxHeartbeats 4000000 in
set_option maxRecDepth 100000 in
theorem w_X3_parseSum_23 {p : Program} {l : Launch} {e : Env} {s : State} {m : MethodId} {args : Array Value} {below : List Frame} {meth : Method} {c : Code} {G : fx_G} {K : Int32 → Mm → Prop} {B4 : Int32 → Int32 → Mm → Prop} (X : fx_C G p s m c args cX3_parseSum 5 RX3) (hr : meth.sig.returnType = (some .boolean)) (hk : meth.locks = false) (hB4 : ∀ (x1 : Int32) (x2 : Int32) (M : Mm) (H : Heap) (locs : List Loc) (ls : Array Slot), B4 x1 x2 M → fx_H G SH M s H locs → lv_has ls 5 [(0, .ref (G.2.2.2 + 136)), (1, .int x1), (2, .int x2)] → W p l e (fx_rm (2)) s m args below meth c H locs 0 0 (MQ below (va_Qi K (fx_R G SH) (fx_A G)) args s 0 0 (fx_A G)) (F0 m 4 ls [])) : ∀ (n : Nat) (x1 : Int32) (x2 : Int32) (x3 : Int32) (M : Mm) (H : Heap) (locs : List Loc) (ls : Array Slot), T_X3_parseSum_23 B4 n x1 x2 x3 M K → fx_H G SH M s H locs → lv_has ls 5 [(0, .ref (G.2.2.2 + 136)), (1, .int x1), (2, .int x2), (3, .int x3)] → W p l e (fx_rm (2)) s m args below meth c H locs 0 0 (MQ below (va_Qi K (fx_R G SH) (fx_A G)) args s 0 0 (fx_A G)) (F0 m 23 ls []) := by
  obtain ⟨⟨hx, hb, hml, hown, hts⟩, hK, hQ⟩ := id X
  intro n
  induction n with
  | zero =>
    intro x1 x2 x3 M H locs ls hT
    exact hT.elim
  | succ n ih =>
    intro x1 x2 x3 M H locs ls hT h hl
    rw [T_X3_parseSum_23] at hT
    refine lv_iload_n hx hb dX3_parseSum_23 rfl (lv_at hl 3 rfl) ?_
    refine lv_sipush (v := 400) hx hb dX3_parseSum_24 (by decide) ?_
    refine lv_icmp_ge (tgt := 111) hx hb dX3_parseSum_27 (by decide) (fun hc23 => ?_) (fun hc23 => ?_)
    · have hT := hT.1 hc23
      exact w_X3_parseSum_111 X hr hk (B4 := B4) hB4 x1 x2 M _ _ ls hT h (lv_sub hl [0, 1, 2] rfl)
    · have hT := hT.2 hc23
      refine lv_aload_n hx hb dX3_parseSum_30 rfl (lv_at hl 0 rfl) ?_
      refine fx_getR X h (k := 136) (j := 2) (r := 132) sh_136 rfl fl_RX3_32 dX3_parseSum_31 ?_
      refine fx_getI X h (k := 132) (j := 6) sh_132 rfl fl_RX3_44 dX3_parseSum_34 ?_
      refine lv_bipush (v := 42) hx hb dX3_parseSum_37 (by decide) ?_
      refine lv_icmp_eq (tgt := 54) hx hb dX3_parseSum_39 (by decide) (fun hc24 => ?_) (fun hc24 => ?_)
      · have hT := hT.1 hc24
        exact w_X3_parseSum_54 X hr hk (B4 := B4) hB4 (B23 := (fun x1 x2 x3 M => T_X3_parseSum_23 B4 n x1 x2 x3 M K)) ih x1 x2 x3 M _ _ ls hT h (lv_sub hl [0, 1, 2, 3] rfl)
      · have hT := hT.2 hc24
        refine lv_aload_n hx hb dX3_parseSum_42 rfl (lv_at hl 0 rfl) ?_
        refine fx_getR X h (k := 136) (j := 2) (r := 132) sh_136 rfl fl_RX3_32 dX3_parseSum_43 ?_
        refine fx_getI X h (k := 132) (j := 6) sh_132 rfl fl_RX3_44 dX3_parseSum_46 ?_
        refine lv_bipush (v := 47) hx hb dX3_parseSum_49 (by decide) ?_
        refine lv_icmp_ne (tgt := 111) hx hb dX3_parseSum_51 (by decide) (fun hc25 => ?_) (fun hc25 => ?_)
        · have hT := hT.2 hc25
          exact w_X3_parseSum_111 X hr hk (B4 := B4) hB4 x1 x2 M _ _ ls hT h (lv_sub hl [0, 1, 2] rfl)
        · have hT := hT.1 hc25
          exact w_X3_parseSum_54 X hr hk (B4 := B4) hB4 (B23 := (fun x1 x2 x3 M => T_X3_parseSum_23 B4 n x1 x2 x3 M K)) ih x1 x2 x3 M _ _ ls hT h (lv_sub hl [0, 1, 2, 3] rfl)
def T_X3_parseSum_4 : Nat → Int32 → Int32 → Mm → (Int32 → Mm → Prop) → Prop
  | 0, _, _, _, _ => False
  | n + 1, x1, x2, M, K => (((400 : Int32) < x2 → (K (0 : Int32) M)) ∧ (¬ (400 : Int32) < x2 → (T_X3_parseUnit (0 : Int32) M (fun r29 M28 => ((r29 = 0 → (K (0 : Int32) M28)) ∧ (¬ r29 = 0 → (T_X3_parseSum_23 (fun x1 x2 M => T_X3_parseSum_4 n x1 x2 M K) 5000 x1 x2 (0 : Int32) M28 K)))))))
set_option maxHeartbeats 4000000 in
set_option maxRecDepth 100000 in
theorem w_X3_parseSum_4 {p : Program} {l : Launch} {e : Env} {s : State} {m : MethodId} {args : Array Value} {below : List Frame} {meth : Method} {c : Code} {G : fx_G} {K : Int32 → Mm → Prop} (X : fx_C G p s m c args cX3_parseSum 5 RX3) (hr : meth.sig.returnType = (some .boolean)) (hk : meth.locks = false) : ∀ (n : Nat) (x1 : Int32) (x2 : Int32) (M : Mm) (H : Heap) (locs : List Loc) (ls : Array Slot), T_X3_parseSum_4 n x1 x2 M K → fx_H G SH M s H locs → lv_has ls 5 [(0, .ref (G.2.2.2 + 136)), (1, .int x1), (2, .int x2)] → W p l e (fx_rm (2)) s m args below meth c H locs 0 0 (MQ below (va_Qi K (fx_R G SH) (fx_A G)) args s 0 0 (fx_A G)) (F0 m 4 ls []) := by
  obtain ⟨⟨hx, hb, hml, hown, hts⟩, hK, hQ⟩ := id X
  intro n
  induction n with
  | zero =>
    intro x1 x2 M H locs ls hT
    exact hT.elim
  | succ n ih =>
    intro x1 x2 M H locs ls hT h hl
    rw [T_X3_parseSum_4] at hT
    refine lv_iload_n hx hb dX3_parseSum_4 rfl (lv_at hl 2 rfl) ?_
    refine lv_sipush (v := 400) hx hb dX3_parseSum_5 (by decide) ?_
    refine lv_icmp_gt (tgt := 176) hx hb dX3_parseSum_8 (by decide) (fun hc26 => ?_) (fun hc26 => ?_)
    · have hT := hT.1 hc26
      refine lv_iconst (v := 0) hx hb dX3_parseSum_176 (by decide) ?_
      exact fx_zret X hr hk h (Or.inl rfl) hT dX3_parseSum_177
    · have hT := hT.2 hc26
      refine lv_aload_n hx hb dX3_parseSum_11 rfl (lv_at hl 0 rfl) ?_
      refine lv_iconst (v := 0) hx hb dX3_parseSum_12 (by decide) ?_
      refine fx_vi X h ym_X3_parseUnit yi_X3_parseUnit ys_X3_parseUnit (fx_s4 (List.mem_of_getElem? (i := 185) rfl) rfl) sh_136 rfl (c_X3_parseUnit l G hT) (As := [.int (0 : Int32)]) (rest := []) rfl rfl ⟨Nat.le_of_ble_eq_true rfl, Nat.le_of_ble_eq_true rfl⟩ ⟨Nat.le_refl _, Nat.le_refl _⟩ hl.1 (Nat.le_of_ble_eq_true rfl) dX3_parseSum_13 (fun r29 M28 H locs hT h => ?_)
      refine lv_if_ne (tgt := 21) hx hb dX3_parseSum_16 (by decide) (fun hc30 => ?_) (fun hc30 => ?_)
      · have hT := hT.2 hc30
        refine lv_iconst (v := 0) hx hb dX3_parseSum_21 (by decide) ?_
        refine lv_istore_n (lv' := [(3, .int (0 : Int32)), (0, .ref (G.2.2.2 + 136)), (1, .int x1), (2, .int x2)]) hx hb dX3_parseSum_22 rfl hl (by decide) rfl (fun ls hl => ?_)
        exact w_X3_parseSum_23 X hr hk (B4 := (fun x1 x2 M => T_X3_parseSum_4 n x1 x2 M K)) ih 5000 x1 x2 (0 : Int32) M28 _ _ ls hT h (lv_sub hl [1, 2, 3, 0] rfl)
      · have hT := hT.1 hc30
        refine lv_iconst (v := 0) hx hb dX3_parseSum_19 (by decide) ?_
        exact fx_zret X hr hk h (Or.inl rfl) hT dX3_parseSum_20
def T_X3_parseSum (M : Mm) (K : Int32 → Mm → Prop) : Prop := (T_X3_parseSum_4 5000 (-1 : Int32) (0 : Int32) M K)
set_option maxHeartbeats 4000000 in
set_option maxRecDepth 100000 in
theorem c_X3_parseSum (l : Launch) (G : fx_G) {M : Mm} {K : Int32 → Mm → Prop} (hT : T_X3_parseSum M K) : Met l yX3_parseSum (fx_ws yX3_parseSum cX3_parseSum 5 (some .boolean)) (fx_rm (2)) (va_Pc [.ref (G.2.2.2 + 136)] (fx_P G SH M)) (va_Qi K (fx_R G SH) (fx_A G)) 0 0 (fx_A G) := by
  refine fx_met (own := RX3) (by decide +kernel) rfl (Nat.le_of_ble_eq_true rfl) (fun p e s m below meth c X hr hk h ls hl => ?_)
  obtain ⟨⟨hx, hb, hml, hown, hts⟩, hK, hQ⟩ := id X
  have hl : lv_has ls 5 [(0, .ref (G.2.2.2 + 136))] := hl
  unfold T_X3_parseSum at hT
  refine lv_iconst (v := -1) hx hb dX3_parseSum_0 (by decide) ?_
  refine lv_istore_n (lv' := [(1, .int (-1 : Int32)), (0, .ref (G.2.2.2 + 136))]) hx hb dX3_parseSum_1 rfl hl (by decide) rfl (fun ls hl => ?_)
  refine lv_iconst (v := 0) hx hb dX3_parseSum_2 (by decide) ?_
  refine lv_istore_n (lv' := [(2, .int (0 : Int32)), (1, .int (-1 : Int32)), (0, .ref (G.2.2.2 + 136))]) hx hb dX3_parseSum_3 rfl hl (by decide) rfl (fun ls hl => ?_)
  exact w_X3_parseSum_4 X hr hk 5000 (-1 : Int32) (0 : Int32) M _ _ ls hT h (lv_sub hl [2, 1, 0] rfl)
