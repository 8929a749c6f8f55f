/-! MockParcels$Sums.addSize(II)V -/
theorem dX8_addSize_0 : decode cX8_addSize 0 = .ok (.iconst 0, 1) := by decide +kernel
theorem dX8_addSize_1 : decode cX8_addSize 1 = .ok (.iload_n 1, 1) := by decide +kernel
theorem dX8_addSize_2 : decode cX8_addSize 2 = .ok (.invokestatic 37, 3) := by decide +kernel
theorem dX8_addSize_5 : decode cX8_addSize 5 = .ok (.istore_n 3, 1) := by decide +kernel
theorem dX8_addSize_6 : decode cX8_addSize 6 = .ok (.iload_n 3, 1) := by decide +kernel
theorem dX8_addSize_7 : decode cX8_addSize 7 = .ok (.iload_n 2, 1) := by decide +kernel
theorem dX8_addSize_8 : decode cX8_addSize 8 = .ok (.if_icmp .gt 93, 3) := by decide +kernel
theorem dX8_addSize_11 : decode cX8_addSize 11 = .ok (.iload_n 3, 1) := by decide +kernel
theorem dX8_addSize_12 : decode cX8_addSize 12 = .ok (.sipush 999, 3) := by decide +kernel
theorem dX8_addSize_15 : decode cX8_addSize 15 = .ok (.if_icmp .gt 86, 3) := by decide +kernel
theorem dX8_addSize_18 : decode cX8_addSize 18 = .ok (.aload_n 0, 1) := by decide +kernel
theorem dX8_addSize_19 : decode cX8_addSize 19 = .ok (.getfield 11, 3) := by decide +kernel
theorem dX8_addSize_22 : decode cX8_addSize 22 = .ok (.iload_n 3, 1) := by decide +kernel
theorem dX8_addSize_23 : decode cX8_addSize 23 = .ok (.iload_n 1, 1) := by decide +kernel
theorem dX8_addSize_24 : decode cX8_addSize 24 = .ok (.isub, 1) := by decide +kernel
theorem dX8_addSize_25 : decode cX8_addSize 25 = .ok (.iaload, 1) := by decide +kernel
theorem dX8_addSize_26 : decode cX8_addSize 26 = .ok (.istore 4, 2) := by decide +kernel
theorem dX8_addSize_28 : decode cX8_addSize 28 = .ok (.iload 4, 2) := by decide +kernel
theorem dX8_addSize_30 : decode cX8_addSize 30 = .ok (.iconst (-1), 1) := by decide +kernel
theorem dX8_addSize_31 : decode cX8_addSize 31 = .ok (.if_icmp .eq 36, 3) := by decide +kernel
theorem dX8_addSize_34 : decode cX8_addSize 34 = .ok (.aload_n 0, 1) := by decide +kernel
theorem dX8_addSize_35 : decode cX8_addSize 35 = .ok (.getfield 11, 3) := by decide +kernel
theorem dX8_addSize_38 : decode cX8_addSize 38 = .ok (.iload_n 3, 1) := by decide +kernel
theorem dX8_addSize_39 : decode cX8_addSize 39 = .ok (.iaload, 1) := by decide +kernel
theorem dX8_addSize_40 : decode cX8_addSize 40 = .ok (.iconst (-1), 1) := by decide +kernel
theorem dX8_addSize_41 : decode cX8_addSize 41 = .ok (.if_icmp .eq 16, 3) := by decide +kernel
theorem dX8_addSize_44 : decode cX8_addSize 44 = .ok (.iload 4, 2) := by decide +kernel
theorem dX8_addSize_46 : decode cX8_addSize 46 = .ok (.iconst 1, 1) := by decide +kernel
theorem dX8_addSize_47 : decode cX8_addSize 47 = .ok (.iadd, 1) := by decide +kernel
theorem dX8_addSize_48 : decode cX8_addSize 48 = .ok (.aload_n 0, 1) := by decide +kernel
theorem dX8_addSize_49 : decode cX8_addSize 49 = .ok (.getfield 11, 3) := by decide +kernel
theorem dX8_addSize_52 : decode cX8_addSize 52 = .ok (.iload_n 3, 1) := by decide +kernel
theorem dX8_addSize_53 : decode cX8_addSize 53 = .ok (.iaload, 1) := by decide +kernel
theorem dX8_addSize_54 : decode cX8_addSize 54 = .ok (.if_icmp .ge 13, 3) := by decide +kernel
theorem dX8_addSize_57 : decode cX8_addSize 57 = .ok (.aload_n 0, 1) := by decide +kernel
theorem dX8_addSize_58 : decode cX8_addSize 58 = .ok (.getfield 11, 3) := by decide +kernel
theorem dX8_addSize_61 : decode cX8_addSize 61 = .ok (.iload_n 3, 1) := by decide +kernel
theorem dX8_addSize_62 : decode cX8_addSize 62 = .ok (.iload 4, 2) := by decide +kernel
theorem dX8_addSize_64 : decode cX8_addSize 64 = .ok (.iconst 1, 1) := by decide +kernel
theorem dX8_addSize_65 : decode cX8_addSize 65 = .ok (.iadd, 1) := by decide +kernel
theorem dX8_addSize_66 : decode cX8_addSize 66 = .ok (.iastore, 1) := by decide +kernel
theorem dX8_addSize_67 : decode cX8_addSize 67 = .ok (.aload_n 0, 1) := by decide +kernel
theorem dX8_addSize_68 : decode cX8_addSize 68 = .ok (.getfield 15, 3) := by decide +kernel
theorem dX8_addSize_71 : decode cX8_addSize 71 = .ok (.iload_n 3, 1) := by decide +kernel
theorem dX8_addSize_72 : decode cX8_addSize 72 = .ok (.aload_n 0, 1) := by decide +kernel
theorem dX8_addSize_73 : decode cX8_addSize 73 = .ok (.getfield 15, 3) := by decide +kernel
theorem dX8_addSize_76 : decode cX8_addSize 76 = .ok (.iload_n 3, 1) := by decide +kernel
theorem dX8_addSize_77 : decode cX8_addSize 77 = .ok (.iaload, 1) := by decide +kernel
theorem dX8_addSize_78 : decode cX8_addSize 78 = .ok (.i2l, 1) := by decide +kernel
theorem dX8_addSize_79 : decode cX8_addSize 79 = .ok (.aload_n 0, 1) := by decide +kernel
theorem dX8_addSize_80 : decode cX8_addSize 80 = .ok (.getfield 15, 3) := by decide +kernel
theorem dX8_addSize_83 : decode cX8_addSize 83 = .ok (.iload_n 3, 1) := by decide +kernel
theorem dX8_addSize_84 : decode cX8_addSize 84 = .ok (.iload_n 1, 1) := by decide +kernel
theorem dX8_addSize_85 : decode cX8_addSize 85 = .ok (.isub, 1) := by decide +kernel
theorem dX8_addSize_86 : decode cX8_addSize 86 = .ok (.iaload, 1) := by decide +kernel
theorem dX8_addSize_87 : decode cX8_addSize 87 = .ok (.i2l, 1) := by decide +kernel
theorem dX8_addSize_88 : decode cX8_addSize 88 = .ok (.ladd, 1) := by decide +kernel
theorem dX8_addSize_89 : decode cX8_addSize 89 = .ok (.ldc2_w 43, 3) := by decide +kernel
theorem dX8_addSize_92 : decode cX8_addSize 92 = .ok (.lrem, 1) := by decide +kernel
theorem dX8_addSize_93 : decode cX8_addSize 93 = .ok (.l2i, 1) := by decide +kernel
theorem dX8_addSize_94 : decode cX8_addSize 94 = .ok (.iastore, 1) := by decide +kernel
theorem dX8_addSize_95 : decode cX8_addSize 95 = .ok (.iinc 3 1, 3) := by decide +kernel
theorem dX8_addSize_98 : decode cX8_addSize 98 = .ok (.goto (-92), 3) := by decide +kernel
theorem dX8_addSize_101 : decode cX8_addSize 101 = .ok (.return_, 1) := by decide +kernel
def T_X8_addSize_67 (B6 : Int32 → Int32 → Int32 → Mm → Prop) (x1 : Int32) (x2 : Int32) (x3 : Int32) (M : Mm) (K : Mm → Prop) : Prop := (vp_in x3 1000 ∧ (vp_in (x3 - x1) 1000 ∧ (vp_in x3 1000 ∧ (∀ M3 : Mm, M3 = m_up M 153 (x3).toNatClampNeg (((((M 153 (x3).toNatClampNeg)).toInt64 + ((M 153 ((x3 - x1)).toNatClampNeg)).toInt64) - (((M 153 (x3).toNatClampNeg)).toInt64 + ((M 153 ((x3 - x1)).toNatClampNeg)).toInt64) / (1000000007 : Int64) * (1000000007 : Int64))).toInt32 → (∀ y5 : Int32, y5 = x3 + (1 : Int32) → (B6 x1 x2 y5 M3))))))
set_option maxHeartbeats 4000000 in
set_option maxRecDepth 100000 in
theorem w_X8_addSize_67 {p : Program} {l : Launch} {e : Env} {s : State} {m : MethodId} {args : Array Value} {below : List Frame} {meth : Method} {c : Code} {G : fx_G} {K : Mm → Prop} {B6 : Int32 → Int32 → Int32 → Mm → Prop} (X : fx_C G p s m c args cX8_addSize 5 RX8) (hr : meth.sig.returnType = none) (hk : meth.locks = false) (hB6 : ∀ (x1 : Int32) (x2 : Int32) (x3 : Int32) (M : Mm) (H : Heap) (locs : List Loc) (ls : Array Slot), B6 x1 x2 x3 M → fx_H G SH M s H locs → lv_has ls 5 [(0, .ref (G.2.2.2 + 151)), (1, .int x1), (2, .int x2), (3, .int x3)] → W p l e (fx_rm (1)) s m args below meth c H locs 0 0 (MQ below (va_Qv K (fx_R G SH) (fx_A G)) args s 0 0 (fx_A G)) (F0 m 6 ls [])) : ∀ (x1 : Int32) (x2 : Int32) (x3 : Int32) (M : Mm) (H : Heap) (locs : List Loc) (ls : Array Slot), T_X8_addSize_67 B6 x1 x2 x3 M K → fx_H G SH M s H locs → lv_has ls 5 [(0, .ref (G.2.2.2 + 151)), (1, .int x1), (2, .int x2), (3, .int x3)] → W p l e (fx_rm (1)) s m args below meth c H locs 0 0 (MQ below (va_Qv K (fx_R G SH) (fx_A G)) args s 0 0 (fx_A G)) (F0 m 67 ls []) := by
  obtain ⟨⟨hx, hb, hml, hown, hts⟩, hK, hQ⟩ := id X
  intro x1 x2 x3 M H locs ls hT h hl
  unfold T_X8_addSize_67 at hT
  refine lv_aload_n hx hb dX8_addSize_67 rfl (lv_at hl 0 rfl) ?_
  refine fx_getR X h (k := 151) (j := 1) (r := 153) sh_151 rfl fl_RX8_15 dX8_addSize_68 ?_
  refine lv_iload_n hx hb dX8_addSize_71 rfl (lv_at hl 3 rfl) ?_
  refine lv_aload_n hx hb dX8_addSize_72 rfl (lv_at hl 0 rfl) ?_
  refine fx_getR X h (k := 151) (j := 1) (r := 153) sh_151 rfl fl_RX8_15 dX8_addSize_73 ?_
  refine lv_iload_n hx hb dX8_addSize_76 rfl (lv_at hl 3 rfl) ?_
  obtain ⟨hi1, hT⟩ := hT
  refine fx_iald X h (k := 153) sh_153 hi1 dX8_addSize_77 ?_
  refine lv_i2l hx hb dX8_addSize_78 rfl ?_
  refine lv_aload_n hx hb dX8_addSize_79 rfl (lv_at hl 0 rfl) ?_
  refine fx_getR X h (k := 151) (j := 1) (r := 153) sh_151 rfl fl_RX8_15 dX8_addSize_80 ?_
  refine lv_iload_n hx hb dX8_addSize_83 rfl (lv_at hl 3 rfl) ?_
  refine lv_iload_n hx hb dX8_addSize_84 rfl (lv_at hl 1 rfl) ?_
  refine lv_isub hx hb dX8_addSize_85 ?_
  obtain ⟨hi2, hT⟩ := hT
  refine fx_iald X h (k := 153) sh_153 hi2 dX8_addSize_86 ?_
  refine lv_i2l hx hb dX8_addSize_87 rfl ?_
  refine lv_ladd hx hb dX8_addSize_88 ?_
  refine lv_ldc2 (v := 1000000007) hx hb hown (hts _ (fx_s5 (List.mem_of_getElem? (i := 90) rfl) rfl)) dX8_addSize_89 ?_
  refine lv_lrem hx hb dX8_addSize_92 (by decide) ?_
  refine lv_l2i hx hb dX8_addSize_93 rfl ?_
  obtain ⟨hi4, hT⟩ := hT
  refine fx_iast X h (k := 153) sh_153 hi4 dX8_addSize_94 (fun H locs h => ?_)
  obtain ⟨M3, eM3⟩ : ∃ z : Mm, z = m_up M 153 (x3).toNatClampNeg (((((M 153 (x3).toNatClampNeg)).toInt64 + ((M 153 ((x3 - x1)).toNatClampNeg)).toInt64) - (((M 153 (x3).toNatClampNeg)).toInt64 + ((M 153 ((x3 - x1)).toNatClampNeg)).toInt64) / (1000000007 : Int64) * (1000000007 : Int64))).toInt32 := ⟨_, rfl⟩
  have hT := hT M3 eM3
  rw [← eM3] at h
  obtain ⟨y5, ey5⟩ : ∃ z : Int32, z = x3 + (1 : Int32) := ⟨_, rfl⟩
  have hT := hT y5 ey5
  refine lv_iinc (v := y5) (lv' := [(3, .int y5), (0, .ref (G.2.2.2 + 151)), (1, .int x1), (2, .int x2)]) hx hb dX8_addSize_95 hl (k := 3) rfl (by rw [ey5]; rfl) (by decide) rfl (fun ls hl => ?_)
  refine lv_goto (tgt := 6) hx hb dX8_addSize_98 (by decide) ?_
  exact hB6 x1 x2 y5 M3 _ _ ls hT h (lv_sub hl [1, 2, 3, 0] rfl)
def T_X8_addSize_57 (B6 : Int32 → Int32 → Int32 → Mm → Prop) (x1 : Int32) (x2 : Int32) (x3 : Int32) (x4 : Int32) (M : Mm) (K : Mm → Prop) : Prop := (vp_in x3 1000 ∧ (∀ M6 : Mm, M6 = m_up M 152 (x3).toNatClampNeg (x4 + (1 : Int32)) → (T_X8_addSize_67 B6 x1 x2 x3 M6 K)))
set_option maxHeartbeats 4000000 in
set_option maxRecDepth 100000 in
theorem w_X8_addSize_57 {p : Program} {l : Launch} {e : Env} {s : State} {m : MethodId} {args : Array Value} {below : List Frame} {meth : Method} {c : Code} {G : fx_G} {K : Mm → Prop} {B6 : Int32 → Int32 → Int32 → Mm → Prop} (X : fx_C G p s m c args cX8_addSize 5 RX8) (hr : meth.sig.returnType = none) (hk : meth.locks = false) (hB6 : ∀ (x1 : Int32) (x2 : Int32) (x3 : Int32) (M : Mm) (H : Heap) (locs : List Loc) (ls : Array Slot), B6 x1 x2 x3 M → fx_H G SH M s H locs → lv_has ls 5 [(0, .ref (G.2.2.2 + 151)), (1, .int x1), (2, .int x2), (3, .int x3)] → W p l e (fx_rm (1)) s m args below meth c H locs 0 0 (MQ below (va_Qv K (fx_R G SH) (fx_A G)) args s 0 0 (fx_A G)) (F0 m 6 ls [])) : ∀ (x1 : Int32) (x2 : Int32) (x3 : Int32) (x4 : Int32) (M : Mm) (H : Heap) (locs : List Loc) (ls : Array Slot), T_X8_addSize_57 B6 x1 x2 x3 x4 M K → fx_H G SH M s H locs → lv_has ls 5 [(0, .ref (G.2.2.2 + 151)), (1, .int x1), (2, .int x2), (3, .int x3), (4, .int x4)] → W p l e (fx_rm (1)) s m args below meth c H locs 0 0 (MQ below (va_Qv K (fx_R G SH) (fx_A G)) args s 0 0 (fx_A G)) (F0 m 57 ls []) := by
  obtain ⟨⟨hx, hb, hml, hown, hts⟩, hK, hQ⟩ := id X
  intro x1 x2 x3 x4 M H locs ls hT h hl
  unfold T_X8_addSize_57 at hT
  refine lv_aload_n hx hb dX8_addSize_57 rfl (lv_at hl 0 rfl) ?_
  refine fx_getR X h (k := 151) (j := 0) (r := 152) sh_151 rfl fl_RX8_11 dX8_addSize_58 ?_
  refine lv_iload_n hx hb dX8_addSize_61 rfl (lv_at hl 3 rfl) ?_
  refine lv_iload hx hb dX8_addSize_62 (lv_at hl 4 rfl) ?_
  refine lv_iconst (v := 1) hx hb dX8_addSize_64 (by decide) ?_
  refine lv_iadd hx hb dX8_addSize_65 ?_
  obtain ⟨hi7, hT⟩ := hT
  refine fx_iast X h (k := 152) sh_152 hi7 dX8_addSize_66 (fun H locs h => ?_)
  obtain ⟨M6, eM6⟩ : ∃ z : Mm, z = m_up M 152 (x3).toNatClampNeg (x4 + (1 : Int32)) := ⟨_, rfl⟩
  have hT := hT M6 eM6
  rw [← eM6] at h
  exact w_X8_addSize_67 X hr hk (B6 := B6) hB6 x1 x2 x3 M6 _ _ ls hT h (lv_sub hl [0, 1, 2, 3] rfl)
def T_X8_addSize_6 : Nat → Int32 → Int32 → Int32 → Mm → (Mm → Prop) → Prop
  | 0, _, _, _, _, _ => False
  | n + 1, x1, x2, x3, M, K => ((x2 < x3 → (K M)) ∧ (¬ x2 < x3 → (((999 : Int32) < x3 → (K M)) ∧ (¬ (999 : Int32) < x3 → (vp_in (x3 - x1) 1000 ∧ (∀ y11 : Int32, y11 = (M 152 ((x3 - x1)).toNatClampNeg) → ((y11 = (-1 : Int32) → (T_X8_addSize_67 (fun x1 x2 x3 M => T_X8_addSize_6 n x1 x2 x3 M K) x1 x2 x3 M K)) ∧ (¬ y11 = (-1 : Int32) → (vp_in x3 1000 ∧ (((M 152 (x3).toNatClampNeg) = (-1 : Int32) → (T_X8_addSize_57 (fun x1 x2 x3 M => T_X8_addSize_6 n x1 x2 x3 M K) x1 x2 x3 y11 M K)) ∧ (¬ (M 152 (x3).toNatClampNeg) = (-1 : Int32) → (vp_in x3 1000 ∧ (((M 152 (x3).toNatClampNeg) ≤ (y11 + (1 : Int32)) → (T_X8_addSize_67 (fun x1 x2 x3 M => T_X8_addSize_6 n x1 x2 x3 M K) x1 x2 x3 M K)) ∧ (¬ (M 152 (x3).toNatClampNeg) ≤ (y11 + (1 : Int32)) → (T_X8_addSize_57 (fun x1 x2 x3 M => T_X8_addSize_6 n x1 x2 x3 M K) x1 x2 x3 y11 M K)))))))))))))))
set_option maxHeartbeats 4000000 in
set_option maxRecDepth 100000 in
theorem w_X8_addSize_6 {p : Program} {l : Launch} {e : Env} {s : State} {m : MethodId} {args : Array Value} {below : List Frame} {meth : Method} {c : Code} {G : fx_G} {K : Mm → Prop} (X : fx_C G p s m c args cX8_addSize 5 RX8) (hr : meth.sig.returnType = none) (hk : meth.locks = false) : ∀ (n : Nat) (x1 : Int32) (x2 : Int32) (x3 : Int32) (M : Mm) (H : Heap) (locs : List Loc) (ls : Array Slot), T_X8_addSize_6 n x1 x2 x3 M K → fx_H G SH M s H locs → lv_has ls 5 [(0, .ref (G.2.2.2 + 151)), (1, .int x1), (2, .int x2), (3, .int x3)] → W p l e (fx_rm (1)) s m args below meth c H locs 0 0 (MQ below (va_Qv K (fx_R G SH) (fx_A G)) args s 0 0 (fx_A G)) (F0 m 6 ls []) := by
  obtain ⟨⟨hx, hb, hml, hown, hts⟩, hK, hQ⟩ := id X
  intro n
  induction n with
  | zero =>
    intro x1 x2 x3 M H locs ls hT
    exact hT.elim
  | succ n ih =>
    intro x1 x2 x3 M H locs ls hT h hl
    rw [T_X8_addSize_6] at hT
    refine lv_iload_n hx hb dX8_addSize_6 rfl (lv_at hl 3 rfl) ?_
    refine lv_iload_n hx hb dX8_addSize_7 rfl (lv_at hl 2 rfl) ?_
    refine lv_icmp_gt (tgt := 101) hx hb dX8_addSize_8 (by decide) (fun hc8 => ?_) (fun hc8 => ?_)
    · have hT := hT.1 hc8
      exact fx_vret X hr hk h hT dX8_addSize_101
    · have hT := hT.2 hc8
      refine lv_iload_n hx hb dX8_addSize_11 rfl (lv_at hl 3 rfl) ?_
      refine lv_sipush (v := 999) hx hb dX8_addSize_12 (by decide) ?_
      refine lv_icmp_gt (tgt := 101) hx hb dX8_addSize_15 (by decide) (fun hc9 => ?_) (fun hc9 => ?_)
      · have hT := hT.1 hc9
        exact fx_vret X hr hk h hT dX8_addSize_101
      · have hT := hT.2 hc9
        refine lv_aload_n hx hb dX8_addSize_18 rfl (lv_at hl 0 rfl) ?_
        refine fx_getR X h (k := 151) (j := 0) (r := 152) sh_151 rfl fl_RX8_11 dX8_addSize_19 ?_
        refine lv_iload_n hx hb dX8_addSize_22 rfl (lv_at hl 3 rfl) ?_
        refine lv_iload_n hx hb dX8_addSize_23 rfl (lv_at hl 1 rfl) ?_
        refine lv_isub hx hb dX8_addSize_24 ?_
        obtain ⟨hi10, hT⟩ := hT
        refine fx_iald X h (k := 152) sh_152 hi10 dX8_addSize_25 ?_
        refine lv_topi (fun y11 ey11 => ?_)
        have hT := hT y11 ey11
        refine lv_istore (lv' := [(4, .int y11), (0, .ref (G.2.2.2 + 151)), (1, .int x1), (2, .int x2), (3, .int x3)]) hx hb dX8_addSize_26 hl (by decide) rfl (fun ls hl => ?_)
        refine lv_iload hx hb dX8_addSize_28 (lv_at hl 0 rfl) ?_
        refine lv_iconst (v := -1) hx hb dX8_addSize_30 (by decide) ?_
        refine lv_icmp_eq (tgt := 67) hx hb dX8_addSize_31 (by decide) (fun hc12 => ?_) (fun hc12 => ?_)
        · have hT := hT.1 hc12
          exact w_X8_addSize_67 X hr hk (B6 := (fun x1 x2 x3 M => T_X8_addSize_6 n x1 x2 x3 M K)) ih x1 x2 x3 M _ _ ls hT h (lv_sub hl [1, 2, 3, 4] rfl)
        · have hT := hT.2 hc12
          refine lv_aload_n hx hb dX8_addSize_34 rfl (lv_at hl 1 rfl) ?_
          refine fx_getR X h (k := 151) (j := 0) (r := 152) sh_151 rfl fl_RX8_11 dX8_addSize_35 ?_
          refine lv_iload_n hx hb dX8_addSize_38 rfl (lv_at hl 4 rfl) ?_
          obtain ⟨hi13, hT⟩ := hT
          refine fx_iald X h (k := 152) sh_152 hi13 dX8_addSize_39 ?_
          refine lv_iconst (v := -1) hx hb dX8_addSize_40 (by decide) ?_
          refine lv_icmp_eq (tgt := 57) hx hb dX8_addSize_41 (by decide) (fun hc14 => ?_) (fun hc14 => ?_)
          · have hT := hT.1 hc14
            exact w_X8_addSize_57 X hr hk (B6 := (fun x1 x2 x3 M => T_X8_addSize_6 n x1 x2 x3 M K)) ih x1 x2 x3 y11 M _ _ ls hT h (lv_sub hl [1, 2, 3, 4, 0] rfl)
          · have hT := hT.2 hc14
            refine lv_iload hx hb dX8_addSize_44 (lv_at hl 0 rfl) ?_
            refine lv_iconst (v := 1) hx hb dX8_addSize_46 (by decide) ?_
            refine lv_iadd hx hb dX8_addSize_47 ?_
            refine lv_aload_n hx hb dX8_addSize_48 rfl (lv_at hl 1 rfl) ?_
            refine fx_getR X h (k := 151) (j := 0) (r := 152) sh_151 rfl fl_RX8_11 dX8_addSize_49 ?_
            refine lv_iload_n hx hb dX8_addSize_52 rfl (lv_at hl 4 rfl) ?_
            obtain ⟨hi15, hT⟩ := hT
            refine fx_iald X h (k := 152) sh_152 hi15 dX8_addSize_53 ?_
            refine lv_icmp_ge (tgt := 67) hx hb dX8_addSize_54 (by decide) (fun hc16 => ?_) (fun hc16 => ?_)
            · have hT := hT.1 hc16
              exact w_X8_addSize_67 X hr hk (B6 := (fun x1 x2 x3 M => T_X8_addSize_6 n x1 x2 x3 M K)) ih x1 x2 x3 M _ _ ls hT h (lv_sub hl [1, 2, 3, 4] rfl)
            · have hT := hT.2 hc16
              exact w_X8_addSize_57 X hr hk (B6 := (fun x1 x2 x3 M => T_X8_addSize_6 n x1 x2 x3 M K)) ih x1 x2 x3 y11 M _ _ ls hT h (lv_sub hl [1, 2, 3, 4, 0] rfl)
def T_X8_addSize (x1 : Int32) (x2 : Int32) (M : Mm) (K : Mm → Prop) : Prop := (∀ y17 : Int32, y17 = (if (0 : Int32) < x1 then x1 else (0 : Int32)) → (T_X8_addSize_6 5000 x1 x2 y17 M K))
set_option maxHeartbeats 4000000 in
set_option maxRecDepth 100000 in
theorem c_X8_addSize (l : Launch) (G : fx_G) {x1 : Int32} {x2 : Int32} {M : Mm} {K : Mm → Prop} (hT : T_X8_addSize x1 x2 M K) : Met l yX8_addSize (fx_ws yX8_addSize cX8_addSize 5 none) (fx_rm (1)) (va_Pc [.ref (G.2.2.2 + 151), .int x1, .int x2] (fx_P G SH M)) (va_Qv K (fx_R G SH) (fx_A G)) 0 0 (fx_A G) := by
  refine fx_met (own := RX8) (by decide +kernel) rfl (Nat.le_of_ble_eq_true rfl) (fun p e s m below meth c X hr hk h ls hl => ?_)
  obtain ⟨⟨hx, hb, hml, hown, hts⟩, hK, hQ⟩ := id X
  have hl : lv_has ls 5 [(0, .ref (G.2.2.2 + 151)), (1, .int x1), (2, .int x2)] := hl
  unfold T_X8_addSize at hT
  refine lv_iconst (v := 0) hx hb dX8_addSize_0 (by decide) ?_
  refine lv_iload_n hx hb dX8_addSize_1 rfl (lv_at hl 1 rfl) ?_
  refine va_mmax hx hb (hml.trans hl.1.symm) hown (hts _ (fx_s5 (List.mem_of_getElem? (i := 89) rfl) rfl)) (hts _ mt_max_s) (hts _ mt_i) (hts _ mt_max_c) (Nat.le_of_ble_eq_true rfl) (Nat.le_of_ble_eq_true rfl) (Nat.le_refl _) (Nat.le_refl _) dX8_addSize_2 ?_
  refine lv_topi (fun y17 ey17 => ?_)
  have hT := hT y17 ey17
  refine lv_istore_n (lv' := [(3, .int y17), (0, .ref (G.2.2.2 + 151)), (1, .int x1), (2, .int x2)]) hx hb dX8_addSize_5 rfl hl (by decide) rfl (fun ls hl => ?_)
  exact w_X8_addSize_6 X hr hk 5000 x1 x2 y17 M _ _ ls hT h (lv_sub hl [1, 2, 3, 0] rfl)
/-! MockParcels$Sums.change([III)V -/
theorem dX8_change_0 : decode cX8_change 0 = .ok (.iconst 0, 1) := by decide +kernel
theorem dX8_change_1 : decode cX8_change 1 = .ok (.istore 4, 2) := by decide +kernel
theorem dX8_change_3 : decode cX8_change 3 = .ok (.iload 4, 2) := by decide +kernel
theorem dX8_change_5 : decode cX8_change 5 = .ok (.iload_n 3, 1) := by decide +kernel
theorem dX8_change_6 : decode cX8_change 6 = .ok (.if_icmp .gt 51, 3) := by decide +kernel
theorem dX8_change_9 : decode cX8_change 9 = .ok (.iload 4, 2) := by decide +kernel
theorem dX8_change_11 : decode cX8_change 11 = .ok (.sipush 999, 3) := by decide +kernel
theorem dX8_change_14 : decode cX8_change 14 = .ok (.if_icmp .gt 43, 3) := by decide +kernel
theorem dX8_change_17 : decode cX8_change 17 = .ok (.aload_n 0, 1) := by decide +kernel
theorem dX8_change_18 : decode cX8_change 18 = .ok (.getfield 11, 3) := by decide +kernel
theorem dX8_change_21 : decode cX8_change 21 = .ok (.iload 4, 2) := by decide +kernel
theorem dX8_change_23 : decode cX8_change 23 = .ok (.iload 4, 2) := by decide +kernel
theorem dX8_change_25 : decode cX8_change 25 = .ok (.ifCond .ne 7, 3) := by decide +kernel
theorem dX8_change_28 : decode cX8_change 28 = .ok (.iconst 0, 1) := by decide +kernel
theorem dX8_change_29 : decode cX8_change 29 = .ok (.goto 4, 3) := by decide +kernel
theorem dX8_change_32 : decode cX8_change 32 = .ok (.iconst (-1), 1) := by decide +kernel
theorem dX8_change_33 : decode cX8_change 33 = .ok (.iastore, 1) := by decide +kernel
theorem dX8_change_34 : decode cX8_change 34 = .ok (.aload_n 0, 1) := by decide +kernel
theorem dX8_change_35 : decode cX8_change 35 = .ok (.getfield 15, 3) := by decide +kernel
theorem dX8_change_38 : decode cX8_change 38 = .ok (.iload 4, 2) := by decide +kernel
theorem dX8_change_40 : decode cX8_change 40 = .ok (.iload 4, 2) := by decide +kernel
theorem dX8_change_42 : decode cX8_change 42 = .ok (.ifCond .ne 7, 3) := by decide +kernel
theorem dX8_change_45 : decode cX8_change 45 = .ok (.iconst 1, 1) := by decide +kernel
theorem dX8_change_46 : decode cX8_change 46 = .ok (.goto 4, 3) := by decide +kernel
theorem dX8_change_49 : decode cX8_change 49 = .ok (.iconst 0, 1) := by decide +kernel
theorem dX8_change_50 : decode cX8_change 50 = .ok (.iastore, 1) := by decide +kernel
theorem dX8_change_51 : decode cX8_change 51 = .ok (.iinc 4 1, 3) := by decide +kernel
theorem dX8_change_54 : decode cX8_change 54 = .ok (.goto (-51), 3) := by decide +kernel
theorem dX8_change_57 : decode cX8_change 57 = .ok (.iconst 0, 1) := by decide +kernel
theorem dX8_change_58 : decode cX8_change 58 = .ok (.istore 4, 2) := by decide +kernel
theorem dX8_change_60 : decode cX8_change 60 = .ok (.iload 4, 2) := by decide +kernel
theorem dX8_change_62 : decode cX8_change 62 = .ok (.iload_n 2, 1) := by decide +kernel
theorem dX8_change_63 : decode cX8_change 63 = .ok (.if_icmp .ge 32, 3) := by decide +kernel
theorem dX8_change_66 : decode cX8_change 66 = .ok (.iload 4, 2) := by decide +kernel
theorem dX8_change_68 : decode cX8_change 68 = .ok (.aload_n 1, 1) := by decide +kernel
theorem dX8_change_69 : decode cX8_change 69 = .ok (.arraylength, 1) := by decide +kernel
theorem dX8_change_70 : decode cX8_change 70 = .ok (.if_icmp .ge 25, 3) := by decide +kernel
theorem dX8_change_73 : decode cX8_change 73 = .ok (.aload_n 1, 1) := by decide +kernel
theorem dX8_change_74 : decode cX8_change 74 = .ok (.iload 4, 2) := by decide +kernel
theorem dX8_change_76 : decode cX8_change 76 = .ok (.iaload, 1) := by decide +kernel
theorem dX8_change_77 : decode cX8_change 77 = .ok (.ifCond .le 12, 3) := by decide +kernel
theorem dX8_change_80 : decode cX8_change 80 = .ok (.aload_n 0, 1) := by decide +kernel
theorem dX8_change_81 : decode cX8_change 81 = .ok (.aload_n 1, 1) := by decide +kernel
theorem dX8_change_82 : decode cX8_change 82 = .ok (.iload 4, 2) := by decide +kernel
theorem dX8_change_84 : decode cX8_change 84 = .ok (.iaload, 1) := by decide +kernel
theorem dX8_change_85 : decode cX8_change 85 = .ok (.iload_n 3, 1) := by decide +kernel
theorem dX8_change_86 : decode cX8_change 86 = .ok (.invokevirtual 33, 3) := by decide +kernel
theorem dX8_change_89 : decode cX8_change 89 = .ok (.iinc 4 1, 3) := by decide +kernel
theorem dX8_change_92 : decode cX8_change 92 = .ok (.goto (-32), 3) := by decide +kernel
theorem dX8_change_95 : decode cX8_change 95 = .ok (.return_, 1) := by decide +kernel
def T_X8_change_89 (B60 : Int32 → Int32 → Int32 → Mm → Prop) (a1 : Nat) (x2 : Int32) (x3 : Int32) (x4 : Int32) (M : Mm) (K : Mm → Prop) : Prop := (∀ y1 : Int32, y1 = x4 + (1 : Int32) → (B60 x2 x3 y1 M))
set_option maxHeartbeats 4000000 in
set_option maxRecDepth 100000 in
theorem w_X8_change_89 {p : Program} {l : Launch} {e : Env} {s : State} {m : MethodId} {args : Array Value} {below : List Frame} {meth : Method} {c : Code} {G : fx_G} {K : Mm → Prop} {B60 : Int32 → Int32 → Int32 → Mm → Prop} {a1 : Nat} (ha1 : SH[a1]? = some (.inl (ln a1))) (X : fx_C G p s m c args cX8_change 5 RX8) (hr : meth.sig.returnType = none) (hk : meth.locks = false) (hB60 : ∀ (x2 : Int32) (x3 : Int32) (x4 : Int32) (M : Mm) (H : Heap) (locs : List Loc) (ls : Array Slot), B60 x2 x3 x4 M → fx_H G SH M s H locs → lv_has ls 5 [(0, .ref (G.2.2.2 + 151)), (1, .ref (G.2.2.2 + a1)), (2, .int x2), (3, .int x3), (4, .int x4)] → W p l e (fx_rm (2)) s m args below meth c H locs 0 0 (MQ below (va_Qv K (fx_R G SH) (fx_A G)) args s 0 0 (fx_A G)) (F0 m 60 ls [])) : ∀ (x2 : Int32) (x3 : Int32) (x4 : Int32) (M : Mm) (H : Heap) (locs : List Loc) (ls : Array Slot), T_X8_change_89 B60 a1 x2 x3 x4 M K → fx_H G SH M s H locs → lv_has ls 5 [(0, .ref (G.2.2.2 + 151)), (1, .ref (G.2.2.2 + a1)), (2, .int x2), (3, .int x3), (4, .int x4)] → W p l e (fx_rm (2)) s m args below meth c H locs 0 0 (MQ below (va_Qv K (fx_R G SH) (fx_A G)) args s 0 0 (fx_A G)) (F0 m 89 ls []) := by
  obtain ⟨⟨hx, hb, hml, hown, hts⟩, hK, hQ⟩ := id X
  intro x2 x3 x4 M H locs ls hT h hl
  unfold T_X8_change_89 at hT
  obtain ⟨y1, ey1⟩ : ∃ z : Int32, z = x4 + (1 : Int32) := ⟨_, rfl⟩
  have hT := hT y1 ey1
  refine lv_iinc (v := y1) (lv' := [(4, .int y1), (0, .ref (G.2.2.2 + 151)), (1, .ref (G.2.2.2 + a1)), (2, .int x2), (3, .int x3)]) hx hb dX8_change_89 hl (k := 4) rfl (by rw [ey1]; rfl) (by decide) rfl (fun ls hl => ?_)
  refine lv_goto (tgt := 60) hx hb dX8_change_92 (by decide) ?_
  exact hB60 x2 x3 y1 M _ _ ls hT h (lv_sub hl [1, 2, 3, 4, 0] rfl)
def T_X8_change_60 (a1 : Nat) : Nat → Int32 → Int32 → Int32 → Mm → (Mm → Prop) → Prop
  | 0, _, _, _, _, _ => False
  | n + 1, x2, x3, x4, M, K => ((x2 ≤ x4 → (K M)) ∧ (¬ x2 ≤ x4 → (((nI (ln a1)) ≤ x4 → (K M)) ∧ (¬ (nI (ln a1)) ≤ x4 → (vp_in x4 (ln a1) ∧ (((M a1 (x4).toNatClampNeg) ≤ 0 → (T_X8_change_89 (fun x2 x3 x4 M => T_X8_change_60 a1 n x2 x3 x4 M K) a1 x2 x3 x4 M K)) ∧ (¬ (M a1 (x4).toNatClampNeg) ≤ 0 → (vp_in x4 (ln a1) ∧ (T_X8_addSize (M a1 (x4).toNatClampNeg) x3 M (fun M8 => (T_X8_change_89 (fun x2 x3 x4 M => T_X8_change_60 a1 n x2 x3 x4 M K) a1 x2 x3 x4 M8 K)))))))))))
set_option maxHeartbeats 4000000 in
set_option maxRecDepth 100000 in
theorem w_X8_change_60 {p : Program} {l : Launch} {e : Env} {s : State} {m : MethodId} {args : Array Value} {below : List Frame} {meth : Method} {c : Code} {G : fx_G} {K : Mm → Prop} {a1 : Nat} (ha1 : SH[a1]? = some (.inl (ln a1))) (X : fx_C G p s m c args cX8_change 5 RX8) (hr : meth.sig.returnType = none) (hk : meth.locks = false) : ∀ (n : Nat) (x2 : Int32) (x3 : Int32) (x4 : Int32) (M : Mm) (H : Heap) (locs : List Loc) (ls : Array Slot), T_X8_change_60 a1 n x2 x3 x4 M K → fx_H G SH M s H locs → lv_has ls 5 [(0, .ref (G.2.2.2 + 151)), (1, .ref (G.2.2.2 + a1)), (2, .int x2), (3, .int x3), (4, .int x4)] → W p l e (fx_rm (2)) s m args below meth c H locs 0 0 (MQ below (va_Qv K (fx_R G SH) (fx_A G)) args s 0 0 (fx_A G)) (F0 m 60 ls []) := by
  obtain ⟨⟨hx, hb, hml, hown, hts⟩, hK, hQ⟩ := id X
  intro n
  induction n with
  | zero =>
    intro x2 x3 x4 M H locs ls hT
    exact hT.elim
  | succ n ih =>
    intro x2 x3 x4 M H locs ls hT h hl
    rw [T_X8_change_60] at hT
    refine lv_iload hx hb dX8_change_60 (lv_at hl 4 rfl) ?_
    refine lv_iload_n hx hb dX8_change_62 rfl (lv_at hl 2 rfl) ?_
    refine lv_icmp_ge (tgt := 95) hx hb dX8_change_63 (by decide) (fun hc2 => ?_) (fun hc2 => ?_)
    · have hT := hT.1 hc2
      exact fx_vret X hr hk h hT dX8_change_95
    · have hT := hT.2 hc2
      refine lv_iload hx hb dX8_change_66 (lv_at hl 4 rfl) ?_
      refine lv_aload_n hx hb dX8_change_68 rfl (lv_at hl 1 rfl) ?_
      refine fx_alen X h (k := a1) ha1 dX8_change_69 ?_
      refine lv_icmp_ge (tgt := 95) hx hb dX8_change_70 (by decide) (fun hc3 => ?_) (fun hc3 => ?_)
      · have hT := hT.1 hc3
        exact fx_vret X hr hk h hT dX8_change_95
      · have hT := hT.2 hc3
        refine lv_aload_n hx hb dX8_change_73 rfl (lv_at hl 1 rfl) ?_
        refine lv_iload hx hb dX8_change_74 (lv_at hl 4 rfl) ?_
        obtain ⟨hi4, hT⟩ := hT
        refine fx_iald X h (k := a1) ha1 hi4 dX8_change_76 ?_
        refine lv_if_le (tgt := 89) hx hb dX8_change_77 (by decide) (fun hc5 => ?_) (fun hc5 => ?_)
        · have hT := hT.1 hc5
          exact w_X8_change_89 ha1 X hr hk (B60 := (fun x2 x3 x4 M => T_X8_change_60 a1 n x2 x3 x4 M K)) ih x2 x3 x4 M _ _ ls hT h (lv_sub hl [0, 1, 2, 3, 4] rfl)
        · have hT := hT.2 hc5
          refine lv_aload_n hx hb dX8_change_80 rfl (lv_at hl 0 rfl) ?_
          refine lv_aload_n hx hb dX8_change_81 rfl (lv_at hl 1 rfl) ?_
          refine lv_iload hx hb dX8_change_82 (lv_at hl 4 rfl) ?_
          obtain ⟨hi6, hT⟩ := hT
          refine fx_iald X h (k := a1) ha1 hi6 dX8_change_84 ?_
          refine lv_iload_n hx hb dX8_change_85 rfl (lv_at hl 3 rfl) ?_
          refine fx_vv X h ym_X8_addSize yi_X8_addSize ys_X8_addSize (fx_s5 (List.mem_of_getElem? (i := 85) rfl) rfl) sh_151 rfl (c_X8_addSize l G hT) (As := [.int (M a1 (x4).toNatClampNeg), .int x3]) (rest := []) rfl rfl ⟨Nat.le_of_ble_eq_true rfl, Nat.le_of_ble_eq_true rfl⟩ ⟨Nat.le_refl _, Nat.le_refl _⟩ hl.1 (Nat.le_of_ble_eq_true rfl) dX8_change_86 (fun M8 H locs hT h => ?_)
          exact w_X8_change_89 ha1 X hr hk (B60 := (fun x2 x3 x4 M => T_X8_change_60 a1 n x2 x3 x4 M K)) ih x2 x3 x4 M8 _ _ ls hT h (lv_sub hl [0, 1, 2, 3, 4] rfl)
def T_X8_change_57 (a1 : Nat) (x2 : Int32) (x3 : Int32) (M : Mm) (K : Mm → Prop) : Prop := (T_X8_change_60 a1 5000 x2 x3 (0 : Int32) M K)
set_option maxHeartbeats 4000000 in
set_option maxRecDepth 100000 in
theorem w_X8_change_57 {p : Program} {l : Launch} {e : Env} {s : State} {m : MethodId} {args : Array Value} {below : List Frame} {meth : Method} {c : Code} {G : fx_G} {K : Mm → Prop} {a1 : Nat} (ha1 : SH[a1]? = some (.inl (ln a1))) (X : fx_C G p s m c args cX8_change 5 RX8) (hr : meth.sig.returnType = none) (hk : meth.locks = false) : ∀ (x2 : Int32) (x3 : Int32) (M : Mm) (H : Heap) (locs : List Loc) (ls : Array Slot), T_X8_change_57 a1 x2 x3 M K → fx_H G SH M s H locs → lv_has ls 5 [(0, .ref (G.2.2.2 + 151)), (1, .ref (G.2.2.2 + a1)), (2, .int x2), (3, .int x3)] → W p l e (fx_rm (2)) s m args below meth c H locs 0 0 (MQ below (va_Qv K (fx_R G SH) (fx_A G)) args s 0 0 (fx_A G)) (F0 m 57 ls []) := by
  obtain ⟨⟨hx, hb, hml, hown, hts⟩, hK, hQ⟩ := id X
  intro x2 x3 M H locs ls hT h hl
  unfold T_X8_change_57 at hT
  refine lv_iconst (v := 0) hx hb dX8_change_57 (by decide) ?_
  refine lv_istore (lv' := [(4, .int (0 : Int32)), (0, .ref (G.2.2.2 + 151)), (1, .ref (G.2.2.2 + a1)), (2, .int x2), (3, .int x3)]) hx hb dX8_change_58 hl (by decide) rfl (fun ls hl => ?_)
  exact w_X8_change_60 ha1 X hr hk 5000 x2 x3 (0 : Int32) M _ _ ls hT h (lv_sub hl [1, 2, 3, 4, 0] rfl)
def T_X8_change_50 (B3 : Int32 → Int32 → Int32 → Mm → Prop) (a1 : Nat) (x2 : Int32) (x3 : Int32) (x4 : Int32) (s1 : Int32) (s2 : Int32) (M : Mm) (K : Mm → Prop) : Prop := (vp_in s1 1000 ∧ (∀ M9 : Mm, M9 = m_up M 153 (s1).toNatClampNeg s2 → (∀ y11 : Int32, y11 = x4 + (1 : Int32) → (B3 x2 x3 y11 M9))))
set_option maxHeartbeats 4000000 in
set_option maxRecDepth 100000 in
theorem w_X8_change_50 {p : Program} {l : Launch} {e : Env} {s : State} {m : MethodId} {args : Array Value} {below : List Frame} {meth : Method} {c : Code} {G : fx_G} {K : Mm → Prop} {B3 : Int32 → Int32 → Int32 → Mm → Prop} {a1 : Nat} (ha1 : SH[a1]? = some (.inl (ln a1))) (X : fx_C G p s m c args cX8_change 5 RX8) (hr : meth.sig.returnType = none) (hk : meth.locks = false) (hB3 : ∀ (x2 : Int32) (x3 : Int32) (x4 : Int32) (M : Mm) (H : Heap) (locs : List Loc) (ls : Array Slot), B3 x2 x3 x4 M → fx_H G SH M s H locs → lv_has ls 5 [(0, .ref (G.2.2.2 + 151)), (1, .ref (G.2.2.2 + a1)), (2, .int x2), (3, .int x3), (4, .int x4)] → W p l e (fx_rm (2)) s m args below meth c H locs 0 0 (MQ below (va_Qv K (fx_R G SH) (fx_A G)) args s 0 0 (fx_A G)) (F0 m 3 ls [])) : ∀ (x2 : Int32) (x3 : Int32) (x4 : Int32) (s1 : Int32) (s2 : Int32) (M : Mm) (H : Heap) (locs : List Loc) (ls : Array Slot), T_X8_change_50 B3 a1 x2 x3 x4 s1 s2 M K → fx_H G SH M s H locs → lv_has ls 5 [(0, .ref (G.2.2.2 + 151)), (1, .ref (G.2.2.2 + a1)), (2, .int x2), (3, .int x3), (4, .int x4)] → W p l e (fx_rm (2)) s m args below meth c H locs 0 0 (MQ below (va_Qv K (fx_R G SH) (fx_A G)) args s 0 0 (fx_A G)) (F0 m 50 ls [.int s2, .int s1, .ref (G.2.2.2 + 153)]) := by
  obtain ⟨⟨hx, hb, hml, hown, hts⟩, hK, hQ⟩ := id X
  intro x2 x3 x4 s1 s2 M H locs ls hT h hl
  unfold T_X8_change_50 at hT
  obtain ⟨hi10, hT⟩ := hT
  refine fx_iast X h (k := 153) sh_153 hi10 dX8_change_50 (fun H locs h => ?_)
  obtain ⟨M9, eM9⟩ : ∃ z : Mm, z = m_up M 153 (s1).toNatClampNeg s2 := ⟨_, rfl⟩
  have hT := hT M9 eM9
  rw [← eM9] at h
  obtain ⟨y11, ey11⟩ : ∃ z : Int32, z = x4 + (1 : Int32) := ⟨_, rfl⟩
  have hT := hT y11 ey11
  refine lv_iinc (v := y11) (lv' := [(4, .int y11), (0, .ref (G.2.2.2 + 151)), (1, .ref (G.2.2.2 + a1)), (2, .int x2), (3, .int x3)]) hx hb dX8_change_51 hl (k := 4) rfl (by rw [ey11]; rfl) (by decide) rfl (fun ls hl => ?_)
  refine lv_goto (tgt := 3) hx hb dX8_change_54 (by decide) ?_
  exact hB3 x2 x3 y11 M9 _ _ ls hT h (lv_sub hl [1, 2, 3, 4, 0] rfl)
def T_X8_change_33 (B3 : Int32 → Int32 → Int32 → Mm → Prop) (a1 : Nat) (x2 : Int32) (x3 : Int32) (x4 : Int32) (s1 : Int32) (s2 : Int32) (M : Mm) (K : Mm → Prop) : Prop := (vp_in s1 1000 ∧ (∀ M12 : Mm, M12 = m_up M 152 (s1).toNatClampNeg s2 → ((x4 = 0 → (T_X8_change_50 B3 a1 x2 x3 x4 x4 (1 : Int32) M12 K)) ∧ (¬ x4 = 0 → (T_X8_change_50 B3 a1 x2 x3 x4 x4 (0 : Int32) M12 K)))))
set_option maxHeartbeats 4000000 in
set_option maxRecDepth 100000 in
theorem w_X8_change_33 {p : Program} {l : Launch} {e : Env} {s : State} {m : MethodId} {args : Array Value} {below : List Frame} {meth : Method} {c : Code} {G : fx_G} {K : Mm → Prop} {B3 : Int32 → Int32 → Int32 → Mm → Prop} {a1 : Nat} (ha1 : SH[a1]? = some (.inl (ln a1))) (X : fx_C G p s m c args cX8_change 5 RX8) (hr : meth.sig.returnType = none) (hk : meth.locks = false) (hB3 : ∀ (x2 : Int32) (x3 : Int32) (x4 : Int32) (M : Mm) (H : Heap) (locs : List Loc) (ls : Array Slot), B3 x2 x3 x4 M → fx_H G SH M s H locs → lv_has ls 5 [(0, .ref (G.2.2.2 + 151)), (1, .ref (G.2.2.2 + a1)), (2, .int x2), (3, .int x3), (4, .int x4)] → W p l e (fx_rm (2)) s m args below meth c H locs 0 0 (MQ below (va_Qv K (fx_R G SH) (fx_A G)) args s 0 0 (fx_A G)) (F0 m 3 ls [])) : ∀ (x2 : Int32) (x3 : Int32) (x4 : Int32) (s1 : Int32) (s2 : Int32) (M : Mm) (H : Heap) (locs : List Loc) (ls : Array Slot), T_X8_change_33 B3 a1 x2 x3 x4 s1 s2 M K → fx_H G SH M s H locs → lv_has ls 5 [(0, .ref (G.2.2.2 + 151)), (1, .ref (G.2.2.2 + a1)), (2, .int x2), (3, .int x3), (4, .int x4)] → W p l e (fx_rm (2)) s m args below meth c H locs 0 0 (MQ below (va_Qv K (fx_R G SH) (fx_A G)) args s 0 0 (fx_A G)) (F0 m 33 ls [.int s2, .int s1, .ref (G.2.2.2 + 152)]) := by
  obtain ⟨⟨hx, hb, hml, hown, hts⟩, hK, hQ⟩ := id X
  intro x2 x3 x4 s1 s2 M H locs ls hT h hl
  unfold T_X8_change_33 at hT
  obtain ⟨hi13, hT⟩ := hT
  refine fx_iast X h (k := 152) sh_152 hi13 dX8_change_33 (fun H locs h => ?_)
  obtain ⟨M12, eM12⟩ : ∃ z : Mm, z = m_up M 152 (s1).toNatClampNeg s2 := ⟨_, rfl⟩
  have hT := hT M12 eM12
  rw [← eM12] at h
  refine lv_aload_n hx hb dX8_change_34 rfl (lv_at hl 0 rfl) ?_
  refine fx_getR X h (k := 151) (j := 1) (r := 153) sh_151 rfl fl_RX8_15 dX8_change_35 ?_
  refine lv_iload hx hb dX8_change_38 (lv_at hl 4 rfl) ?_
  refine lv_iload hx hb dX8_change_40 (lv_at hl 4 rfl) ?_
  refine lv_if_ne (tgt := 49) hx hb dX8_change_42 (by decide) (fun hc14 => ?_) (fun hc14 => ?_)
  · have hT := hT.2 hc14
    refine lv_iconst (v := 0) hx hb dX8_change_49 (by decide) ?_
    exact w_X8_change_50 ha1 X hr hk (B3 := B3) hB3 x2 x3 x4 x4 (0 : Int32) M12 _ _ ls hT h (lv_sub hl [0, 1, 2, 3, 4] rfl)
  · have hT := hT.1 hc14
    refine lv_iconst (v := 1) hx hb dX8_change_45 (by decide) ?_
    refine lv_goto (tgt := 50) hx hb dX8_change_46 (by decide) ?_
    exact w_X8_change_50 ha1 X hr hk (B3 := B3) hB3 x2 x3 x4 x4 (1 : Int32) M12 _ _ ls hT h (lv_sub hl [0, 1, 2, 3, 4] rfl)
def T_X8_change_3 (a1 : Nat) : Nat → Int32 → Int32 → Int32 → Mm → (Mm → Prop) → Prop
  | 0, _, _, _, _, _ => False
  | n + 1, x2, x3, x4, M, K => ((x3 < x4 → (T_X8_change_57 a1 x2 x3 M K)) ∧ (¬ x3 < x4 → (((999 : Int32) < x4 → (T_X8_change_57 a1 x2 x3 M K)) ∧ (¬ (999 : Int32) < x4 → ((x4 = 0 → (T_X8_change_33 (fun x2 x3 x4 M => T_X8_change_3 a1 n x2 x3 x4 M K) a1 x2 x3 x4 x4 (0 : Int32) M K)) ∧ (¬ x4 = 0 → (T_X8_change_33 (fun x2 x3 x4 M => T_X8_change_3 a1 n x2 x3 x4 M K) a1 x2 x3 x4 x4 (-1 : Int32) M K)))))))
set_option maxHeartbeats 4000000 in
set_option maxRecDepth 100000 in
theorem w_X8_change_3 {p : Program} {l : Launch} {e : Env} {s : State} {m : MethodId} {args : Array Value} {below : List Frame} {meth : Method} {c : Code} {G : fx_G} {K : Mm → Prop} {a1 : Nat} (ha1 : SH[a1]? = some (.inl (ln a1))) (X : fx_C G p s m c args cX8_change 5 RX8) (hr : meth.sig.returnType = none) (hk : meth.locks = false) : ∀ (n : Nat) (x2 : Int32) (x3 : Int32) (x4 : Int32) (M : Mm) (H : Heap) (locs : List Loc) (ls : Array Slot), T_X8_change_3 a1 n x2 x3 x4 M K → fx_H G SH M s H locs → lv_has ls 5 [(0, .ref (G.2.2.2 + 151)), (1, .ref (G.2.2.2 + a1)), (2, .int x2), (3, .int x3), (4, .int x4)] → W p l e (fx_rm (2)) s m args below meth c H locs 0 0 (MQ below (va_Qv K (fx_R G SH) (fx_A G)) args s 0 0 (fx_A G)) (F0 m 3 ls []) := by
  obtain ⟨⟨hx, hb, hml, hown, hts⟩, hK, hQ⟩ := id X
  intro n
  induction n with
  | zero =>
    intro x2 x3 x4 M H locs ls hT
    exact hT.elim
  | succ n ih =>
    intro x2 x3 x4 M H locs ls hT h hl
    rw [T_X8_change_3] at hT
    refine lv_iload hx hb dX8_change_3 (lv_at hl 4 rfl) ?_
    refine lv_iload_n hx hb dX8_change_5 rfl (lv_at hl 3 rfl) ?_
    refine lv_icmp_gt (tgt := 57) hx hb dX8_change_6 (by decide) (fun hc15 => ?_) (fun hc15 => ?_)
    · have hT := hT.1 hc15
      exact w_X8_change_57 ha1 X hr hk x2 x3 M _ _ ls hT h (lv_sub hl [0, 1, 2, 3] rfl)
    · have hT := hT.2 hc15
      refine lv_iload hx hb dX8_change_9 (lv_at hl 4 rfl) ?_
      refine lv_sipush (v := 999) hx hb dX8_change_11 (by decide) ?_
      refine lv_icmp_gt (tgt := 57) hx hb dX8_change_14 (by decide) (fun hc16 => ?_) (fun hc16 => ?_)
      · have hT := hT.1 hc16
        exact w_X8_change_57 ha1 X hr hk x2 x3 M _ _ ls hT h (lv_sub hl [0, 1, 2, 3] rfl)
      · have hT := hT.2 hc16
        refine lv_aload_n hx hb dX8_change_17 rfl (lv_at hl 0 rfl) ?_
        refine fx_getR X h (k := 151) (j := 0) (r := 152) sh_151 rfl fl_RX8_11 dX8_change_18 ?_
        refine lv_iload hx hb dX8_change_21 (lv_at hl 4 rfl) ?_
        refine lv_iload hx hb dX8_change_23 (lv_at hl 4 rfl) ?_
        refine lv_if_ne (tgt := 32) hx hb dX8_change_25 (by decide) (fun hc17 => ?_) (fun hc17 => ?_)
        · have hT := hT.2 hc17
          refine lv_iconst (v := -1) hx hb dX8_change_32 (by decide) ?_
          exact w_X8_change_33 ha1 X hr hk (B3 := (fun x2 x3 x4 M => T_X8_change_3 a1 n x2 x3 x4 M K)) ih x2 x3 x4 x4 (-1 : Int32) M _ _ ls hT h (lv_sub hl [0, 1, 2, 3, 4] rfl)
        · have hT := hT.1 hc17
          refine lv_iconst (v := 0) hx hb dX8_change_28 (by decide) ?_
          refine lv_goto (tgt := 33) hx hb dX8_change_29 (by decide) ?_
          exact w_X8_change_33 ha1 X hr hk (B3 := (fun x2 x3 x4 M => T_X8_change_3 a1 n x2 x3 x4 M K)) ih x2 x3 x4 x4 (0 : Int32) M _ _ ls hT h (lv_sub hl [0, 1, 2, 3, 4] rfl)
def T_X8_change (a1 : Nat) (x2 : Int32) (x3 : Int32) (M : Mm) (K : Mm → Prop) : Prop := (T_X8_change_3 a1 5000 x2 x3 (0 : Int32) M K)
set_option maxHeartbeats 4000000 in
set_option maxRecDepth 100000 in
theorem c_X8_change (l : Launch) (G : fx_G) {a1 : Nat} (ha1 : SH[a1]? = some (.inl (ln a1))) {x2 : Int32} {x3 : Int32} {M : Mm} {K : Mm → Prop} (hT : T_X8_change a1 x2 x3 M K) : Met l yX8_change (fx_ws yX8_change cX8_change 5 none) (fx_rm (2)) (va_Pc [.ref (G.2.2.2 + 151), .ref (G.2.2.2 + a1), .int x2, .int x3] (fx_P G SH M)) (va_Qv K (fx_R G SH) (fx_A G)) 0 0 (fx_A G) := by
  refine fx_met (own := RX8) (by decide +kernel) rfl (Nat.le_of_ble_eq_true rfl) (fun p e s m below meth c X hr hk h ls hl => ?_)
  obtain ⟨⟨hx, hb, hml, hown, hts⟩, hK, hQ⟩ := id X
  have hl : lv_has ls 5 [(0, .ref (G.2.2.2 + 151)), (1, .ref (G.2.2.2 + a1)), (2, .int x2), (3, .int x3)] := hl
  unfold T_X8_change at hT
  refine lv_iconst (v := 0) hx hb dX8_change_0 (by decide) ?_
  refine lv_istore (lv' := [(4, .int (0 : Int32)), (0, .ref (G.2.2.2 + 151)), (1, .ref (G.2.2.2 + a1)), (2, .int x2), (3, .int x3)]) hx hb dX8_change_1 hl (by decide) rfl (fun ls hl => ?_)
  exact w_X8_change_3 ha1 X hr hk 5000 x2 x3 (0 : Int32) M _ _ ls hT h (lv_sub hl [1, 2, 3, 4, 0] rfl)
/-! MockParcels$Sums.cutOne(III)I -/
theorem dX8_cutOne_0 : decode cX8_cutOne 0 = .ok (.iload_n 1, 1) := by decide +kernel
theorem dX8_cutOne_1 : decode cX8_cutOne 1 = .ok (.bipush 100, 2) := by decide +kernel
theorem dX8_cutOne_3 : decode cX8_cutOne 3 = .ok (.irem, 1) := by decide +kernel
theorem dX8_cutOne_4 : decode cX8_cutOne 4 = .ok (.istore 4, 2) := by decide +kernel
theorem dX8_cutOne_6 : decode cX8_cutOne 6 = .ok (.iload 4, 2) := by decide +kernel
theorem dX8_cutOne_8 : decode cX8_cutOne 8 = .ok (.iload_n 2, 1) := by decide +kernel
theorem dX8_cutOne_9 : decode cX8_cutOne 9 = .ok (.iadd, 1) := by decide +kernel
theorem dX8_cutOne_10 : decode cX8_cutOne 10 = .ok (.iload_n 3, 1) := by decide +kernel
theorem dX8_cutOne_11 : decode cX8_cutOne 11 = .ok (.if_icmp .gt 9, 3) := by decide +kernel
theorem dX8_cutOne_14 : decode cX8_cutOne 14 = .ok (.iload_n 1, 1) := by decide +kernel
theorem dX8_cutOne_15 : decode cX8_cutOne 15 = .ok (.iload_n 2, 1) := by decide +kernel
theorem dX8_cutOne_16 : decode cX8_cutOne 16 = .ok (.iadd, 1) := by decide +kernel
theorem dX8_cutOne_17 : decode cX8_cutOne 17 = .ok (.goto 12, 3) := by decide +kernel
theorem dX8_cutOne_20 : decode cX8_cutOne 20 = .ok (.iload_n 1, 1) := by decide +kernel
theorem dX8_cutOne_21 : decode cX8_cutOne 21 = .ok (.iload 4, 2) := by decide +kernel
theorem dX8_cutOne_23 : decode cX8_cutOne 23 = .ok (.isub, 1) := by decide +kernel
theorem dX8_cutOne_24 : decode cX8_cutOne 24 = .ok (.bipush 100, 2) := by decide +kernel
theorem dX8_cutOne_26 : decode cX8_cutOne 26 = .ok (.iadd, 1) := by decide +kernel
theorem dX8_cutOne_27 : decode cX8_cutOne 27 = .ok (.iload_n 2, 1) := by decide +kernel
theorem dX8_cutOne_28 : decode cX8_cutOne 28 = .ok (.iadd, 1) := by decide +kernel
theorem dX8_cutOne_29 : decode cX8_cutOne 29 = .ok (.ireturn, 1) := by decide +kernel
def T_X8_cutOne (x1 : Int32) (x2 : Int32) (x3 : Int32) (M : Mm) (K : Int32 → Mm → Prop) : Prop := (∀ y1 : Int32, y1 = (x1 - x1 / (100 : Int32) * (100 : Int32)) → ((x3 < (y1 + x2) → (K (((x1 - y1) + (100 : Int32)) + x2) M)) ∧ (¬ x3 < (y1 + x2) → (K (x1 + x2) M))))
set_option maxHeartbeats 4000000 in
set_option maxRecDepth 100000 in
theorem c_X8_cutOne (l : Launch) (G : fx_G) {x1 : Int32} {x2 : Int32} {x3 : Int32} {M : Mm} {K : Int32 → Mm → Prop} (hT : T_X8_cutOne x1 x2 x3 M K) : Met l yX8_cutOne (fx_ws yX8_cutOne cX8_cutOne 5 (some .int)) (fx_rm (0)) (va_Pc [.ref (G.2.2.2 + 151), .int x1, .int x2, .int x3] (fx_P G SH M)) (va_Qi K (fx_R G SH) (fx_A G)) 0 0 (fx_A G) := by
  refine fx_met (own := RX8) (by decide +kernel) rfl (Nat.le_of_ble_eq_true rfl) (fun p e s m below meth c X hr hk h ls hl => ?_)
  obtain ⟨⟨hx, hb, hml, hown, hts⟩, hK, hQ⟩ := id X
  have hl : lv_has ls 5 [(0, .ref (G.2.2.2 + 151)), (1, .int x1), (2, .int x2), (3, .int x3)] := hl
  unfold T_X8_cutOne at hT
  refine lv_iload_n hx hb dX8_cutOne_0 rfl (lv_at hl 1 rfl) ?_
  refine lv_bipush (v := 100) hx hb dX8_cutOne_1 (by decide) ?_
  refine lv_irem hx hb dX8_cutOne_3 (by decide) ?_
  refine lv_topi (fun y1 ey1 => ?_)
  have hT := hT y1 ey1
  refine lv_istore (lv' := [(4, .int y1), (0, .ref (G.2.2.2 + 151)), (1, .int x1), (2, .int x2), (3, .int x3)]) hx hb dX8_cutOne_4 hl (by decide) rfl (fun ls hl => ?_)
  refine lv_iload hx hb dX8_cutOne_6 (lv_at hl 0 rfl) ?_
  refine lv_iload_n hx hb dX8_cutOne_8 rfl (lv_at hl 3 rfl) ?_
  refine lv_iadd hx hb dX8_cutOne_9 ?_
  refine lv_iload_n hx hb dX8_cutOne_10 rfl (lv_at hl 4 rfl) ?_
  refine lv_icmp_gt (tgt := 20) hx hb dX8_cutOne_11 (by decide) (fun hc2 => ?_) (fun hc2 => ?_)
  · have hT := hT.1 hc2
    refine lv_iload_n hx hb dX8_cutOne_20 rfl (lv_at hl 2 rfl) ?_
    refine lv_iload hx hb dX8_cutOne_21 (lv_at hl 0 rfl) ?_
    refine lv_isub hx hb dX8_cutOne_23 ?_
    refine lv_bipush (v := 100) hx hb dX8_cutOne_24 (by decide) ?_
    refine lv_iadd hx hb dX8_cutOne_26 ?_
    refine lv_iload_n hx hb dX8_cutOne_27 rfl (lv_at hl 3 rfl) ?_
    refine lv_iadd hx hb dX8_cutOne_28 ?_
    exact fx_iret X hr hk h hT dX8_cutOne_29
  · have hT := hT.2 hc2
    refine lv_iload_n hx hb dX8_cutOne_14 rfl (lv_at hl 2 rfl) ?_
    refine lv_iload_n hx hb dX8_cutOne_15 rfl (lv_at hl 3 rfl) ?_
    refine lv_iadd hx hb dX8_cutOne_16 ?_
    refine lv_goto (tgt := 29) hx hb dX8_cutOne_17 (by decide) ?_
    exact fx_iret X hr hk h hT dX8_cutOne_29
/-! MockParcels$Sums.fewestStrings(LMockParcels$Told;I)I -/
theorem dX8_fewestStrings_0 : decode cX8_fewestStrings 0 = .ok (.aload_n 1, 1) := by decide +kernel
theorem dX8_fewestStrings_1 : decode cX8_fewestStrings 1 = .ok (.getfield 45, 3) := by decide +kernel
theorem dX8_fewestStrings_4 : decode cX8_fewestStrings 4 = .ok (.bipush 9, 2) := by decide +kernel
theorem dX8_fewestStrings_6 : decode cX8_fewestStrings 6 = .ok (.invokestatic 51, 3) := by decide +kernel
theorem dX8_fewestStrings_9 : decode cX8_fewestStrings 9 = .ok (.istore_n 3, 1) := by decide +kernel
theorem dX8_fewestStrings_10 : decode cX8_fewestStrings 10 = .ok (.aload_n 0, 1) := by decide +kernel
theorem dX8_fewestStrings_11 : decode cX8_fewestStrings 11 = .ok (.getfield 21, 3) := by decide +kernel
theorem dX8_fewestStrings_14 : decode cX8_fewestStrings 14 = .ok (.iconst 0, 1) := by decide +kernel
theorem dX8_fewestStrings_15 : decode cX8_fewestStrings 15 = .ok (.iload_n 2, 1) := by decide +kernel
theorem dX8_fewestStrings_16 : decode cX8_fewestStrings 16 = .ok (.iastore, 1) := by decide +kernel
theorem dX8_fewestStrings_17 : decode cX8_fewestStrings 17 = .ok (.iconst 1, 1) := by decide +kernel
theorem dX8_fewestStrings_18 : decode cX8_fewestStrings 18 = .ok (.istore 4, 2) := by decide +kernel
theorem dX8_fewestStrings_20 : decode cX8_fewestStrings 20 = .ok (.iload 4, 2) := by decide +kernel
theorem dX8_fewestStrings_22 : decode cX8_fewestStrings 22 = .ok (.iconst 1, 1) := by decide +kernel
theorem dX8_fewestStrings_23 : decode cX8_fewestStrings 23 = .ok (.iload_n 3, 1) := by decide +kernel
theorem dX8_fewestStrings_24 : decode cX8_fewestStrings 24 = .ok (.ishl, 1) := by decide +kernel
theorem dX8_fewestStrings_25 : decode cX8_fewestStrings 25 = .ok (.if_icmp .ge 80, 3) := by decide +kernel
theorem dX8_fewestStrings_28 : decode cX8_fewestStrings 28 = .ok (.sipush 1000, 3) := by decide +kernel
theorem dX8_fewestStrings_31 : decode cX8_fewestStrings 31 = .ok (.istore 5, 2) := by decide +kernel
theorem dX8_fewestStrings_33 : decode cX8_fewestStrings 33 = .ok (.iconst 0, 1) := by decide +kernel
theorem dX8_fewestStrings_34 : decode cX8_fewestStrings 34 = .ok (.istore 6, 2) := by decide +kernel
theorem dX8_fewestStrings_36 : decode cX8_fewestStrings 36 = .ok (.iload 6, 2) := by decide +kernel
theorem dX8_fewestStrings_38 : decode cX8_fewestStrings 38 = .ok (.iload_n 3, 1) := by decide +kernel
theorem dX8_fewestStrings_39 : decode cX8_fewestStrings 39 = .ok (.if_icmp .ge 51, 3) := by decide +kernel
theorem dX8_fewestStrings_42 : decode cX8_fewestStrings 42 = .ok (.iload 4, 2) := by decide +kernel
theorem dX8_fewestStrings_44 : decode cX8_fewestStrings 44 = .ok (.iload 6, 2) := by decide +kernel
theorem dX8_fewestStrings_46 : decode cX8_fewestStrings 46 = .ok (.ishr, 1) := by decide +kernel
theorem dX8_fewestStrings_47 : decode cX8_fewestStrings 47 = .ok (.iconst 1, 1) := by decide +kernel
theorem dX8_fewestStrings_48 : decode cX8_fewestStrings 48 = .ok (.iand, 1) := by decide +kernel
theorem dX8_fewestStrings_49 : decode cX8_fewestStrings 49 = .ok (.iconst 1, 1) := by decide +kernel
theorem dX8_fewestStrings_50 : decode cX8_fewestStrings 50 = .ok (.if_icmp .ne 34, 3) := by decide +kernel
theorem dX8_fewestStrings_53 : decode cX8_fewestStrings 53 = .ok (.iload 5, 2) := by decide +kernel
theorem dX8_fewestStrings_55 : decode cX8_fewestStrings 55 = .ok (.aload_n 0, 1) := by decide +kernel
theorem dX8_fewestStrings_56 : decode cX8_fewestStrings 56 = .ok (.aload_n 0, 1) := by decide +kernel
theorem dX8_fewestStrings_57 : decode cX8_fewestStrings 57 = .ok (.getfield 21, 3) := by decide +kernel
theorem dX8_fewestStrings_60 : decode cX8_fewestStrings 60 = .ok (.iload 4, 2) := by decide +kernel
theorem dX8_fewestStrings_62 : decode cX8_fewestStrings 62 = .ok (.iconst 1, 1) := by decide +kernel
theorem dX8_fewestStrings_63 : decode cX8_fewestStrings 63 = .ok (.iload 6, 2) := by decide +kernel
theorem dX8_fewestStrings_65 : decode cX8_fewestStrings 65 = .ok (.ishl, 1) := by decide +kernel
theorem dX8_fewestStrings_66 : decode cX8_fewestStrings 66 = .ok (.ixor, 1) := by decide +kernel
theorem dX8_fewestStrings_67 : decode cX8_fewestStrings 67 = .ok (.iaload, 1) := by decide +kernel
theorem dX8_fewestStrings_68 : decode cX8_fewestStrings 68 = .ok (.aload_n 1, 1) := by decide +kernel
theorem dX8_fewestStrings_69 : decode cX8_fewestStrings 69 = .ok (.getfield 54, 3) := by decide +kernel
theorem dX8_fewestStrings_72 : decode cX8_fewestStrings 72 = .ok (.iload 6, 2) := by decide +kernel
theorem dX8_fewestStrings_74 : decode cX8_fewestStrings 74 = .ok (.iaload, 1) := by decide +kernel
theorem dX8_fewestStrings_75 : decode cX8_fewestStrings 75 = .ok (.iload_n 2, 1) := by decide +kernel
theorem dX8_fewestStrings_76 : decode cX8_fewestStrings 76 = .ok (.invokevirtual 57, 3) := by decide +kernel
theorem dX8_fewestStrings_79 : decode cX8_fewestStrings 79 = .ok (.invokestatic 51, 3) := by decide +kernel
theorem dX8_fewestStrings_82 : decode cX8_fewestStrings 82 = .ok (.istore 5, 2) := by decide +kernel
theorem dX8_fewestStrings_84 : decode cX8_fewestStrings 84 = .ok (.iinc 6 1, 3) := by decide +kernel
theorem dX8_fewestStrings_87 : decode cX8_fewestStrings 87 = .ok (.goto (-51), 3) := by decide +kernel
theorem dX8_fewestStrings_90 : decode cX8_fewestStrings 90 = .ok (.aload_n 0, 1) := by decide +kernel
theorem dX8_fewestStrings_91 : decode cX8_fewestStrings 91 = .ok (.getfield 21, 3) := by decide +kernel
theorem dX8_fewestStrings_94 : decode cX8_fewestStrings 94 = .ok (.iload 4, 2) := by decide +kernel
theorem dX8_fewestStrings_96 : decode cX8_fewestStrings 96 = .ok (.iload 5, 2) := by decide +kernel
theorem dX8_fewestStrings_98 : decode cX8_fewestStrings 98 = .ok (.iastore, 1) := by decide +kernel
theorem dX8_fewestStrings_99 : decode cX8_fewestStrings 99 = .ok (.iinc 4 1, 3) := by decide +kernel
theorem dX8_fewestStrings_102 : decode cX8_fewestStrings 102 = .ok (.goto (-82), 3) := by decide +kernel
theorem dX8_fewestStrings_105 : decode cX8_fewestStrings 105 = .ok (.aload_n 0, 1) := by decide +kernel
theorem dX8_fewestStrings_106 : decode cX8_fewestStrings 106 = .ok (.getfield 21, 3) := by decide +kernel
theorem dX8_fewestStrings_109 : decode cX8_fewestStrings 109 = .ok (.iconst 1, 1) := by decide +kernel
theorem dX8_fewestStrings_110 : decode cX8_fewestStrings 110 = .ok (.iload_n 3, 1) := by decide +kernel
theorem dX8_fewestStrings_111 : decode cX8_fewestStrings 111 = .ok (.ishl, 1) := by decide +kernel
theorem dX8_fewestStrings_112 : decode cX8_fewestStrings 112 = .ok (.iconst 1, 1) := by decide +kernel
theorem dX8_fewestStrings_113 : decode cX8_fewestStrings 113 = .ok (.isub, 1) := by decide +kernel
theorem dX8_fewestStrings_114 : decode cX8_fewestStrings 114 = .ok (.iaload, 1) := by decide +kernel
theorem dX8_fewestStrings_115 : decode cX8_fewestStrings 115 = .ok (.bipush 100, 2) := by decide +kernel
theorem dX8_fewestStrings_117 : decode cX8_fewestStrings 117 = .ok (.idiv, 1) := by decide +kernel
theorem dX8_fewestStrings_118 : decode cX8_fewestStrings 118 = .ok (.ireturn, 1) := by decide +kernel
def T_X8_fewestStrings_84 (B20 : Int32 → Int32 → Int32 → Mm → Prop) (B36 : Int32 → Int32 → Int32 → Int32 → Int32 → Mm → Prop) (o1 : Nat) (x2 : Int32) (x3 : Int32) (x4 : Int32) (x5 : Int32) (x6 : Int32) (M : Mm) (K : Int32 → Mm → Prop) : Prop := (∀ y1 : Int32, y1 = x6 + (1 : Int32) → (B36 x2 x3 x4 x5 y1 M))
set_option maxHeartbeats 4000000 in
set_option maxRecDepth 100000 in
theorem w_X8_fewestStrings_84 {p : Program} {l : Launch} {e : Env} {s : State} {m : MethodId} {args : Array Value} {below : List Frame} {meth : Method} {c : Code} {G : fx_G} {K : Int32 → Mm → Prop} {B20 : Int32 → Int32 → Int32 → Mm → Prop} {B36 : Int32 → Int32 → Int32 → Int32 → Int32 → Mm → Prop} {o1 : Nat} (ho1 : o1 ∈ id_Told) (X : fx_C G p s m c args cX8_fewestStrings 7 RX8) (hr : meth.sig.returnType = (some .int)) (hk : meth.locks = false) (hB20 : ∀ (x2 : Int32) (x3 : Int32) (x4 : Int32) (M : Mm) (H : Heap) (locs : List Loc) (ls : Array Slot), B20 x2 x3 x4 M → fx_H G SH M s H locs → lv_has ls 7 [(0, .ref (G.2.2.2 + 151)), (1, .ref (G.2.2.2 + o1)), (2, .int x2), (3, .int x3), (4, .int x4)] → W p l e (fx_rm (1)) s m args below meth c H locs 0 0 (MQ below (va_Qi K (fx_R G SH) (fx_A G)) args s 0 0 (fx_A G)) (F0 m 20 ls [])) (hB36 : ∀ (x2 : Int32) (x3 : Int32) (x4 : Int32) (x5 : Int32) (x6 : Int32) (M : Mm) (H : Heap) (locs : List Loc) (ls : Array Slot), B36 x2 x3 x4 x5 x6 M → fx_H G SH M s H locs → lv_has ls 7 [(0, .ref (G.2.2.2 + 151)), (1, .ref (G.2.2.2 + o1)), (2, .int x2), (3, .int x3), (4, .int x4), (5, .int x5), (6, .int x6)] → W p l e (fx_rm (1)) s m args below meth c H locs 0 0 (MQ below (va_Qi K (fx_R G SH) (fx_A G)) args s 0 0 (fx_A G)) (F0 m 36 ls [])) : ∀ (x2 : Int32) (x3 : Int32) (x4 : Int32) (x5 : Int32) (x6 : Int32) (M : Mm) (H : Heap) (locs : List Loc) (ls : Array Slot), T_X8_fewestStrings_84 B20 B36 o1 x2 x3 x4 x5 x6 M K → fx_H G SH M s H locs → lv_has ls 7 [(0, .ref (G.2.2.2 + 151)), (1, .ref (G.2.2.2 + o1)), (2, .int x2), (3, .int x3), (4, .int x4), (5, .int x5), (6, .int x6)] → W p l e (fx_rm (1)) s m args below meth c H locs 0 0 (MQ below (va_Qi K (fx_R G SH) (fx_A G)) args s 0 0 (fx_A G)) (F0 m 84 ls []) := by
  obtain ⟨⟨hx, hb, hml, hown, hts⟩, hK, hQ⟩ := id X
  intro x2 x3 x4 x5 x6 M H locs ls hT h hl
  unfold T_X8_fewestStrings_84 at hT
  obtain ⟨y1, ey1⟩ : ∃ z : Int32, z = x6 + (1 : Int32) := ⟨_, rfl⟩
  have hT := hT y1 ey1
  refine lv_iinc (v := y1) (lv' := [(6, .int y1), (0, .ref (G.2.2.2 + 151)), (1, .ref (G.2.2.2 + o1)), (2, .int x2), (3, .int x3), (4, .int x4), (5, .int x5)]) hx hb dX8_fewestStrings_84 hl (k := 6) rfl (by rw [ey1]; rfl) (by decide) rfl (fun ls hl => ?_)
  refine lv_goto (tgt := 36) hx hb dX8_fewestStrings_87 (by decide) ?_
  exact hB36 x2 x3 x4 x5 y1 M _ _ ls hT h (lv_sub hl [1, 2, 3, 4, 5, 6, 0] rfl)
def T_X8_fewestStrings_36 (B20 : Int32 → Int32 → Int32 → Mm → Prop) (o1 : Nat) : Nat → Int32 → Int32 → Int32 → Int32 → Int32 → Mm → (Int32 → Mm → Prop) → Prop
  | 0, _, _, _, _, _, _, _ => False
  | n + 1, x2, x3, x4, x5, x6, M, K => ((x3 ≤ x6 → (vp_in x4 512 ∧ (∀ M3 : Mm, M3 = m_up M 155 (x4).toNatClampNeg x5 → (∀ y5 : Int32, y5 = x4 + (1 : Int32) → (B20 x2 x3 y5 M3))))) ∧ (¬ x3 ≤ x6 → ((((x4 >>> (x6 &&& 31)) &&& (1 : Int32)) = (1 : Int32) → (vp_in (x4 ^^^ ((1 : Int32) <<< (x6 &&& 31))) 512 ∧ (vp_in x6 9 ∧ (T_X8_cutOne (M 155 ((x4 ^^^ ((1 : Int32) <<< (x6 &&& 31)))).toNatClampNeg) (M (rf o1 1) (x6).toNatClampNeg) x2 M (fun r11 M10 => (∀ y12 : Int32, y12 = (if r11 < x5 then r11 else x5) → (T_X8_fewestStrings_84 B20 (fun x2 x3 x4 x5 x6 M => T_X8_fewestStrings_36 B20 o1 n x2 x3 x4 x5 x6 M K) o1 x2 x3 x4 y12 x6 M10 K))))))) ∧ (¬ ((x4 >>> (x6 &&& 31)) &&& (1 : Int32)) = (1 : Int32) → (T_X8_fewestStrings_84 B20 (fun x2 x3 x4 x5 x6 M => T_X8_fewestStrings_36 B20 o1 n x2 x3 x4 x5 x6 M K) o1 x2 x3 x4 x5 x6 M K)))))
set_option maxHeartbeats 4000000 in
set_option maxRecDepth 100000 in
theorem w_X8_fewestStrings_36 {p : Program} {l : Launch} {e : Env} {s : State} {m : MethodId} {args : Array Value} {below : List Frame} {meth : Method} {c : Code} {G : fx_G} {K : Int32 → Mm → Prop} {B20 : Int32 → Int32 → Int32 → Mm → Prop} {o1 : Nat} (ho1 : o1 ∈ id_Told) (X : fx_C G p s m c args cX8_fewestStrings 7 RX8) (hr : meth.sig.returnType = (some .int)) (hk : meth.locks = false) (hB20 : ∀ (x2 : Int32) (x3 : Int32) (x4 : Int32) (M : Mm) (H : Heap) (locs : List Loc) (ls : Array Slot), B20 x2 x3 x4 M → fx_H G SH M s H locs → lv_has ls 7 [(0, .ref (G.2.2.2 + 151)), (1, .ref (G.2.2.2 + o1)), (2, .int x2), (3, .int x3), (4, .int x4)] → W p l e (fx_rm (1)) s m args below meth c H locs 0 0 (MQ below (va_Qi K (fx_R G SH) (fx_A G)) args s 0 0 (fx_A G)) (F0 m 20 ls [])) : ∀ (n : Nat) (x2 : Int32) (x3 : Int32) (x4 : Int32) (x5 : Int32) (x6 : Int32) (M : Mm) (H : Heap) (locs : List Loc) (ls : Array Slot), T_X8_fewestStrings_36 B20 o1 n x2 x3 x4 x5 x6 M K → fx_H G SH M s H locs → lv_has ls 7 [(0, .ref (G.2.2.2 + 151)), (1, .ref (G.2.2.2 + o1)), (2, .int x2), (3, .int x3), (4, .int x4), (5, .int x5), (6, .int x6)] → W p l e (fx_rm (1)) s m args below meth c H locs 0 0 (MQ below (va_Qi K (fx_R G SH) (fx_A G)) args s 0 0 (fx_A G)) (F0 m 36 ls []) := by
  obtain ⟨⟨hx, hb, hml, hown, hts⟩, hK, hQ⟩ := id X
  intro n
  induction n with
  | zero =>
    intro x2 x3 x4 x5 x6 M H locs ls hT
    exact hT.elim
  | succ n ih =>
    intro x2 x3 x4 x5 x6 M H locs ls hT h hl
    rw [T_X8_fewestStrings_36] at hT
    refine lv_iload hx hb dX8_fewestStrings_36 (lv_at hl 6 rfl) ?_
    refine lv_iload_n hx hb dX8_fewestStrings_38 rfl (lv_at hl 3 rfl) ?_
    refine lv_icmp_ge (tgt := 90) hx hb dX8_fewestStrings_39 (by decide) (fun hc2 => ?_) (fun hc2 => ?_)
    · have hT := hT.1 hc2
      refine lv_aload_n hx hb dX8_fewestStrings_90 rfl (lv_at hl 0 rfl) ?_
      refine fx_getR X h (k := 151) (j := 3) (r := 155) sh_151 rfl fl_RX8_21 dX8_fewestStrings_91 ?_
      refine lv_iload hx hb dX8_fewestStrings_94 (lv_at hl 4 rfl) ?_
      refine lv_iload hx hb dX8_fewestStrings_96 (lv_at hl 5 rfl) ?_
      obtain ⟨hi4, hT⟩ := hT
      refine fx_iast X h (k := 155) sh_155 hi4 dX8_fewestStrings_98 (fun H locs h => ?_)
      obtain ⟨M3, eM3⟩ : ∃ z : Mm, z = m_up M 155 (x4).toNatClampNeg x5 := ⟨_, rfl⟩
      have hT := hT M3 eM3
      rw [← eM3] at h
      obtain ⟨y5, ey5⟩ : ∃ z : Int32, z = x4 + (1 : Int32) := ⟨_, rfl⟩
      have hT := hT y5 ey5
      refine lv_iinc (v := y5) (lv' := [(4, .int y5), (0, .ref (G.2.2.2 + 151)), (1, .ref (G.2.2.2 + o1)), (2, .int x2), (3, .int x3), (5, .int x5), (6, .int x6)]) hx hb dX8_fewestStrings_99 hl (k := 4) rfl (by rw [ey5]; rfl) (by decide) rfl (fun ls hl => ?_)
      refine lv_goto (tgt := 20) hx hb dX8_fewestStrings_102 (by decide) ?_
      exact hB20 x2 x3 y5 M3 _ _ ls hT h (lv_sub hl [1, 2, 3, 4, 0] rfl)
    · have hT := hT.2 hc2
      refine lv_iload hx hb dX8_fewestStrings_42 (lv_at hl 4 rfl) ?_
      refine lv_iload hx hb dX8_fewestStrings_44 (lv_at hl 6 rfl) ?_
      refine lv_ishr hx hb dX8_fewestStrings_46 ?_
      refine lv_iconst (v := 1) hx hb dX8_fewestStrings_47 (by decide) ?_
      refine lv_iand hx hb dX8_fewestStrings_48 ?_
      refine lv_iconst (v := 1) hx hb dX8_fewestStrings_49 (by decide) ?_
      refine lv_icmp_ne (tgt := 84) hx hb dX8_fewestStrings_50 (by decide) (fun hc6 => ?_) (fun hc6 => ?_)
      · have hT := hT.2 hc6
        exact w_X8_fewestStrings_84 ho1 X hr hk (B20 := B20) hB20 (B36 := (fun x2 x3 x4 x5 x6 M => T_X8_fewestStrings_36 B20 o1 n x2 x3 x4 x5 x6 M K)) ih x2 x3 x4 x5 x6 M _ _ ls hT h (lv_sub hl [0, 1, 2, 3, 4, 5, 6] rfl)
      · have hT := hT.1 hc6
        refine lv_iload hx hb dX8_fewestStrings_53 (lv_at hl 5 rfl) ?_
        refine lv_aload_n hx hb dX8_fewestStrings_55 rfl (lv_at hl 0 rfl) ?_
        refine lv_aload_n hx hb dX8_fewestStrings_56 rfl (lv_at hl 0 rfl) ?_
        refine fx_getR X h (k := 151) (j := 3) (r := 155) sh_151 rfl fl_RX8_21 dX8_fewestStrings_57 ?_
        refine lv_iload hx hb dX8_fewestStrings_60 (lv_at hl 4 rfl) ?_
        refine lv_iconst (v := 1) hx hb dX8_fewestStrings_62 (by decide) ?_
        refine lv_iload hx hb dX8_fewestStrings_63 (lv_at hl 6 rfl) ?_
        refine lv_ishl hx hb dX8_fewestStrings_65 ?_
        refine lv_ixor hx hb dX8_fewestStrings_66 ?_
        obtain ⟨hi7, hT⟩ := hT
        refine fx_iald X h (k := 155) sh_155 hi7 dX8_fewestStrings_67 ?_
        refine lv_aload_n hx hb dX8_fewestStrings_68 rfl (lv_at hl 1 rfl) ?_
        refine fx_getR X h (k := o1) (j := 1) (r := (rf o1 1)) (sc_Told o1 ho1) rfl fl_RX8_54 dX8_fewestStrings_69 ?_
        refine lv_iload hx hb dX8_fewestStrings_72 (lv_at hl 6 rfl) ?_
        obtain ⟨hi8, hT⟩ := hT
        refine fx_iald X h (k := (rf o1 1)) (sa_Told_1 o1 ho1) hi8 dX8_fewestStrings_74 ?_
        refine lv_iload_n hx hb dX8_fewestStrings_75 rfl (lv_at hl 2 rfl) ?_
        refine fx_vi X h ym_X8_cutOne yi_X8_cutOne ys_X8_cutOne (fx_s5 (List.mem_of_getElem? (i := 104) rfl) rfl) sh_151 rfl (c_X8_cutOne l G hT) (As := [.int (M 155 ((x4 ^^^ ((1 : Int32) <<< (x6 &&& 31)))).toNatClampNeg), .int (M (rf o1 1) (x6).toNatClampNeg), .int x2]) (rest := [.int x5]) rfl rfl ⟨Nat.le_of_ble_eq_true rfl, Nat.le_of_ble_eq_true rfl⟩ ⟨Nat.le_refl _, Nat.le_refl _⟩ hl.1 (Nat.le_of_ble_eq_true rfl) dX8_fewestStrings_76 (fun r11 M10 H locs hT h => ?_)
        refine va_mmin hx hb (hml.trans hl.1.symm) hown (hts _ (fx_s5 (List.mem_of_getElem? (i := 103) rfl) rfl)) (hts _ mt_min_s) (hts _ mt_i) (hts _ mt_min_c) (Nat.le_of_ble_eq_true rfl) (Nat.le_of_ble_eq_true rfl) (Nat.le_refl _) (Nat.le_refl _) dX8_fewestStrings_79 ?_
        refine lv_topi (fun y12 ey12 => ?_)
        have hT := hT y12 ey12
        refine lv_istore (lv' := [(5, .int y12), (0, .ref (G.2.2.2 + 151)), (1, .ref (G.2.2.2 + o1)), (2, .int x2), (3, .int x3), (4, .int x4), (6, .int x6)]) hx hb dX8_fewestStrings_82 hl (by decide) rfl (fun ls hl => ?_)
        exact w_X8_fewestStrings_84 ho1 X hr hk (B20 := B20) hB20 (B36 := (fun x2 x3 x4 x5 x6 M => T_X8_fewestStrings_36 B20 o1 n x2 x3 x4 x5 x6 M K)) ih x2 x3 x4 y12 x6 M10 _ _ ls hT h (lv_sub hl [1, 2, 3, 4, 5, 0, 6] rfl)
def T_X8_fewestStrings_20 (o1 : Nat) : Nat → Int32 → Int32 → Int32 → Mm → (Int32 → Mm → Prop) → Prop
  | 0, _, _, _, _, _ => False
  | n + 1, x2, x3, x4, M, K => ((((1 : Int32) <<< (x3 &&& 31)) ≤ x4 → (vp_in (((1 : Int32) <<< (x3 &&& 31)) - (1 : Int32)) 512 ∧ (K ((M 155 ((((1 : Int32) <<< (x3 &&& 31)) - (1 : Int32))).toNatClampNeg) / (100 : Int32)) M))) ∧ (¬ ((1 : Int32) <<< (x3 &&& 31)) ≤ x4 → (T_X8_fewestStrings_36 (fun x2 x3 x4 M => T_X8_fewestStrings_20 o1 n x2 x3 x4 M K) o1 5000 x2 x3 x4 (1000 : Int32) (0 : Int32) M K)))
set_option maxHeartbeats 4000000 in
set_option maxRecDepth 100000 in
theorem w_X8_fewestStrings_20 {p : Program} {l : Launch} {e : Env} {s : State} {m : MethodId} {args : Array Value} {below : List Frame} {meth : Method} {c : Code} {G : fx_G} {K : Int32 → Mm → Prop} {o1 : Nat} (ho1 : o1 ∈ id_Told) (X : fx_C G p s m c args cX8_fewestStrings 7 RX8) (hr : meth.sig.returnType = (some .int)) (hk : meth.locks = false) : ∀ (n : Nat) (x2 : Int32) (x3 : Int32) (x4 : Int32) (M : Mm) (H : Heap) (locs : List Loc) (ls : Array Slot), T_X8_fewestStrings_20 o1 n x2 x3 x4 M K → fx_H G SH M s H locs → lv_has ls 7 [(0, .ref (G.2.2.2 + 151)), (1, .ref (G.2.2.2 + o1)), (2, .int x2), (3, .int x3), (4, .int x4)] → W p l e (fx_rm (1)) s m args below meth c H locs 0 0 (MQ below (va_Qi K (fx_R G SH) (fx_A G)) args s 0 0 (fx_A G)) (F0 m 20 ls []) := by
  obtain ⟨⟨hx, hb, hml, hown, hts⟩, hK, hQ⟩ := id X
  intro n
  induction n with
  | zero =>
    intro x2 x3 x4 M H locs ls hT
    exact hT.elim
  | succ n ih =>
    intro x2 x3 x4 M H locs ls hT h hl
    rw [T_X8_fewestStrings_20] at hT
    refine lv_iload hx hb dX8_fewestStrings_20 (lv_at hl 4 rfl) ?_
    refine lv_iconst (v := 1) hx hb dX8_fewestStrings_22 (by decide) ?_
    refine lv_iload_n hx hb dX8_fewestStrings_23 rfl (lv_at hl 3 rfl) ?_
    refine lv_ishl hx hb dX8_fewestStrings_24 ?_
    refine lv_icmp_ge (tgt := 105) hx hb dX8_fewestStrings_25 (by decide) (fun hc13 => ?_) (fun hc13 => ?_)
    · have hT := hT.1 hc13
      refine lv_aload_n hx hb dX8_fewestStrings_105 rfl (lv_at hl 0 rfl) ?_
      refine fx_getR X h (k := 151) (j := 3) (r := 155) sh_151 rfl fl_RX8_21 dX8_fewestStrings_106 ?_
      refine lv_iconst (v := 1) hx hb dX8_fewestStrings_109 (by decide) ?_
      refine lv_iload_n hx hb dX8_fewestStrings_110 rfl (lv_at hl 3 rfl) ?_
      refine lv_ishl hx hb dX8_fewestStrings_111 ?_
      refine lv_iconst (v := 1) hx hb dX8_fewestStrings_112 (by decide) ?_
      refine lv_isub hx hb dX8_fewestStrings_113 ?_
      obtain ⟨hi14, hT⟩ := hT
      refine fx_iald X h (k := 155) sh_155 hi14 dX8_fewestStrings_114 ?_
      refine lv_bipush (v := 100) hx hb dX8_fewestStrings_115 (by decide) ?_
      refine lv_idiv hx hb dX8_fewestStrings_117 (by decide) ?_
      exact fx_iret X hr hk h hT dX8_fewestStrings_118
    · have hT := hT.2 hc13
      refine lv_sipush (v := 1000) hx hb dX8_fewestStrings_28 (by decide) ?_
      refine lv_istore (lv' := [(5, .int (1000 : Int32)), (0, .ref (G.2.2.2 + 151)), (1, .ref (G.2.2.2 + o1)), (2, .int x2), (3, .int x3), (4, .int x4)]) hx hb dX8_fewestStrings_31 hl (by decide) rfl (fun ls hl => ?_)
      refine lv_iconst (v := 0) hx hb dX8_fewestStrings_33 (by decide) ?_
      refine lv_istore (lv' := [(6, .int (0 : Int32)), (5, .int (1000 : Int32)), (0, .ref (G.2.2.2 + 151)), (1, .ref (G.2.2.2 + o1)), (2, .int x2), (3, .int x3), (4, .int x4)]) hx hb dX8_fewestStrings_34 hl (by decide) rfl (fun ls hl => ?_)
      exact w_X8_fewestStrings_36 ho1 X hr hk (B20 := (fun x2 x3 x4 M => T_X8_fewestStrings_20 o1 n x2 x3 x4 M K)) ih 5000 x2 x3 x4 (1000 : Int32) (0 : Int32) M _ _ ls hT h (lv_sub hl [2, 3, 4, 5, 6, 1, 0] rfl)
def T_X8_fewestStrings (o1 : Nat) (x2 : Int32) (M : Mm) (K : Int32 → Mm → Prop) : Prop := (∀ y15 : Int32, y15 = (if (9 : Int32) < (M o1 9) then (9 : Int32) else (M o1 9)) → (∀ M16 : Mm, M16 = m_up M 155 0 x2 → (T_X8_fewestStrings_20 o1 5000 x2 y15 (1 : Int32) M16 K)))
set_option maxHeartbeats 4000000 in
set_option maxRecDepth 100000 in
theorem c_X8_fewestStrings (l : Launch) (G : fx_G) {o1 : Nat} (ho1 : o1 ∈ id_Told) {x2 : Int32} {M : Mm} {K : Int32 → Mm → Prop} (hT : T_X8_fewestStrings o1 x2 M K) : Met l yX8_fewestStrings (fx_ws yX8_fewestStrings cX8_fewestStrings 7 (some .int)) (fx_rm (1)) (va_Pc [.ref (G.2.2.2 + 151), .ref (G.2.2.2 + o1), .int x2] (fx_P G SH M)) (va_Qi K (fx_R G SH) (fx_A G)) 0 0 (fx_A G) := by
  refine fx_met (own := RX8) (by decide +kernel) rfl (Nat.le_of_ble_eq_true rfl) (fun p e s m below meth c X hr hk h ls hl => ?_)
  obtain ⟨⟨hx, hb, hml, hown, hts⟩, hK, hQ⟩ := id X
  have hl : lv_has ls 7 [(0, .ref (G.2.2.2 + 151)), (1, .ref (G.2.2.2 + o1)), (2, .int x2)] := hl
  unfold T_X8_fewestStrings at hT
  refine lv_aload_n hx hb dX8_fewestStrings_0 rfl (lv_at hl 1 rfl) ?_
  refine fx_getI X h (k := o1) (j := 9) (sc_Told o1 ho1) rfl fl_RX8_45 dX8_fewestStrings_1 ?_
  refine lv_bipush (v := 9) hx hb dX8_fewestStrings_4 (by decide) ?_
  refine va_mmin hx hb (hml.trans hl.1.symm) hown (hts _ (fx_s5 (List.mem_of_getElem? (i := 103) rfl) rfl)) (hts _ mt_min_s) (hts _ mt_i) (hts _ mt_min_c) (Nat.le_of_ble_eq_true rfl) (Nat.le_of_ble_eq_true rfl) (Nat.le_refl _) (Nat.le_refl _) dX8_fewestStrings_6 ?_
  refine lv_topi (fun y15 ey15 => ?_)
  have hT := hT y15 ey15
  refine lv_istore_n (lv' := [(3, .int y15), (0, .ref (G.2.2.2 + 151)), (1, .ref (G.2.2.2 + o1)), (2, .int x2)]) hx hb dX8_fewestStrings_9 rfl hl (by decide) rfl (fun ls hl => ?_)
  refine lv_aload_n hx hb dX8_fewestStrings_10 rfl (lv_at hl 1 rfl) ?_
  refine fx_getR X h (k := 151) (j := 3) (r := 155) sh_151 rfl fl_RX8_21 dX8_fewestStrings_11 ?_
  refine lv_iconst (v := 0) hx hb dX8_fewestStrings_14 (by decide) ?_
  refine lv_iload_n hx hb dX8_fewestStrings_15 rfl (lv_at hl 3 rfl) ?_
  refine fx_iast X h (k := 155) sh_155 (by unfold vp_in; decide) dX8_fewestStrings_16 (fun H locs h => ?_)
  rw [show ((0 : Int32)).toNatClampNeg = 0 by decide] at h
  obtain ⟨M16, eM16⟩ : ∃ z : Mm, z = m_up M 155 0 x2 := ⟨_, rfl⟩
  have hT := hT M16 eM16
  rw [← eM16] at h
  refine lv_iconst (v := 1) hx hb dX8_fewestStrings_17 (by decide) ?_
  refine lv_istore (lv' := [(4, .int (1 : Int32)), (3, .int y15), (0, .ref (G.2.2.2 + 151)), (1, .ref (G.2.2.2 + o1)), (2, .int x2)]) hx hb dX8_fewestStrings_18 hl (by decide) rfl (fun ls hl => ?_)
  exact w_X8_fewestStrings_20 ho1 X hr hk 5000 x2 y15 (1 : Int32) M16 _ _ ls hT h (lv_sub hl [2, 3, 4, 1, 0] rfl)
/-! MockParcels$Sums.pointAll(LMockParcels$Told;I)V -/
theorem dX8_pointAll_0 : decode cX8_pointAll 0 = .ok (.iconst 0, 1) := by decide +kernel
theorem dX8_pointAll_1 : decode cX8_pointAll 1 = .ok (.istore_n 3, 1) := by decide +kernel
theorem dX8_pointAll_2 : decode cX8_pointAll 2 = .ok (.iload_n 3, 1) := by decide +kernel
theorem dX8_pointAll_3 : decode cX8_pointAll 3 = .ok (.bipush 8, 2) := by decide +kernel
theorem dX8_pointAll_5 : decode cX8_pointAll 5 = .ok (.if_icmp .ge 63, 3) := by decide +kernel
theorem dX8_pointAll_8 : decode cX8_pointAll 8 = .ok (.aload_n 0, 1) := by decide +kernel
theorem dX8_pointAll_9 : decode cX8_pointAll 9 = .ok (.getfield 30, 3) := by decide +kernel
theorem dX8_pointAll_12 : decode cX8_pointAll 12 = .ok (.iload_n 3, 1) := by decide +kernel
theorem dX8_pointAll_13 : decode cX8_pointAll 13 = .ok (.iload_n 3, 1) := by decide +kernel
theorem dX8_pointAll_14 : decode cX8_pointAll 14 = .ok (.iastore, 1) := by decide +kernel
theorem dX8_pointAll_15 : decode cX8_pointAll 15 = .ok (.bipush 7, 2) := by decide +kernel
theorem dX8_pointAll_17 : decode cX8_pointAll 17 = .ok (.istore 4, 2) := by decide +kernel
theorem dX8_pointAll_19 : decode cX8_pointAll 19 = .ok (.iload 4, 2) := by decide +kernel
theorem dX8_pointAll_21 : decode cX8_pointAll 21 = .ok (.ifCond .lt 41, 3) := by decide +kernel
theorem dX8_pointAll_24 : decode cX8_pointAll 24 = .ok (.aload_n 1, 1) := by decide +kernel
theorem dX8_pointAll_25 : decode cX8_pointAll 25 = .ok (.getfield 69, 3) := by decide +kernel
theorem dX8_pointAll_28 : decode cX8_pointAll 28 = .ok (.iload_n 3, 1) := by decide +kernel
theorem dX8_pointAll_29 : decode cX8_pointAll 29 = .ok (.bipush 8, 2) := by decide +kernel
theorem dX8_pointAll_31 : decode cX8_pointAll 31 = .ok (.imul, 1) := by decide +kernel
theorem dX8_pointAll_32 : decode cX8_pointAll 32 = .ok (.iload 4, 2) := by decide +kernel
theorem dX8_pointAll_34 : decode cX8_pointAll 34 = .ok (.iadd, 1) := by decide +kernel
theorem dX8_pointAll_35 : decode cX8_pointAll 35 = .ok (.iaload, 1) := by decide +kernel
theorem dX8_pointAll_36 : decode cX8_pointAll 36 = .ok (.istore 5, 2) := by decide +kernel
theorem dX8_pointAll_38 : decode cX8_pointAll 38 = .ok (.iload_n 2, 1) := by decide +kernel
theorem dX8_pointAll_39 : decode cX8_pointAll 39 = .ok (.iload 5, 2) := by decide +kernel
theorem dX8_pointAll_41 : decode cX8_pointAll 41 = .ok (.ishr, 1) := by decide +kernel
theorem dX8_pointAll_42 : decode cX8_pointAll 42 = .ok (.iconst 1, 1) := by decide +kernel
theorem dX8_pointAll_43 : decode cX8_pointAll 43 = .ok (.iand, 1) := by decide +kernel
theorem dX8_pointAll_44 : decode cX8_pointAll 44 = .ok (.iconst 1, 1) := by decide +kernel
theorem dX8_pointAll_45 : decode cX8_pointAll 45 = .ok (.if_icmp .ne 11, 3) := by decide +kernel
theorem dX8_pointAll_48 : decode cX8_pointAll 48 = .ok (.aload_n 0, 1) := by decide +kernel
theorem dX8_pointAll_49 : decode cX8_pointAll 49 = .ok (.getfield 30, 3) := by decide +kernel
theorem dX8_pointAll_52 : decode cX8_pointAll 52 = .ok (.iload_n 3, 1) := by decide +kernel
theorem dX8_pointAll_53 : decode cX8_pointAll 53 = .ok (.iload 5, 2) := by decide +kernel
theorem dX8_pointAll_55 : decode cX8_pointAll 55 = .ok (.iastore, 1) := by decide +kernel
theorem dX8_pointAll_56 : decode cX8_pointAll 56 = .ok (.iinc 4 (-1), 3) := by decide +kernel
theorem dX8_pointAll_59 : decode cX8_pointAll 59 = .ok (.goto (-40), 3) := by decide +kernel
theorem dX8_pointAll_62 : decode cX8_pointAll 62 = .ok (.iinc 3 1, 3) := by decide +kernel
theorem dX8_pointAll_65 : decode cX8_pointAll 65 = .ok (.goto (-63), 3) := by decide +kernel
theorem dX8_pointAll_68 : decode cX8_pointAll 68 = .ok (.return_, 1) := by decide +kernel
def T_X8_pointAll_56 (B2 : Int32 → Int32 → Mm → Prop) (B19 : Int32 → Int32 → Int32 → Mm → Prop) (o1 : Nat) (x2 : Int32) (x3 : Int32) (x4 : Int32) (M : Mm) (K : Mm → Prop) : Prop := (∀ y1 : Int32, y1 = x4 + (-1 : Int32) → (B19 x2 x3 y1 M))
set_option maxHeartbeats 4000000 in
set_option maxRecDepth 100000 in
theorem w_X8_pointAll_56 {p : Program} {l : Launch} {e : Env} {s : State} {m : MethodId} {args : Array Value} {below : List Frame} {meth : Method} {c : Code} {G : fx_G} {K : Mm → Prop} {B2 : Int32 → Int32 → Mm → Prop} {B19 : Int32 → Int32 → Int32 → Mm → Prop} {o1 : Nat} (ho1 : o1 ∈ id_Told) (X : fx_C G p s m c args cX8_pointAll 6 RX8) (hr : meth.sig.returnType = none) (hk : meth.locks = false) (hB2 : ∀ (x2 : Int32) (x3 : Int32) (M : Mm) (H : Heap) (locs : List Loc) (ls : Array Slot), B2 x2 x3 M → fx_H G SH M s H locs → lv_has ls 6 [(0, .ref (G.2.2.2 + 151)), (1, .ref (G.2.2.2 + o1)), (2, .int x2), (3, .int x3)] → W p l e (fx_rm (0)) s m args below meth c H locs 0 0 (MQ below (va_Qv K (fx_R G SH) (fx_A G)) args s 0 0 (fx_A G)) (F0 m 2 ls [])) (hB19 : ∀ (x2 : Int32) (x3 : Int32) (x4 : Int32) (M : Mm) (H : Heap) (locs : List Loc) (ls : Array Slot), B19 x2 x3 x4 M → fx_H G SH M s H locs → lv_has ls 6 [(0, .ref (G.2.2.2 + 151)), (1, .ref (G.2.2.2 + o1)), (2, .int x2), (3, .int x3), (4, .int x4)] → W p l e (fx_rm (0)) s m args below meth c H locs 0 0 (MQ below (va_Qv K (fx_R G SH) (fx_A G)) args s 0 0 (fx_A G)) (F0 m 19 ls [])) : ∀ (x2 : Int32) (x3 : Int32) (x4 : Int32) (M : Mm) (H : Heap) (locs : List Loc) (ls : Array Slot), T_X8_pointAll_56 B2 B19 o1 x2 x3 x4 M K → fx_H G SH M s H locs → lv_has ls 6 [(0, .ref (G.2.2.2 + 151)), (1, .ref (G.2.2.2 + o1)), (2, .int x2), (3, .int x3), (4, .int x4)] → W p l e (fx_rm (0)) s m args below meth c H locs 0 0 (MQ below (va_Qv K (fx_R G SH) (fx_A G)) args s 0 0 (fx_A G)) (F0 m 56 ls []) := by
  obtain ⟨⟨hx, hb, hml, hown, hts⟩, hK, hQ⟩ := id X
  intro x2 x3 x4 M H locs ls hT h hl
  unfold T_X8_pointAll_56 at hT
  obtain ⟨y1, ey1⟩ : ∃ z : Int32, z = x4 + (-1 : Int32) := ⟨_, rfl⟩
  have hT := hT y1 ey1
  refine lv_iinc (v := y1) (lv' := [(4, .int y1), (0, .ref (G.2.2.2 + 151)), (1, .ref (G.2.2.2 + o1)), (2, .int x2), (3, .int x3)]) hx hb dX8_pointAll_56 hl (k := 4) rfl (by rw [ey1]; rfl) (by decide) rfl (fun ls hl => ?_)
  refine lv_goto (tgt := 19) hx hb dX8_pointAll_59 (by decide) ?_
  exact hB19 x2 x3 y1 M _ _ ls hT h (lv_sub hl [1, 2, 3, 4, 0] rfl)
def T_X8_pointAll_19 (B2 : Int32 → Int32 → Mm → Prop) (o1 : Nat) : Nat → Int32 → Int32 → Int32 → Mm → (Mm → Prop) → Prop
  | 0, _, _, _, _, _ => False
  | n + 1, x2, x3, x4, M, K => ((x4 < 0 → (∀ y3 : Int32, y3 = x3 + (1 : Int32) → (B2 x2 y3 M))) ∧ (¬ x4 < 0 → (vp_in ((x3 * (8 : Int32)) + x4) 64 ∧ (∀ y5 : Int32, y5 = (M (rf o1 3) (((x3 * (8 : Int32)) + x4)).toNatClampNeg) → ((((x2 >>> (y5 &&& 31)) &&& (1 : Int32)) = (1 : Int32) → (vp_in x3 8 ∧ (∀ M7 : Mm, M7 = m_up M 158 (x3).toNatClampNeg y5 → (T_X8_pointAll_56 B2 (fun x2 x3 x4 M => T_X8_pointAll_19 B2 o1 n x2 x3 x4 M K) o1 x2 x3 x4 M7 K)))) ∧ (¬ ((x2 >>> (y5 &&& 31)) &&& (1 : Int32)) = (1 : Int32) → (T_X8_pointAll_56 B2 (fun x2 x3 x4 M => T_X8_pointAll_19 B2 o1 n x2 x3 x4 M K) o1 x2 x3 x4 M K)))))))
set_option maxHeartbeats 4000000 in
set_option maxRecDepth 100000 in
theorem w_X8_pointAll_19 {p : Program} {l : Launch} {e : Env} {s : State} {m : MethodId} {args : Array Value} {below : List Frame} {meth : Method} {c : Code} {G : fx_G} {K : Mm → Prop} {B2 : Int32 → Int32 → Mm → Prop} {o1 : Nat} (ho1 : o1 ∈ id_Told) (X : fx_C G p s m c args cX8_pointAll 6 RX8) (hr : meth.sig.returnType = none) (hk : meth.locks = false) (hB2 : ∀ (x2 : Int32) (x3 : Int32) (M : Mm) (H : Heap) (locs : List Loc) (ls : Array Slot), B2 x2 x3 M → fx_H G SH M s H locs → lv_has ls 6 [(0, .ref (G.2.2.2 + 151)), (1, .ref (G.2.2.2 + o1)), (2, .int x2), (3, .int x3)] → W p l e (fx_rm (0)) s m args below meth c H locs 0 0 (MQ below (va_Qv K (fx_R G SH) (fx_A G)) args s 0 0 (fx_A G)) (F0 m 2 ls [])) : ∀ (n : Nat) (x2 : Int32) (x3 : Int32) (x4 : Int32) (M : Mm) (H : Heap) (locs : List Loc) (ls : Array Slot), T_X8_pointAll_19 B2 o1 n x2 x3 x4 M K → fx_H G SH M s H locs → lv_has ls 6 [(0, .ref (G.2.2.2 + 151)), (1, .ref (G.2.2.2 + o1)), (2, .int x2), (3, .int x3), (4, .int x4)] → W p l e (fx_rm (0)) s m args below meth c H locs 0 0 (MQ below (va_Qv K (fx_R G SH) (fx_A G)) args s 0 0 (fx_A G)) (F0 m 19 ls []) := by
  obtain ⟨⟨hx, hb, hml, hown, hts⟩, hK, hQ⟩ := id X
  intro n
  induction n with
  | zero =>
    intro x2 x3 x4 M H locs ls hT
    exact hT.elim
  | succ n ih =>
    intro x2 x3 x4 M H locs ls hT h hl
    rw [T_X8_pointAll_19] at hT
    refine lv_iload hx hb dX8_pointAll_19 (lv_at hl 4 rfl) ?_
    refine lv_if_lt (tgt := 62) hx hb dX8_pointAll_21 (by decide) (fun hc2 => ?_) (fun hc2 => ?_)
    · have hT := hT.1 hc2
      obtain ⟨y3, ey3⟩ : ∃ z : Int32, z = x3 + (1 : Int32) := ⟨_, rfl⟩
      have hT := hT y3 ey3
      refine lv_iinc (v := y3) (lv' := [(3, .int y3), (0, .ref (G.2.2.2 + 151)), (1, .ref (G.2.2.2 + o1)), (2, .int x2), (4, .int x4)]) hx hb dX8_pointAll_62 hl (k := 3) rfl (by rw [ey3]; rfl) (by decide) rfl (fun ls hl => ?_)
      refine lv_goto (tgt := 2) hx hb dX8_pointAll_65 (by decide) ?_
      exact hB2 x2 y3 M _ _ ls hT h (lv_sub hl [1, 2, 3, 0] rfl)
    · have hT := hT.2 hc2
      refine lv_aload_n hx hb dX8_pointAll_24 rfl (lv_at hl 1 rfl) ?_
      refine fx_getR X h (k := o1) (j := 3) (r := (rf o1 3)) (sc_Told o1 ho1) rfl fl_RX8_69 dX8_pointAll_25 ?_
      refine lv_iload_n hx hb dX8_pointAll_28 rfl (lv_at hl 3 rfl) ?_
      refine lv_bipush (v := 8) hx hb dX8_pointAll_29 (by decide) ?_
      refine lv_imul hx hb dX8_pointAll_31 ?_
      refine lv_iload hx hb dX8_pointAll_32 (lv_at hl 4 rfl) ?_
      refine lv_iadd hx hb dX8_pointAll_34 ?_
      obtain ⟨hi4, hT⟩ := hT
      refine fx_iald X h (k := (rf o1 3)) (sa_Told_3 o1 ho1) hi4 dX8_pointAll_35 ?_
      refine lv_topi (fun y5 ey5 => ?_)
      have hT := hT y5 ey5
      refine lv_istore (lv' := [(5, .int y5), (0, .ref (G.2.2.2 + 151)), (1, .ref (G.2.2.2 + o1)), (2, .int x2), (3, .int x3), (4, .int x4)]) hx hb dX8_pointAll_36 hl (by decide) rfl (fun ls hl => ?_)
      refine lv_iload_n hx hb dX8_pointAll_38 rfl (lv_at hl 3 rfl) ?_
      refine lv_iload hx hb dX8_pointAll_39 (lv_at hl 0 rfl) ?_
      refine lv_ishr hx hb dX8_pointAll_41 ?_
      refine lv_iconst (v := 1) hx hb dX8_pointAll_42 (by decide) ?_
      refine lv_iand hx hb dX8_pointAll_43 ?_
      refine lv_iconst (v := 1) hx hb dX8_pointAll_44 (by decide) ?_
      refine lv_icmp_ne (tgt := 56) hx hb dX8_pointAll_45 (by decide) (fun hc6 => ?_) (fun hc6 => ?_)
      · have hT := hT.2 hc6
        exact w_X8_pointAll_56 ho1 X hr hk (B2 := B2) hB2 (B19 := (fun x2 x3 x4 M => T_X8_pointAll_19 B2 o1 n x2 x3 x4 M K)) ih x2 x3 x4 M _ _ ls hT h (lv_sub hl [1, 2, 3, 4, 5] rfl)
      · have hT := hT.1 hc6
        refine lv_aload_n hx hb dX8_pointAll_48 rfl (lv_at hl 1 rfl) ?_
        refine fx_getR X h (k := 151) (j := 6) (r := 158) sh_151 rfl fl_RX8_30 dX8_pointAll_49 ?_
        refine lv_iload_n hx hb dX8_pointAll_52 rfl (lv_at hl 4 rfl) ?_
        refine lv_iload hx hb dX8_pointAll_53 (lv_at hl 0 rfl) ?_
        obtain ⟨hi8, hT⟩ := hT
        refine fx_iast X h (k := 158) sh_158 hi8 dX8_pointAll_55 (fun H locs h => ?_)
        obtain ⟨M7, eM7⟩ : ∃ z : Mm, z = m_up M 158 (x3).toNatClampNeg y5 := ⟨_, rfl⟩
        have hT := hT M7 eM7
        rw [← eM7] at h
        exact w_X8_pointAll_56 ho1 X hr hk (B2 := B2) hB2 (B19 := (fun x2 x3 x4 M => T_X8_pointAll_19 B2 o1 n x2 x3 x4 M K)) ih x2 x3 x4 M7 _ _ ls hT h (lv_sub hl [1, 2, 3, 4, 5] rfl)
def T_X8_pointAll_2 (o1 : Nat) : Nat → Int32 → Int32 → Mm → (Mm → Prop) → Prop
  | 0, _, _, _, _ => False
  | n + 1, x2, x3, M, K => (((8 : Int32) ≤ x3 → (K M)) ∧ (¬ (8 : Int32) ≤ x3 → (vp_in x3 8 ∧ (∀ M10 : Mm, M10 = m_up M 158 (x3).toNatClampNeg x3 → (T_X8_pointAll_19 (fun x2 x3 M => T_X8_pointAll_2 o1 n x2 x3 M K) o1 5000 x2 x3 (7 : Int32) M10 K)))))
set_option maxHeartbeats 4000000 in
set_option maxRecDepth 100000 in
theorem w_X8_pointAll_2 {p : Program} {l : Launch} {e : Env} {s : State} {m : MethodId} {args : Array Value} {below : List Frame} {meth : Method} {c : Code} {G : fx_G} {K : Mm → Prop} {o1 : Nat} (ho1 : o1 ∈ id_Told) (X : fx_C G p s m c args cX8_pointAll 6 RX8) (hr : meth.sig.returnType = none) (hk : meth.locks = false) : ∀ (n : Nat) (x2 : Int32) (x3 : Int32) (M : Mm) (H : Heap) (locs : List Loc) (ls : Array Slot), T_X8_pointAll_2 o1 n x2 x3 M K → fx_H G SH M s H locs → lv_has ls 6 [(0, .ref (G.2.2.2 + 151)), (1, .ref (G.2.2.2 + o1)), (2, .int x2), (3, .int x3)] → W p l e (fx_rm (0)) s m args below meth c H locs 0 0 (MQ below (va_Qv K (fx_R G SH) (fx_A G)) args s 0 0 (fx_A G)) (F0 m 2 ls []) := by
  obtain ⟨⟨hx, hb, hml, hown, hts⟩, hK, hQ⟩ := id X
  intro n
  induction n with
  | zero =>
    intro x2 x3 M H locs ls hT
    exact hT.elim
  | succ n ih =>
    intro x2 x3 M H locs ls hT h hl
    rw [T_X8_pointAll_2] at hT
    refine lv_iload_n hx hb dX8_pointAll_2 rfl (lv_at hl 3 rfl) ?_
    refine lv_bipush (v := 8) hx hb dX8_pointAll_3 (by decide) ?_
    refine lv_icmp_ge (tgt := 68) hx hb dX8_pointAll_5 (by decide) (fun hc9 => ?_) (fun hc9 => ?_)
    · have hT := hT.1 hc9
      exact fx_vret X hr hk h hT dX8_pointAll_68
    · have hT := hT.2 hc9
      refine lv_aload_n hx hb dX8_pointAll_8 rfl (lv_at hl 0 rfl) ?_
      refine fx_getR X h (k := 151) (j := 6) (r := 158) sh_151 rfl fl_RX8_30 dX8_pointAll_9 ?_
      refine lv_iload_n hx hb dX8_pointAll_12 rfl (lv_at hl 3 rfl) ?_
      refine lv_iload_n hx hb dX8_pointAll_13 rfl (lv_at hl 3 rfl) ?_
      obtain ⟨hi11, hT⟩ := hT
      refine fx_iast X h (k := 158) sh_158 hi11 dX8_pointAll_14 (fun H locs h => ?_)
      obtain ⟨M10, eM10⟩ : ∃ z : Mm, z = m_up M 158 (x3).toNatClampNeg x3 := ⟨_, rfl⟩
      have hT := hT M10 eM10
      rw [← eM10] at h
      refine lv_bipush (v := 7) hx hb dX8_pointAll_15 (by decide) ?_
      refine lv_istore (lv' := [(4, .int (7 : Int32)), (0, .ref (G.2.2.2 + 151)), (1, .ref (G.2.2.2 + o1)), (2, .int x2), (3, .int x3)]) hx hb dX8_pointAll_17 hl (by decide) rfl (fun ls hl => ?_)
      exact w_X8_pointAll_19 ho1 X hr hk (B2 := (fun x2 x3 M => T_X8_pointAll_2 o1 n x2 x3 M K)) ih 5000 x2 x3 (7 : Int32) M10 _ _ ls hT h (lv_sub hl [1, 2, 3, 4, 0] rfl)
def T_X8_pointAll (o1 : Nat) (x2 : Int32) (M : Mm) (K : Mm → Prop) : Prop := (T_X8_pointAll_2 o1 5000 x2 (0 : Int32) M K)
set_option maxHeartbeats 4000000 in
set_option maxRecDepth 100000 in
theorem c_X8_pointAll (l : Launch) (G : fx_G) {o1 : Nat} (ho1 : o1 ∈ id_Told) {x2 : Int32} {M : Mm} {K : Mm → Prop} (hT : T_X8_pointAll o1 x2 M K) : Met l yX8_pointAll (fx_ws yX8_pointAll cX8_pointAll 6 none) (fx_rm (0)) (va_Pc [.ref (G.2.2.2 + 151), .ref (G.2.2.2 + o1), .int x2] (fx_P G SH M)) (va_Qv K (fx_R G SH) (fx_A G)) 0 0 (fx_A G) := by
  refine fx_met (own := RX8) (by decide +kernel) rfl (Nat.le_of_ble_eq_true rfl) (fun p e s m below meth c X hr hk h ls hl => ?_)
  obtain ⟨⟨hx, hb, hml, hown, hts⟩, hK, hQ⟩ := id X
  have hl : lv_has ls 6 [(0, .ref (G.2.2.2 + 151)), (1, .ref (G.2.2.2 + o1)), (2, .int x2)] := hl
  unfold T_X8_pointAll at hT
  refine lv_iconst (v := 0) hx hb dX8_pointAll_0 (by decide) ?_
  refine lv_istore_n (lv' := [(3, .int (0 : Int32)), (0, .ref (G.2.2.2 + 151)), (1, .ref (G.2.2.2 + o1)), (2, .int x2)]) hx hb dX8_pointAll_1 rfl hl (by decide) rfl (fun ls hl => ?_)
  exact w_X8_pointAll_2 ho1 X hr hk 5000 x2 (0 : Int32) M _ _ ls hT h (lv_sub hl [1, 2, 3, 0] rfl)
/-! MockParcels$Sums.goesRound(I)Z -/
theorem dX8_goesRound_0 : decode cX8_goesRound 0 = .ok (.aload_n 0, 1) := by decide +kernel
theorem dX8_goesRound_1 : decode cX8_goesRound 1 = .ok (.getfield 30, 3) := by decide +kernel
theorem dX8_goesRound_4 : decode cX8_goesRound 4 = .ok (.iload_n 1, 1) := by decide +kernel
theorem dX8_goesRound_5 : decode cX8_goesRound 5 = .ok (.iaload, 1) := by decide +kernel
theorem dX8_goesRound_6 : decode cX8_goesRound 6 = .ok (.istore_n 2, 1) := by decide +kernel
theorem dX8_goesRound_7 : decode cX8_goesRound 7 = .ok (.iconst 0, 1) := by decide +kernel
theorem dX8_goesRound_8 : decode cX8_goesRound 8 = .ok (.istore_n 3, 1) := by decide +kernel
theorem dX8_goesRound_9 : decode cX8_goesRound 9 = .ok (.iload_n 3, 1) := by decide +kernel
theorem dX8_goesRound_10 : decode cX8_goesRound 10 = .ok (.bipush 8, 2) := by decide +kernel
theorem dX8_goesRound_12 : decode cX8_goesRound 12 = .ok (.if_icmp .ge 31, 3) := by decide +kernel
theorem dX8_goesRound_15 : decode cX8_goesRound 15 = .ok (.iload_n 2, 1) := by decide +kernel
theorem dX8_goesRound_16 : decode cX8_goesRound 16 = .ok (.iload_n 1, 1) := by decide +kernel
theorem dX8_goesRound_17 : decode cX8_goesRound 17 = .ok (.if_icmp .eq 26, 3) := by decide +kernel
theorem dX8_goesRound_20 : decode cX8_goesRound 20 = .ok (.iload_n 2, 1) := by decide +kernel
theorem dX8_goesRound_21 : decode cX8_goesRound 21 = .ok (.iconst 0, 1) := by decide +kernel
theorem dX8_goesRound_22 : decode cX8_goesRound 22 = .ok (.bipush 7, 2) := by decide +kernel
theorem dX8_goesRound_24 : decode cX8_goesRound 24 = .ok (.invokestatic 72, 3) := by decide +kernel
theorem dX8_goesRound_27 : decode cX8_goesRound 27 = .ok (.ifCond .eq 16, 3) := by decide +kernel
theorem dX8_goesRound_30 : decode cX8_goesRound 30 = .ok (.aload_n 0, 1) := by decide +kernel
theorem dX8_goesRound_31 : decode cX8_goesRound 31 = .ok (.getfield 30, 3) := by decide +kernel
theorem dX8_goesRound_34 : decode cX8_goesRound 34 = .ok (.iload_n 2, 1) := by decide +kernel
theorem dX8_goesRound_35 : decode cX8_goesRound 35 = .ok (.iaload, 1) := by decide +kernel
theorem dX8_goesRound_36 : decode cX8_goesRound 36 = .ok (.istore_n 2, 1) := by decide +kernel
theorem dX8_goesRound_37 : decode cX8_goesRound 37 = .ok (.iinc 3 1, 3) := by decide +kernel
theorem dX8_goesRound_40 : decode cX8_goesRound 40 = .ok (.goto (-31), 3) := by decide +kernel
theorem dX8_goesRound_43 : decode cX8_goesRound 43 = .ok (.iload_n 2, 1) := by decide +kernel
theorem dX8_goesRound_44 : decode cX8_goesRound 44 = .ok (.iload_n 1, 1) := by decide +kernel
theorem dX8_goesRound_45 : decode cX8_goesRound 45 = .ok (.if_icmp .ne 7, 3) := by decide +kernel
theorem dX8_goesRound_48 : decode cX8_goesRound 48 = .ok (.iconst 1, 1) := by decide +kernel
theorem dX8_goesRound_49 : decode cX8_goesRound 49 = .ok (.goto 4, 3) := by decide +kernel
theorem dX8_goesRound_52 : decode cX8_goesRound 52 = .ok (.iconst 0, 1) := by decide +kernel
theorem dX8_goesRound_53 : decode cX8_goesRound 53 = .ok (.ireturn, 1) := by decide +kernel
def T_X8_goesRound_43 (x1 : Int32) (x2 : Int32) (M : Mm) (K : Int32 → Mm → Prop) : Prop := ((x2 = x1 → (K (1 : Int32) M)) ∧ (¬ x2 = x1 → (K (0 : Int32) M)))
set_option maxHeartbeats 4000000 in
set_option maxRecDepth 100000 in
theorem w_X8_goesRound_43 {p : Program} {l : Launch} {e : Env} {s : State} {m : MethodId} {args : Array Value} {below : List Frame} {meth : Method} {c : Code} {G : fx_G} {K : Int32 → Mm → Prop} (X : fx_C G p s m c args cX8_goesRound 4 RX8) (hr : meth.sig.returnType = (some .boolean)) (hk : meth.locks = false) : ∀ (x1 : Int32) (x2 : Int32) (M : Mm) (H : Heap) (locs : List Loc) (ls : Array Slot), T_X8_goesRound_43 x1 x2 M K → fx_H G SH M s H locs → lv_has ls 4 [(1, .int x1), (2, .int x2)] → W p l e (fx_rm (1)) s m args below meth c H locs 0 0 (MQ below (va_Qi K (fx_R G SH) (fx_A G)) args s 0 0 (fx_A G)) (F0 m 43 ls []) := by
  obtain ⟨⟨hx, hb, hml, hown, hts⟩, hK, hQ⟩ := id X
  intro x1 x2 M H locs ls hT h hl
  unfold T_X8_goesRound_43 at hT
  refine lv_iload_n hx hb dX8_goesRound_43 rfl (lv_at hl 1 rfl) ?_
  refine lv_iload_n hx hb dX8_goesRound_44 rfl (lv_at hl 0 rfl) ?_
  refine lv_icmp_ne (tgt := 52) hx hb dX8_goesRound_45 (by decide) (fun hc1 => ?_) (fun hc1 => ?_)
  · have hT := hT.2 hc1
    refine lv_iconst (v := 0) hx hb dX8_goesRound_52 (by decide) ?_
    exact fx_zret X hr hk h (Or.inl rfl) hT dX8_goesRound_53
  · have hT := hT.1 hc1
    refine lv_iconst (v := 1) hx hb dX8_goesRound_48 (by decide) ?_
    refine lv_goto (tgt := 53) hx hb dX8_goesRound_49 (by decide) ?_
    exact fx_zret X hr hk h (Or.inr rfl) hT dX8_goesRound_53
def T_X8_goesRound_9 : Nat → Int32 → Int32 → Int32 → Mm → (Int32 → Mm → Prop) → Prop
  | 0, _, _, _, _, _ => False
  | n + 1, x1, x2, x3, M, K => (((8 : Int32) ≤ x3 → (T_X8_goesRound_43 x1 x2 M K)) ∧ (¬ (8 : Int32) ≤ x3 → ((x2 = x1 → (T_X8_goesRound_43 x1 x2 M K)) ∧ (¬ x2 = x1 → (T_X11_isWithin x2 (0 : Int32) (7 : Int32) M (fun r6 M5 => ((r6 = 0 → (T_X8_goesRound_43 x1 x2 M5 K)) ∧ (¬ r6 = 0 → (vp_in x2 8 ∧ (∀ y9 : Int32, y9 = (M5 158 (x2).toNatClampNeg) → (∀ y10 : Int32, y10 = x3 + (1 : Int32) → (T_X8_goesRound_9 n x1 y9 y10 M5 K))))))))))))
set_option maxHeartbeats 4000000 in
set_option maxRecDepth 100000 in
theorem w_X8_goesRound_9 {p : Program} {l : Launch} {e : Env} {s : State} {m : MethodId} {args : Array Value} {below : List Frame} {meth : Method} {c : Code} {G : fx_G} {K : Int32 → Mm → Prop} (X : fx_C G p s m c args cX8_goesRound 4 RX8) (hr : meth.sig.returnType = (some .boolean)) (hk : meth.locks = false) : ∀ (n : Nat) (x1 : Int32) (x2 : Int32) (x3 : Int32) (M : Mm) (H : Heap) (locs : List Loc) (ls : Array Slot), T_X8_goesRound_9 n x1 x2 x3 M K → fx_H G SH M s H locs → lv_has ls 4 [(0, .ref (G.2.2.2 + 151)), (1, .int x1), (2, .int x2), (3, .int x3)] → W p l e (fx_rm (1)) s m args below meth c H locs 0 0 (MQ below (va_Qi K (fx_R G SH) (fx_A G)) args s 0 0 (fx_A G)) (F0 m 9 ls []) := by
  obtain ⟨⟨hx, hb, hml, hown, hts⟩, hK, hQ⟩ := id X
  intro n
  induction n with
  | zero =>
    intro x1 x2 x3 M H locs ls hT
    exact hT.elim
  | succ n ih =>
    intro x1 x2 x3 M H locs ls hT h hl
    rw [T_X8_goesRound_9] at hT
    refine lv_iload_n hx hb dX8_goesRound_9 rfl (lv_at hl 3 rfl) ?_
    refine lv_bipush (v := 8) hx hb dX8_goesRound_10 (by decide) ?_
    refine lv_icmp_ge (tgt := 43) hx hb dX8_goesRound_12 (by decide) (fun hc2 => ?_) (fun hc2 => ?_)
    · have hT := hT.1 hc2
      exact w_X8_goesRound_43 X hr hk x1 x2 M _ _ ls hT h (lv_sub hl [1, 2] rfl)
    · have hT := hT.2 hc2
      refine lv_iload_n hx hb dX8_goesRound_15 rfl (lv_at hl 2 rfl) ?_
      refine lv_iload_n hx hb dX8_goesRound_16 rfl (lv_at hl 1 rfl) ?_
      refine lv_icmp_eq (tgt := 43) hx hb dX8_goesRound_17 (by decide) (fun hc3 => ?_) (fun hc3 => ?_)
      · have hT := hT.1 hc3
        exact w_X8_goesRound_43 X hr hk x1 x2 M _ _ ls hT h (lv_sub hl [1, 2] rfl)
      · have hT := hT.2 hc3
        refine lv_iload_n hx hb dX8_goesRound_20 rfl (lv_at hl 2 rfl) ?_
        refine lv_iconst (v := 0) hx hb dX8_goesRound_21 (by decide) ?_
        refine lv_bipush (v := 7) hx hb dX8_goesRound_22 (by decide) ?_
        refine fx_ni X h ym_X11_isWithin yt_X11_isWithin (nq_RX8_72) (c_X11_isWithin l G hT) (As := [.int x2, .int (0 : Int32), .int (7 : Int32)]) (rest := []) rfl rfl ⟨Nat.le_of_ble_eq_true rfl, Nat.le_of_ble_eq_true rfl⟩ ⟨Nat.le_refl _, Nat.le_refl _⟩ hl.1 (Nat.le_of_ble_eq_true rfl) dX8_goesRound_24 (fun r6 M5 H locs hT h => ?_)
        refine lv_if_eq (tgt := 43) hx hb dX8_goesRound_27 (by decide) (fun hc7 => ?_) (fun hc7 => ?_)
        · have hT := hT.1 hc7
          exact w_X8_goesRound_43 X hr hk x1 x2 M5 _ _ ls hT h (lv_sub hl [1, 2] rfl)
        · have hT := hT.2 hc7
          refine lv_aload_n hx hb dX8_goesRound_30 rfl (lv_at hl 0 rfl) ?_
          refine fx_getR X h (k := 151) (j := 6) (r := 158) sh_151 rfl fl_RX8_30 dX8_goesRound_31 ?_
          refine lv_iload_n hx hb dX8_goesRound_34 rfl (lv_at hl 2 rfl) ?_
          obtain ⟨hi8, hT⟩ := hT
          refine fx_iald X h (k := 158) sh_158 hi8 dX8_goesRound_35 ?_
          refine lv_topi (fun y9 ey9 => ?_)
          have hT := hT y9 ey9
          refine lv_istore_n (lv' := [(2, .int y9), (0, .ref (G.2.2.2 + 151)), (1, .int x1), (3, .int x3)]) hx hb dX8_goesRound_36 rfl hl (by decide) rfl (fun ls hl => ?_)
          obtain ⟨y10, ey10⟩ : ∃ z : Int32, z = x3 + (1 : Int32) := ⟨_, rfl⟩
          have hT := hT y10 ey10
          refine lv_iinc (v := y10) (lv' := [(3, .int y10), (2, .int y9), (0, .ref (G.2.2.2 + 151)), (1, .int x1)]) hx hb dX8_goesRound_37 hl (k := 3) rfl (by rw [ey10]; rfl) (by decide) rfl (fun ls hl => ?_)
          refine lv_goto (tgt := 9) hx hb dX8_goesRound_40 (by decide) ?_
          exact ih x1 y9 y10 M5 _ _ ls hT h (lv_sub hl [2, 3, 1, 0] rfl)
def T_X8_goesRound (x1 : Int32) (M : Mm) (K : Int32 → Mm → Prop) : Prop := (vp_in x1 8 ∧ (∀ y12 : Int32, y12 = (M 158 (x1).toNatClampNeg) → (T_X8_goesRound_9 5000 x1 y12 (0 : Int32) M K)))
set_option maxHeartbeats 4000000 in
set_option maxRecDepth 100000 in
theorem c_X8_goesRound (l : Launch) (G : fx_G) {x1 : Int32} {M : Mm} {K : Int32 → Mm → Prop} (hT : T_X8_goesRound x1 M K) : Met l yX8_goesRound (fx_ws yX8_goesRound cX8_goesRound 4 (some .boolean)) (fx_rm (1)) (va_Pc [.ref (G.2.2.2 + 151), .int x1] (fx_P G SH M)) (va_Qi K (fx_R G SH) (fx_A G)) 0 0 (fx_A G) := by
  refine fx_met (own := RX8) (by decide +kernel) rfl (Nat.le_of_ble_eq_true rfl) (fun p e s m below meth c X hr hk h ls hl => ?_)
  obtain ⟨⟨hx, hb, hml, hown, hts⟩, hK, hQ⟩ := id X
  have hl : lv_has ls 4 [(0, .ref (G.2.2.2 + 151)), (1, .int x1)] := hl
  unfold T_X8_goesRound at hT
  refine lv_aload_n hx hb dX8_goesRound_0 rfl (lv_at hl 0 rfl) ?_
  refine fx_getR X h (k := 151) (j := 6) (r := 158) sh_151 rfl fl_RX8_30 dX8_goesRound_1 ?_
  refine lv_iload_n hx hb dX8_goesRound_4 rfl (lv_at hl 1 rfl) ?_
  obtain ⟨hi11, hT⟩ := hT
  refine fx_iald X h (k := 158) sh_158 hi11 dX8_goesRound_5 ?_
  refine lv_topi (fun y12 ey12 => ?_)
  have hT := hT y12 ey12
  refine lv_istore_n (lv' := [(2, .int y12), (0, .ref (G.2.2.2 + 151)), (1, .int x1)]) hx hb dX8_goesRound_6 rfl hl (by decide) rfl (fun ls hl => ?_)
  refine lv_iconst (v := 0) hx hb dX8_goesRound_7 (by decide) ?_
  refine lv_istore_n (lv' := [(3, .int (0 : Int32)), (2, .int y12), (0, .ref (G.2.2.2 + 151)), (1, .int x1)]) hx hb dX8_goesRound_8 rfl hl (by decide) rfl (fun ls hl => ?_)
  exact w_X8_goesRound_9 X hr hk 5000 x1 y12 (0 : Int32) M _ _ ls hT h (lv_sub hl [2, 3, 1, 0] rfl)
/-! MockParcels$Sums.trade(LMockParcels$Told;)I -/
theorem dX8_trade_0 : decode cX8_trade 0 = .ok (.sipush 255, 3) := by decide +kernel
theorem dX8_trade_3 : decode cX8_trade 3 = .ok (.istore_n 2, 1) := by decide +kernel
theorem dX8_trade_4 : decode cX8_trade 4 = .ok (.iconst 0, 1) := by decide +kernel
theorem dX8_trade_5 : decode cX8_trade 5 = .ok (.istore_n 3, 1) := by decide +kernel
theorem dX8_trade_6 : decode cX8_trade 6 = .ok (.iconst 0, 1) := by decide +kernel
theorem dX8_trade_7 : decode cX8_trade 7 = .ok (.istore 4, 2) := by decide +kernel
theorem dX8_trade_9 : decode cX8_trade 9 = .ok (.iload 4, 2) := by decide +kernel
theorem dX8_trade_11 : decode cX8_trade 11 = .ok (.bipush 8, 2) := by decide +kernel
theorem dX8_trade_13 : decode cX8_trade 13 = .ok (.if_icmp .ge 90, 3) := by decide +kernel
theorem dX8_trade_16 : decode cX8_trade 16 = .ok (.iload_n 2, 1) := by decide +kernel
theorem dX8_trade_17 : decode cX8_trade 17 = .ok (.ifCond .eq 86, 3) := by decide +kernel
theorem dX8_trade_20 : decode cX8_trade 20 = .ok (.aload_n 0, 1) := by decide +kernel
theorem dX8_trade_21 : decode cX8_trade 21 = .ok (.aload_n 1, 1) := by decide +kernel
theorem dX8_trade_22 : decode cX8_trade 22 = .ok (.iload_n 2, 1) := by decide +kernel
theorem dX8_trade_23 : decode cX8_trade 23 = .ok (.invokevirtual 61, 3) := by decide +kernel
theorem dX8_trade_26 : decode cX8_trade 26 = .ok (.iconst 0, 1) := by decide +kernel
theorem dX8_trade_27 : decode cX8_trade 27 = .ok (.istore 5, 2) := by decide +kernel
theorem dX8_trade_29 : decode cX8_trade 29 = .ok (.iconst 0, 1) := by decide +kernel
theorem dX8_trade_30 : decode cX8_trade 30 = .ok (.istore 6, 2) := by decide +kernel
theorem dX8_trade_32 : decode cX8_trade 32 = .ok (.iload 6, 2) := by decide +kernel
theorem dX8_trade_34 : decode cX8_trade 34 = .ok (.bipush 8, 2) := by decide +kernel
theorem dX8_trade_36 : decode cX8_trade 36 = .ok (.if_icmp .ge 51, 3) := by decide +kernel
theorem dX8_trade_39 : decode cX8_trade 39 = .ok (.iload_n 2, 1) := by decide +kernel
theorem dX8_trade_40 : decode cX8_trade 40 = .ok (.iload 6, 2) := by decide +kernel
theorem dX8_trade_42 : decode cX8_trade 42 = .ok (.ishr, 1) := by decide +kernel
theorem dX8_trade_43 : decode cX8_trade 43 = .ok (.iconst 1, 1) := by decide +kernel
theorem dX8_trade_44 : decode cX8_trade 44 = .ok (.iand, 1) := by decide +kernel
theorem dX8_trade_45 : decode cX8_trade 45 = .ok (.iconst 1, 1) := by decide +kernel
theorem dX8_trade_46 : decode cX8_trade 46 = .ok (.if_icmp .ne 35, 3) := by decide +kernel
theorem dX8_trade_49 : decode cX8_trade 49 = .ok (.aload_n 0, 1) := by decide +kernel
theorem dX8_trade_50 : decode cX8_trade 50 = .ok (.iload 6, 2) := by decide +kernel
theorem dX8_trade_52 : decode cX8_trade 52 = .ok (.invokevirtual 65, 3) := by decide +kernel
theorem dX8_trade_55 : decode cX8_trade 55 = .ok (.ifCond .eq 26, 3) := by decide +kernel
theorem dX8_trade_58 : decode cX8_trade 58 = .ok (.aload_n 0, 1) := by decide +kernel
theorem dX8_trade_59 : decode cX8_trade 59 = .ok (.getfield 18, 3) := by decide +kernel
theorem dX8_trade_62 : decode cX8_trade 62 = .ok (.iload 6, 2) := by decide +kernel
theorem dX8_trade_64 : decode cX8_trade 64 = .ok (.aload_n 0, 1) := by decide +kernel
theorem dX8_trade_65 : decode cX8_trade 65 = .ok (.getfield 30, 3) := by decide +kernel
theorem dX8_trade_68 : decode cX8_trade 68 = .ok (.iload 6, 2) := by decide +kernel
theorem dX8_trade_70 : decode cX8_trade 70 = .ok (.iaload, 1) := by decide +kernel
theorem dX8_trade_71 : decode cX8_trade 71 = .ok (.iastore, 1) := by decide +kernel
theorem dX8_trade_72 : decode cX8_trade 72 = .ok (.iload 5, 2) := by decide +kernel
theorem dX8_trade_74 : decode cX8_trade 74 = .ok (.iconst 1, 1) := by decide +kernel
theorem dX8_trade_75 : decode cX8_trade 75 = .ok (.iload 6, 2) := by decide +kernel
theorem dX8_trade_77 : decode cX8_trade 77 = .ok (.ishl, 1) := by decide +kernel
theorem dX8_trade_78 : decode cX8_trade 78 = .ok (.ior, 1) := by decide +kernel
theorem dX8_trade_79 : decode cX8_trade 79 = .ok (.istore 5, 2) := by decide +kernel
theorem dX8_trade_81 : decode cX8_trade 81 = .ok (.iinc 6 1, 3) := by decide +kernel
theorem dX8_trade_84 : decode cX8_trade 84 = .ok (.goto (-52), 3) := by decide +kernel
theorem dX8_trade_87 : decode cX8_trade 87 = .ok (.iload_n 2, 1) := by decide +kernel
theorem dX8_trade_88 : decode cX8_trade 88 = .ok (.iload 5, 2) := by decide +kernel
theorem dX8_trade_90 : decode cX8_trade 90 = .ok (.iconst (-1), 1) := by decide +kernel
theorem dX8_trade_91 : decode cX8_trade 91 = .ok (.ixor, 1) := by decide +kernel
theorem dX8_trade_92 : decode cX8_trade 92 = .ok (.iand, 1) := by decide +kernel
theorem dX8_trade_93 : decode cX8_trade 93 = .ok (.istore_n 2, 1) := by decide +kernel
theorem dX8_trade_94 : decode cX8_trade 94 = .ok (.iinc 3 1, 3) := by decide +kernel
theorem dX8_trade_97 : decode cX8_trade 97 = .ok (.iinc 4 1, 3) := by decide +kernel
theorem dX8_trade_100 : decode cX8_trade 100 = .ok (.goto (-91), 3) := by decide +kernel
theorem dX8_trade_103 : decode cX8_trade 103 = .ok (.iload_n 3, 1) := by decide +kernel
theorem dX8_trade_104 : decode cX8_trade 104 = .ok (.ireturn, 1) := by decide +kernel
def T_X8_trade_81 (B9 : Int32 → Int32 → Int32 → Mm → Prop) (B32 : Int32 → Int32 → Int32 → Int32 → Int32 → Mm → Prop) (o1 : Nat) (x2 : Int32) (x3 : Int32) (x4 : Int32) (x5 : Int32) (x6 : Int32) (M : Mm) (K : Int32 → Mm → Prop) : Prop := (∀ y1 : Int32, y1 = x6 + (1 : Int32) → (B32 x2 x3 x4 x5 y1 M))
set_option maxHeartbeats 4000000 in
set_option maxRecDepth 100000 in
theorem w_X8_trade_81 {p : Program} {l : Launch} {e : Env} {s : State} {m : MethodId} {args : Array Value} {below : List Frame} {meth : Method} {c : Code} {G : fx_G} {K : Int32 → Mm → Prop} {B9 : Int32 → Int32 → Int32 → Mm → Prop} {B32 : Int32 → Int32 → Int32 → Int32 → Int32 → Mm → Prop} {o1 : Nat} (ho1 : o1 ∈ id_Told) (X : fx_C G p s m c args cX8_trade 7 RX8) (hr : meth.sig.returnType = (some .int)) (hk : meth.locks = false) (hB9 : ∀ (x2 : Int32) (x3 : Int32) (x4 : Int32) (M : Mm) (H : Heap) (locs : List Loc) (ls : Array Slot), B9 x2 x3 x4 M → fx_H G SH M s H locs → lv_has ls 7 [(0, .ref (G.2.2.2 + 151)), (1, .ref (G.2.2.2 + o1)), (2, .int x2), (3, .int x3), (4, .int x4)] → W p l e (fx_rm (2)) s m args below meth c H locs 0 0 (MQ below (va_Qi K (fx_R G SH) (fx_A G)) args s 0 0 (fx_A G)) (F0 m 9 ls [])) (hB32 : ∀ (x2 : Int32) (x3 : Int32) (x4 : Int32) (x5 : Int32) (x6 : Int32) (M : Mm) (H : Heap) (locs : List Loc) (ls : Array Slot), B32 x2 x3 x4 x5 x6 M → fx_H G SH M s H locs → lv_has ls 7 [(0, .ref (G.2.2.2 + 151)), (1, .ref (G.2.2.2 + o1)), (2, .int x2), (3, .int x3), (4, .int x4), (5, .int x5), (6, .int x6)] → W p l e (fx_rm (2)) s m args below meth c H locs 0 0 (MQ below (va_Qi K (fx_R G SH) (fx_A G)) args s 0 0 (fx_A G)) (F0 m 32 ls [])) : ∀ (x2 : Int32) (x3 : Int32) (x4 : Int32) (x5 : Int32) (x6 : Int32) (M : Mm) (H : Heap) (locs : List Loc) (ls : Array Slot), T_X8_trade_81 B9 B32 o1 x2 x3 x4 x5 x6 M K → fx_H G SH M s H locs → lv_has ls 7 [(0, .ref (G.2.2.2 + 151)), (1, .ref (G.2.2.2 + o1)), (2, .int x2), (3, .int x3), (4, .int x4), (5, .int x5), (6, .int x6)] → W p l e (fx_rm (2)) s m args below meth c H locs 0 0 (MQ below (va_Qi K (fx_R G SH) (fx_A G)) args s 0 0 (fx_A G)) (F0 m 81 ls []) := by
  obtain ⟨⟨hx, hb, hml, hown, hts⟩, hK, hQ⟩ := id X
  intro x2 x3 x4 x5 x6 M H locs ls hT h hl
  unfold T_X8_trade_81 at hT
  obtain ⟨y1, ey1⟩ : ∃ z : Int32, z = x6 + (1 : Int32) := ⟨_, rfl⟩
  have hT := hT y1 ey1
  refine lv_iinc (v := y1) (lv' := [(6, .int y1), (0, .ref (G.2.2.2 + 151)), (1, .ref (G.2.2.2 + o1)), (2, .int x2), (3, .int x3), (4, .int x4), (5, .int x5)]) hx hb dX8_trade_81 hl (k := 6) rfl (by rw [ey1]; rfl) (by decide) rfl (fun ls hl => ?_)
  refine lv_goto (tgt := 32) hx hb dX8_trade_84 (by decide) ?_
  exact hB32 x2 x3 x4 x5 y1 M _ _ ls hT h (lv_sub hl [1, 2, 3, 4, 5, 6, 0] rfl)
def T_X8_trade_32 (B9 : Int32 → Int32 → Int32 → Mm → Prop) (o1 : Nat) : Nat → Int32 → Int32 → Int32 → Int32 → Int32 → Mm → (Int32 → Mm → Prop) → Prop
  | 0, _, _, _, _, _, _, _ => False
  | n + 1, x2, x3, x4, x5, x6, M, K => (((8 : Int32) ≤ x6 → (∀ y3 : Int32, y3 = (x2 &&& (x5 ^^^ (-1 : Int32))) → (∀ y4 : Int32, y4 = x3 + (1 : Int32) → (∀ y5 : Int32, y5 = x4 + (1 : Int32) → (B9 y3 y4 y5 M))))) ∧ (¬ (8 : Int32) ≤ x6 → ((((x2 >>> (x6 &&& 31)) &&& (1 : Int32)) = (1 : Int32) → (T_X8_goesRound x6 M (fun r9 M8 => ((r9 = 0 → (T_X8_trade_81 B9 (fun x2 x3 x4 x5 x6 M => T_X8_trade_32 B9 o1 n x2 x3 x4 x5 x6 M K) o1 x2 x3 x4 x5 x6 M8 K)) ∧ (¬ r9 = 0 → (vp_in x6 8 ∧ (vp_in x6 8 ∧ (∀ M12 : Mm, M12 = m_up M8 154 (x6).toNatClampNeg (M8 158 (x6).toNatClampNeg) → (∀ y14 : Int32, y14 = (x5 ||| ((1 : Int32) <<< (x6 &&& 31))) → (T_X8_trade_81 B9 (fun x2 x3 x4 x5 x6 M => T_X8_trade_32 B9 o1 n x2 x3 x4 x5 x6 M K) o1 x2 x3 x4 y14 x6 M12 K)))))))))) ∧ (¬ ((x2 >>> (x6 &&& 31)) &&& (1 : Int32)) = (1 : Int32) → (T_X8_trade_81 B9 (fun x2 x3 x4 x5 x6 M => T_X8_trade_32 B9 o1 n x2 x3 x4 x5 x6 M K) o1 x2 x3 x4 x5 x6 M K)))))
set_option maxHeartbeats 4000000 in
set_option maxRecDepth 100000 in
theorem w_X8_trade_32 {p : Program} {l : Launch} {e : Env} {s : State} {m : MethodId} {args : Array Value} {below : List Frame} {meth : Method} {c : Code} {G : fx_G} {K : Int32 → Mm → Prop} {B9 : Int32 → Int32 → Int32 → Mm → Prop} {o1 : Nat} (ho1 : o1 ∈ id_Told) (X : fx_C G p s m c args cX8_trade 7 RX8) (hr : meth.sig.returnType = (some .int)) (hk : meth.locks = false) (hB9 : ∀ (x2 : Int32) (x3 : Int32) (x4 : Int32) (M : Mm) (H : Heap) (locs : List Loc) (ls : Array Slot), B9 x2 x3 x4 M → fx_H G SH M s H locs → lv_has ls 7 [(0, .ref (G.2.2.2 + 151)), (1, .ref (G.2.2.2 + o1)), (2, .int x2), (3, .int x3), (4, .int x4)] → W p l e (fx_rm (2)) s m args below meth c H locs 0 0 (MQ below (va_Qi K (fx_R G SH) (fx_A G)) args s 0 0 (fx_A G)) (F0 m 9 ls [])) : ∀ (n : Nat) (x2 : Int32) (x3 : Int32) (x4 : Int32) (x5 : Int32) (x6 : Int32) (M : Mm) (H : Heap) (locs : List Loc) (ls : Array Slot), T_X8_trade_32 B9 o1 n x2 x3 x4 x5 x6 M K → fx_H G SH M s H locs → lv_has ls 7 [(0, .ref (G.2.2.2 + 151)), (1, .ref (G.2.2.2 + o1)), (2, .int x2), (3, .int x3), (4, .int x4), (5, .int x5), (6, .int x6)] → W p l e (fx_rm (2)) s m args below meth c H locs 0 0 (MQ below (va_Qi K (fx_R G SH) (fx_A G)) args s 0 0 (fx_A G)) (F0 m 32 ls []) := by
  obtain ⟨⟨hx, hb, hml, hown, hts⟩, hK, hQ⟩ := id X
  intro n
  induction n with
  | zero =>
    intro x2 x3 x4 x5 x6 M H locs ls hT
    exact hT.elim
  | succ n ih =>
    intro x2 x3 x4 x5 x6 M H locs ls hT h hl
    rw [T_X8_trade_32] at hT
    refine lv_iload hx hb dX8_trade_32 (lv_at hl 6 rfl) ?_
    refine lv_bipush (v := 8) hx hb dX8_trade_34 (by decide) ?_
    refine lv_icmp_ge (tgt := 87) hx hb dX8_trade_36 (by decide) (fun hc2 => ?_) (fun hc2 => ?_)
    · have hT := hT.1 hc2
      refine lv_iload_n hx hb dX8_trade_87 rfl (lv_at hl 2 rfl) ?_
      refine lv_iload hx hb dX8_trade_88 (lv_at hl 5 rfl) ?_
      refine lv_iconst (v := -1) hx hb dX8_trade_90 (by decide) ?_
      refine lv_ixor hx hb dX8_trade_91 ?_
      refine lv_iand hx hb dX8_trade_92 ?_
      refine lv_topi (fun y3 ey3 => ?_)
      have hT := hT y3 ey3
      refine lv_istore_n (lv' := [(2, .int y3), (0, .ref (G.2.2.2 + 151)), (1, .ref (G.2.2.2 + o1)), (3, .int x3), (4, .int x4), (5, .int x5), (6, .int x6)]) hx hb dX8_trade_93 rfl hl (by decide) rfl (fun ls hl => ?_)
      obtain ⟨y4, ey4⟩ : ∃ z : Int32, z = x3 + (1 : Int32) := ⟨_, rfl⟩
      have hT := hT y4 ey4
      refine lv_iinc (v := y4) (lv' := [(3, .int y4), (2, .int y3), (0, .ref (G.2.2.2 + 151)), (1, .ref (G.2.2.2 + o1)), (4, .int x4), (5, .int x5), (6, .int x6)]) hx hb dX8_trade_94 hl (k := 3) rfl (by rw [ey4]; rfl) (by decide) rfl (fun ls hl => ?_)
      obtain ⟨y5, ey5⟩ : ∃ z : Int32, z = x4 + (1 : Int32) := ⟨_, rfl⟩
      have hT := hT y5 ey5
      refine lv_iinc (v := y5) (lv' := [(4, .int y5), (3, .int y4), (2, .int y3), (0, .ref (G.2.2.2 + 151)), (1, .ref (G.2.2.2 + o1)), (5, .int x5), (6, .int x6)]) hx hb dX8_trade_97 hl (k := 4) rfl (by rw [ey5]; rfl) (by decide) rfl (fun ls hl => ?_)
      refine lv_goto (tgt := 9) hx hb dX8_trade_100 (by decide) ?_
      exact hB9 y3 y4 y5 M _ _ ls hT h (lv_sub hl [3, 4, 2, 1, 0] rfl)
    · have hT := hT.2 hc2
      refine lv_iload_n hx hb dX8_trade_39 rfl (lv_at hl 2 rfl) ?_
      refine lv_iload hx hb dX8_trade_40 (lv_at hl 6 rfl) ?_
      refine lv_ishr hx hb dX8_trade_42 ?_
      refine lv_iconst (v := 1) hx hb dX8_trade_43 (by decide) ?_
      refine lv_iand hx hb dX8_trade_44 ?_
      refine lv_iconst (v := 1) hx hb dX8_trade_45 (by decide) ?_
      refine lv_icmp_ne (tgt := 81) hx hb dX8_trade_46 (by decide) (fun hc6 => ?_) (fun hc6 => ?_)
      · have hT := hT.2 hc6
        exact w_X8_trade_81 ho1 X hr hk (B9 := B9) hB9 (B32 := (fun x2 x3 x4 x5 x6 M => T_X8_trade_32 B9 o1 n x2 x3 x4 x5 x6 M K)) ih x2 x3 x4 x5 x6 M _ _ ls hT h (lv_sub hl [0, 1, 2, 3, 4, 5, 6] rfl)
      · have hT := hT.1 hc6
        refine lv_aload_n hx hb dX8_trade_49 rfl (lv_at hl 0 rfl) ?_
        refine lv_iload hx hb dX8_trade_50 (lv_at hl 6 rfl) ?_
        refine fx_vi X h ym_X8_goesRound yi_X8_goesRound ys_X8_goesRound (fx_s5 (List.mem_of_getElem? (i := 144) rfl) rfl) sh_151 rfl (c_X8_goesRound l G hT) (As := [.int x6]) (rest := []) rfl rfl ⟨Nat.le_of_ble_eq_true rfl, Nat.le_of_ble_eq_true rfl⟩ ⟨Nat.le_refl _, Nat.le_refl _⟩ hl.1 (Nat.le_of_ble_eq_true rfl) dX8_trade_52 (fun r9 M8 H locs hT h => ?_)
        refine lv_if_eq (tgt := 81) hx hb dX8_trade_55 (by decide) (fun hc10 => ?_) (fun hc10 => ?_)
        · have hT := hT.1 hc10
          exact w_X8_trade_81 ho1 X hr hk (B9 := B9) hB9 (B32 := (fun x2 x3 x4 x5 x6 M => T_X8_trade_32 B9 o1 n x2 x3 x4 x5 x6 M K)) ih x2 x3 x4 x5 x6 M8 _ _ ls hT h (lv_sub hl [0, 1, 2, 3, 4, 5, 6] rfl)
        · have hT := hT.2 hc10
          refine lv_aload_n hx hb dX8_trade_58 rfl (lv_at hl 0 rfl) ?_
          refine fx_getR X h (k := 151) (j := 2) (r := 154) sh_151 rfl fl_RX8_18 dX8_trade_59 ?_
          refine lv_iload hx hb dX8_trade_62 (lv_at hl 6 rfl) ?_
          refine lv_aload_n hx hb dX8_trade_64 rfl (lv_at hl 0 rfl) ?_
          refine fx_getR X h (k := 151) (j := 6) (r := 158) sh_151 rfl fl_RX8_30 dX8_trade_65 ?_
          refine lv_iload hx hb dX8_trade_68 (lv_at hl 6 rfl) ?_
          obtain ⟨hi11, hT⟩ := hT
          refine fx_iald X h (k := 158) sh_158 hi11 dX8_trade_70 ?_
          obtain ⟨hi13, hT⟩ := hT
          refine fx_iast X h (k := 154) sh_154 hi13 dX8_trade_71 (fun H locs h => ?_)
          obtain ⟨M12, eM12⟩ : ∃ z : Mm, z = m_up M8 154 (x6).toNatClampNeg (M8 158 (x6).toNatClampNeg) := ⟨_, rfl⟩
          have hT := hT M12 eM12
          rw [← eM12] at h
          refine lv_iload hx hb dX8_trade_72 (lv_at hl 5 rfl) ?_
          refine lv_iconst (v := 1) hx hb dX8_trade_74 (by decide) ?_
          refine lv_iload hx hb dX8_trade_75 (lv_at hl 6 rfl) ?_
          refine lv_ishl hx hb dX8_trade_77 ?_
          refine lv_ior hx hb dX8_trade_78 ?_
          refine lv_topi (fun y14 ey14 => ?_)
          have hT := hT y14 ey14
          refine lv_istore (lv' := [(5, .int y14), (0, .ref (G.2.2.2 + 151)), (1, .ref (G.2.2.2 + o1)), (2, .int x2), (3, .int x3), (4, .int x4), (6, .int x6)]) hx hb dX8_trade_79 hl (by decide) rfl (fun ls hl => ?_)
          exact w_X8_trade_81 ho1 X hr hk (B9 := B9) hB9 (B32 := (fun x2 x3 x4 x5 x6 M => T_X8_trade_32 B9 o1 n x2 x3 x4 x5 x6 M K)) ih x2 x3 x4 y14 x6 M12 _ _ ls hT h (lv_sub hl [1, 2, 3, 4, 5, 0, 6] rfl)
def T_X8_trade_9 (o1 : Nat) : Nat → Int32 → Int32 → Int32 → Mm → (Int32 → Mm → Prop) → Prop
  | 0, _, _, _, _, _ => False
  | n + 1, x2, x3, x4, M, K => (((8 : Int32) ≤ x4 → (K x3 M)) ∧ (¬ (8 : Int32) ≤ x4 → ((x2 = 0 → (K x3 M)) ∧ (¬ x2 = 0 → (T_X8_pointAll o1 x2 M (fun M18 => (T_X8_trade_32 (fun x2 x3 x4 M => T_X8_trade_9 o1 n x2 x3 x4 M K) o1 5000 x2 x3 x4 (0 : Int32) (0 : Int32) M18 K)))))))
set_option maxHeartbeats 4000000 in
set_option maxRecDepth 100000 in
theorem w_X8_trade_9 {p : Program} {l : Launch} {e : Env} {s : State} {m : MethodId} {args : Array Value} {below : List Frame} {meth : Method} {c : Code} {G : fx_G} {K : Int32 → Mm → Prop} {o1 : Nat} (ho1 : o1 ∈ id_Told) (X : fx_C G p s m c args cX8_trade 7 RX8) (hr : meth.sig.returnType = (some .int)) (hk : meth.locks = false) : ∀ (n : Nat) (x2 : Int32) (x3 : Int32) (x4 : Int32) (M : Mm) (H : Heap) (locs : List Loc) (ls : Array Slot), T_X8_trade_9 o1 n x2 x3 x4 M K → fx_H G SH M s H locs → lv_has ls 7 [(0, .ref (G.2.2.2 + 151)), (1, .ref (G.2.2.2 + o1)), (2, .int x2), (3, .int x3), (4, .int x4)] → W p l e (fx_rm (2)) s m args below meth c H locs 0 0 (MQ below (va_Qi K (fx_R G SH) (fx_A G)) args s 0 0 (fx_A G)) (F0 m 9 ls []) := by
  obtain ⟨⟨hx, hb, hml, hown, hts⟩, hK, hQ⟩ := id X
  intro n
  induction n with
  | zero =>
    intro x2 x3 x4 M H locs ls hT
    exact hT.elim
  | succ n ih =>
    intro x2 x3 x4 M H locs ls hT h hl
    rw [T_X8_trade_9] at hT
    refine lv_iload hx hb dX8_trade_9 (lv_at hl 4 rfl) ?_
    refine lv_bipush (v := 8) hx hb dX8_trade_11 (by decide) ?_
    refine lv_icmp_ge (tgt := 103) hx hb dX8_trade_13 (by decide) (fun hc15 => ?_) (fun hc15 => ?_)
    · have hT := hT.1 hc15
      refine lv_iload_n hx hb dX8_trade_103 rfl (lv_at hl 3 rfl) ?_
      exact fx_iret X hr hk h hT dX8_trade_104
    · have hT := hT.2 hc15
      refine lv_iload_n hx hb dX8_trade_16 rfl (lv_at hl 2 rfl) ?_
      refine lv_if_eq (tgt := 103) hx hb dX8_trade_17 (by decide) (fun hc16 => ?_) (fun hc16 => ?_)
      · have hT := hT.1 hc16
        refine lv_iload_n hx hb dX8_trade_103 rfl (lv_at hl 3 rfl) ?_
        exact fx_iret X hr hk h hT dX8_trade_104
      · have hT := hT.2 hc16
        refine lv_aload_n hx hb dX8_trade_20 rfl (lv_at hl 0 rfl) ?_
        refine lv_aload_n hx hb dX8_trade_21 rfl (lv_at hl 1 rfl) ?_
        refine lv_iload_n hx hb dX8_trade_22 rfl (lv_at hl 2 rfl) ?_
        refine fx_vv X h ym_X8_pointAll yi_X8_pointAll ys_X8_pointAll (fx_s5 (List.mem_of_getElem? (i := 140) rfl) rfl) sh_151 rfl (c_X8_pointAll l G ho1 hT) (As := [.ref (G.2.2.2 + o1), .int x2]) (rest := []) rfl rfl ⟨Nat.le_of_ble_eq_true rfl, Nat.le_of_ble_eq_true rfl⟩ ⟨Nat.le_refl _, Nat.le_refl _⟩ hl.1 (Nat.le_of_ble_eq_true rfl) dX8_trade_23 (fun M18 H locs hT h => ?_)
        refine lv_iconst (v := 0) hx hb dX8_trade_26 (by decide) ?_
        refine lv_istore (lv' := [(5, .int (0 : Int32)), (0, .ref (G.2.2.2 + 151)), (1, .ref (G.2.2.2 + o1)), (2, .int x2), (3, .int x3), (4, .int x4)]) hx hb dX8_trade_27 hl (by decide) rfl (fun ls hl => ?_)
        refine lv_iconst (v := 0) hx hb dX8_trade_29 (by decide) ?_
        refine lv_istore (lv' := [(6, .int (0 : Int32)), (5, .int (0 : Int32)), (0, .ref (G.2.2.2 + 151)), (1, .ref (G.2.2.2 + o1)), (2, .int x2), (3, .int x3), (4, .int x4)]) hx hb dX8_trade_30 hl (by decide) rfl (fun ls hl => ?_)
        exact w_X8_trade_32 ho1 X hr hk (B9 := (fun x2 x3 x4 M => T_X8_trade_9 o1 n x2 x3 x4 M K)) ih 5000 x2 x3 x4 (0 : Int32) (0 : Int32) M18 _ _ ls hT h (lv_sub hl [2, 3, 4, 5, 6, 1, 0] rfl)
def T_X8_trade (o1 : Nat) (M : Mm) (K : Int32 → Mm → Prop) : Prop := (T_X8_trade_9 o1 5000 (255 : Int32) (0 : Int32) (0 : Int32) M K)
set_option maxHeartbeats 4000000 in
set_option maxRecDepth 100000 in
theorem c_X8_trade (l : Launch) (G : fx_G) {o1 : Nat} (ho1 : o1 ∈ id_Told) {M : Mm} {K : Int32 → Mm → Prop} (hT : T_X8_trade o1 M K) : Met l yX8_trade (fx_ws yX8_trade cX8_trade 7 (some .int)) (fx_rm (2)) (va_Pc [.ref (G.2.2.2 + 151), .ref (G.2.2.2 + o1)] (fx_P G SH M)) (va_Qi K (fx_R G SH) (fx_A G)) 0 0 (fx_A G) := by
  refine fx_met (own := RX8) (by decide +kernel) rfl (Nat.le_of_ble_eq_true rfl) (fun p e s m below meth c X hr hk h ls hl => ?_)
  obtain ⟨⟨hx, hb, hml, hown, hts⟩, hK, hQ⟩ := id X
  have hl : lv_has ls 7 [(0, .ref (G.2.2.2 + 151)), (1, .ref (G.2.2.2 + o1))] := hl
  unfold T_X8_trade at hT
  refine lv_sipush (v := 255) hx hb dX8_trade_0 (by decide) ?_
  refine lv_istore_n (lv' := [(2, .int (255 : Int32)), (0, .ref (G.2.2.2 + 151)), (1, .ref (G.2.2.2 + o1))]) hx hb dX8_trade_3 rfl hl (by decide) rfl (fun ls hl => ?_)
  refine lv_iconst (v := 0) hx hb dX8_trade_4 (by decide) ?_
  refine lv_istore_n (lv' := [(3, .int (0 : Int32)), (2, .int (255 : Int32)), (0, .ref (G.2.2.2 + 151)), (1, .ref (G.2.2.2 + o1))]) hx hb dX8_trade_5 rfl hl (by decide) rfl (fun ls hl => ?_)
  refine lv_iconst (v := 0) hx hb dX8_trade_6 (by decide) ?_
  refine lv_istore (lv' := [(4, .int (0 : Int32)), (3, .int (0 : Int32)), (2, .int (255 : Int32)), (0, .ref (G.2.2.2 + 151)), (1, .ref (G.2.2.2 + o1))]) hx hb dX8_trade_7 hl (by decide) rfl (fun ls hl => ?_)
  exact w_X8_trade_9 ho1 X hr hk 5000 (255 : Int32) (0 : Int32) (0 : Int32) M _ _ ls hT h (lv_sub hl [3, 4, 2, 1, 0] rfl)
/-! MockParcels$Sums.bitOf(I)I -/
theorem dX8_bitOf_0 : decode cX8_bitOf 0 = .ok (.iload_n 1, 1) := by decide +kernel
theorem dX8_bitOf_1 : decode cX8_bitOf 1 = .ok (.ifCond .le 11, 3) := by decide +kernel
theorem dX8_bitOf_4 : decode cX8_bitOf 4 = .ok (.iconst 1, 1) := by decide +kernel
theorem dX8_bitOf_5 : decode cX8_bitOf 5 = .ok (.iload_n 1, 1) := by decide +kernel
theorem dX8_bitOf_6 : decode cX8_bitOf 6 = .ok (.iconst 1, 1) := by decide +kernel
theorem dX8_bitOf_7 : decode cX8_bitOf 7 = .ok (.isub, 1) := by decide +kernel
theorem dX8_bitOf_8 : decode cX8_bitOf 8 = .ok (.ishl, 1) := by decide +kernel
theorem dX8_bitOf_9 : decode cX8_bitOf 9 = .ok (.goto 4, 3) := by decide +kernel
theorem dX8_bitOf_12 : decode cX8_bitOf 12 = .ok (.iconst 0, 1) := by decide +kernel
theorem dX8_bitOf_13 : decode cX8_bitOf 13 = .ok (.ireturn, 1) := by decide +kernel
def T_X8_bitOf (x1 : Int32) (M : Mm) (K : Int32 → Mm → Prop) : Prop := ((x1 ≤ 0 → (K (0 : Int32) M)) ∧ (¬ x1 ≤ 0 → (K ((1 : Int32) <<< ((x1 - (1 : Int32)) &&& 31)) M)))
set_option maxHeartbeats 4000000 in
set_option maxRecDepth 100000 in
theorem c_X8_bitOf (l : Launch) (G : fx_G) {x1 : Int32} {M : Mm} {K : Int32 → Mm → Prop} (hT : T_X8_bitOf x1 M K) : Met l yX8_bitOf (fx_ws yX8_bitOf cX8_bitOf 2 (some .int)) (fx_rm (0)) (va_Pc [.ref (G.2.2.2 + 151), .int x1] (fx_P G SH M)) (va_Qi K (fx_R G SH) (fx_A G)) 0 0 (fx_A G) := by
  refine fx_met (own := RX8) (by decide +kernel) rfl (Nat.le_of_ble_eq_true rfl) (fun p e s m below meth c X hr hk h ls hl => ?_)
  obtain ⟨⟨hx, hb, hml, hown, hts⟩, hK, hQ⟩ := id X
  have hl : lv_has ls 2 [(0, .ref (G.2.2.2 + 151)), (1, .int x1)] := hl
  unfold T_X8_bitOf at hT
  refine lv_iload_n hx hb dX8_bitOf_0 rfl (lv_at hl 1 rfl) ?_
  refine lv_if_le (tgt := 12) hx hb dX8_bitOf_1 (by decide) (fun hc1 => ?_) (fun hc1 => ?_)
  · have hT := hT.1 hc1
    refine lv_iconst (v := 0) hx hb dX8_bitOf_12 (by decide) ?_
    exact fx_iret X hr hk h hT dX8_bitOf_13
  · have hT := hT.2 hc1
    refine lv_iconst (v := 1) hx hb dX8_bitOf_4 (by decide) ?_
    refine lv_iload_n hx hb dX8_bitOf_5 rfl (lv_at hl 1 rfl) ?_
    refine lv_iconst (v := 1) hx hb dX8_bitOf_6 (by decide) ?_
    refine lv_isub hx hb dX8_bitOf_7 ?_
    refine lv_ishl hx hb dX8_bitOf_8 ?_
    refine lv_goto (tgt := 13) hx hb dX8_bitOf_9 (by decide) ?_
    exact fx_iret X hr hk h hT dX8_bitOf_13
/-! MockParcels$Sums.wanted(LMockParcels$Plans;III)I -/
theorem dX8_wanted_0 : decode cX8_wanted 0 = .ok (.aload_n 1, 1) := by decide +kernel
theorem dX8_wanted_1 : decode cX8_wanted 1 = .ok (.getfield 91, 3) := by decide +kernel
theorem dX8_wanted_4 : decode cX8_wanted 4 = .ok (.iload_n 2, 1) := by decide +kernel
theorem dX8_wanted_5 : decode cX8_wanted 5 = .ok (.bipush 8, 2) := by decide +kernel
theorem dX8_wanted_7 : decode cX8_wanted 7 = .ok (.imul, 1) := by decide +kernel
theorem dX8_wanted_8 : decode cX8_wanted 8 = .ok (.iload_n 3, 1) := by decide +kernel
theorem dX8_wanted_9 : decode cX8_wanted 9 = .ok (.iadd, 1) := by decide +kernel
theorem dX8_wanted_10 : decode cX8_wanted 10 = .ok (.iaload, 1) := by decide +kernel
theorem dX8_wanted_11 : decode cX8_wanted 11 = .ok (.aload_n 0, 1) := by decide +kernel
theorem dX8_wanted_12 : decode cX8_wanted 12 = .ok (.getfield 24, 3) := by decide +kernel
theorem dX8_wanted_15 : decode cX8_wanted 15 = .ok (.iload_n 2, 1) := by decide +kernel
theorem dX8_wanted_16 : decode cX8_wanted 16 = .ok (.iconst 1, 1) := by decide +kernel
theorem dX8_wanted_17 : decode cX8_wanted 17 = .ok (.iadd, 1) := by decide +kernel
theorem dX8_wanted_18 : decode cX8_wanted 18 = .ok (.sipush 128, 3) := by decide +kernel
theorem dX8_wanted_21 : decode cX8_wanted 21 = .ok (.imul, 1) := by decide +kernel
theorem dX8_wanted_22 : decode cX8_wanted 22 = .ok (.iload 4, 2) := by decide +kernel
theorem dX8_wanted_24 : decode cX8_wanted 24 = .ok (.aload_n 0, 1) := by decide +kernel
theorem dX8_wanted_25 : decode cX8_wanted 25 = .ok (.iload_n 3, 1) := by decide +kernel
theorem dX8_wanted_26 : decode cX8_wanted 26 = .ok (.invokevirtual 83, 3) := by decide +kernel
theorem dX8_wanted_29 : decode cX8_wanted 29 = .ok (.ior, 1) := by decide +kernel
theorem dX8_wanted_30 : decode cX8_wanted 30 = .ok (.iadd, 1) := by decide +kernel
theorem dX8_wanted_31 : decode cX8_wanted 31 = .ok (.iaload, 1) := by decide +kernel
theorem dX8_wanted_32 : decode cX8_wanted 32 = .ok (.iadd, 1) := by decide +kernel
theorem dX8_wanted_33 : decode cX8_wanted 33 = .ok (.ireturn, 1) := by decide +kernel
def T_X8_wanted (o1 : Nat) (x2 : Int32) (x3 : Int32) (x4 : Int32) (M : Mm) (K : Int32 → Mm → Prop) : Prop := (vp_in ((x2 * (8 : Int32)) + x3) 64 ∧ (T_X8_bitOf x3 M (fun r4 M3 => (vp_in (((x2 + (1 : Int32)) * (128 : Int32)) + (x4 ||| r4)) 1152 ∧ (K ((M (rf o1 1) (((x2 * (8 : Int32)) + x3)).toNatClampNeg) + (M3 156 ((((x2 + (1 : Int32)) * (128 : Int32)) + (x4 ||| r4))).toNatClampNeg)) M3)))))
set_option maxHeartbeats 4000000 in
set_option maxRecDepth 100000 in
theorem c_X8_wanted (l : Launch) (G : fx_G) {o1 : Nat} (ho1 : o1 ∈ id_Plans) {x2 : Int32} {x3 : Int32} {x4 : Int32} {M : Mm} {K : Int32 → Mm → Prop} (hT : T_X8_wanted o1 x2 x3 x4 M K) : Met l yX8_wanted (fx_ws yX8_wanted cX8_wanted 5 (some .int)) (fx_rm (1)) (va_Pc [.ref (G.2.2.2 + 151), .ref (G.2.2.2 + o1), .int x2, .int x3, .int x4] (fx_P G SH M)) (va_Qi K (fx_R G SH) (fx_A G)) 0 0 (fx_A G) := by
  refine fx_met (own := RX8) (by decide +kernel) rfl (Nat.le_of_ble_eq_true rfl) (fun p e s m below meth c X hr hk h ls hl => ?_)
  obtain ⟨⟨hx, hb, hml, hown, hts⟩, hK, hQ⟩ := id X
  have hl : lv_has ls 5 [(0, .ref (G.2.2.2 + 151)), (1, .ref (G.2.2.2 + o1)), (2, .int x2), (3, .int x3), (4, .int x4)] := hl
  unfold T_X8_wanted at hT
  refine lv_aload_n hx hb dX8_wanted_0 rfl (lv_at hl 1 rfl) ?_
  refine fx_getR X h (k := o1) (j := 1) (r := (rf o1 1)) (sc_Plans o1 ho1) rfl fl_RX8_91 dX8_wanted_1 ?_
  refine lv_iload_n hx hb dX8_wanted_4 rfl (lv_at hl 2 rfl) ?_
  refine lv_bipush (v := 8) hx hb dX8_wanted_5 (by decide) ?_
  refine lv_imul hx hb dX8_wanted_7 ?_
  refine lv_iload_n hx hb dX8_wanted_8 rfl (lv_at hl 3 rfl) ?_
  refine lv_iadd hx hb dX8_wanted_9 ?_
  obtain ⟨hi1, hT⟩ := hT
  refine fx_iald X h (k := (rf o1 1)) (sa_Plans_1 o1 ho1) hi1 dX8_wanted_10 ?_
  refine lv_aload_n hx hb dX8_wanted_11 rfl (lv_at hl 0 rfl) ?_
  refine fx_getR X h (k := 151) (j := 4) (r := 156) sh_151 rfl fl_RX8_24 dX8_wanted_12 ?_
  refine lv_iload_n hx hb dX8_wanted_15 rfl (lv_at hl 2 rfl) ?_
  refine lv_iconst (v := 1) hx hb dX8_wanted_16 (by decide) ?_
  refine lv_iadd hx hb dX8_wanted_17 ?_
  refine lv_sipush (v := 128) hx hb dX8_wanted_18 (by decide) ?_
  refine lv_imul hx hb dX8_wanted_21 ?_
  refine lv_iload hx hb dX8_wanted_22 (lv_at hl 4 rfl) ?_
  refine lv_aload_n hx hb dX8_wanted_24 rfl (lv_at hl 0 rfl) ?_
  refine lv_iload_n hx hb dX8_wanted_25 rfl (lv_at hl 3 rfl) ?_
  refine fx_vi X h ym_X8_bitOf yi_X8_bitOf ys_X8_bitOf (fx_s5 (List.mem_of_getElem? (i := 161) rfl) rfl) sh_151 rfl (c_X8_bitOf l G hT) (As := [.int x3]) (rest := [.int x4, .int ((x2 + (1 : Int32)) * (128 : Int32)), .ref (G.2.2.2 + 156), .int (M (rf o1 1) (((x2 * (8 : Int32)) + x3)).toNatClampNeg)]) rfl rfl ⟨Nat.le_of_ble_eq_true rfl, Nat.le_of_ble_eq_true rfl⟩ ⟨Nat.le_refl _, Nat.le_refl _⟩ hl.1 (Nat.le_of_ble_eq_true rfl) dX8_wanted_26 (fun r4 M3 H locs hT h => ?_)
  refine lv_ior hx hb dX8_wanted_29 ?_
  refine lv_iadd hx hb dX8_wanted_30 ?_
  obtain ⟨hi5, hT⟩ := hT
  refine fx_iald X h (k := 156) sh_156 hi5 dX8_wanted_31 ?_
  refine lv_iadd hx hb dX8_wanted_32 ?_
  exact fx_iret X hr hk h hT dX8_wanted_33
/-! MockParcels$Sums.bestFor(LMockParcels$Plans;II)I -/
theorem dX8_bestFor_0 : decode cX8_bestFor 0 = .ok (.iconst 0, 1) := by decide +kernel
theorem dX8_bestFor_1 : decode cX8_bestFor 1 = .ok (.istore 4, 2) := by decide +kernel
theorem dX8_bestFor_3 : decode cX8_bestFor 3 = .ok (.iconst 0, 1) := by decide +kernel
theorem dX8_bestFor_4 : decode cX8_bestFor 4 = .ok (.istore 5, 2) := by decide +kernel
theorem dX8_bestFor_6 : decode cX8_bestFor 6 = .ok (.iload 5, 2) := by decide +kernel
theorem dX8_bestFor_8 : decode cX8_bestFor 8 = .ok (.bipush 7, 2) := by decide +kernel
theorem dX8_bestFor_10 : decode cX8_bestFor 10 = .ok (.if_icmp .gt 36, 3) := by decide +kernel
theorem dX8_bestFor_13 : decode cX8_bestFor 13 = .ok (.iload_n 3, 1) := by decide +kernel
theorem dX8_bestFor_14 : decode cX8_bestFor 14 = .ok (.aload_n 0, 1) := by decide +kernel
theorem dX8_bestFor_15 : decode cX8_bestFor 15 = .ok (.iload 5, 2) := by decide +kernel
theorem dX8_bestFor_17 : decode cX8_bestFor 17 = .ok (.invokevirtual 83, 3) := by decide +kernel
theorem dX8_bestFor_20 : decode cX8_bestFor 20 = .ok (.iand, 1) := by decide +kernel
theorem dX8_bestFor_21 : decode cX8_bestFor 21 = .ok (.ifCond .ne 19, 3) := by decide +kernel
theorem dX8_bestFor_24 : decode cX8_bestFor 24 = .ok (.iload 4, 2) := by decide +kernel
theorem dX8_bestFor_26 : decode cX8_bestFor 26 = .ok (.aload_n 0, 1) := by decide +kernel
theorem dX8_bestFor_27 : decode cX8_bestFor 27 = .ok (.aload_n 1, 1) := by decide +kernel
theorem dX8_bestFor_28 : decode cX8_bestFor 28 = .ok (.iload_n 2, 1) := by decide +kernel
theorem dX8_bestFor_29 : decode cX8_bestFor 29 = .ok (.iload 5, 2) := by decide +kernel
theorem dX8_bestFor_31 : decode cX8_bestFor 31 = .ok (.iload_n 3, 1) := by decide +kernel
theorem dX8_bestFor_32 : decode cX8_bestFor 32 = .ok (.invokevirtual 87, 3) := by decide +kernel
theorem dX8_bestFor_35 : decode cX8_bestFor 35 = .ok (.invokestatic 37, 3) := by decide +kernel
theorem dX8_bestFor_38 : decode cX8_bestFor 38 = .ok (.istore 4, 2) := by decide +kernel
theorem dX8_bestFor_40 : decode cX8_bestFor 40 = .ok (.iinc 5 1, 3) := by decide +kernel
theorem dX8_bestFor_43 : decode cX8_bestFor 43 = .ok (.goto (-37), 3) := by decide +kernel
theorem dX8_bestFor_46 : decode cX8_bestFor 46 = .ok (.iload 4, 2) := by decide +kernel
theorem dX8_bestFor_48 : decode cX8_bestFor 48 = .ok (.ireturn, 1) := by decide +kernel
def T_X8_bestFor_40 (B6 : Int32 → Int32 → Int32 → Int32 → Mm → Prop) (o1 : Nat) (x2 : Int32) (x3 : Int32) (x4 : Int32) (x5 : Int32) (M : Mm) (K : Int32 → Mm → Prop) : Prop := (∀ y1 : Int32, y1 = x5 + (1 : Int32) → (B6 x2 x3 x4 y1 M))
set_option maxHeartbeats 4000000 in
set_option maxRecDepth 100000 in
theorem w_X8_bestFor_40 {p : Program} {l : Launch} {e : Env} {s : State} {m : MethodId} {args : Array Value} {below : List Frame} {meth : Method} {c : Code} {G : fx_G} {K : Int32 → Mm → Prop} {B6 : Int32 → Int32 → Int32 → Int32 → Mm → Prop} {o1 : Nat} (ho1 : o1 ∈ id_Plans) (X : fx_C G p s m c args cX8_bestFor 6 RX8) (hr : meth.sig.returnType = (some .int)) (hk : meth.locks = false) (hB6 : ∀ (x2 : Int32) (x3 : Int32) (x4 : Int32) (x5 : Int32) (M : Mm) (H : Heap) (locs : List Loc) (ls : Array Slot), B6 x2 x3 x4 x5 M → fx_H G SH M s H locs → lv_has ls 6 [(0, .ref (G.2.2.2 + 151)), (1, .ref (G.2.2.2 + o1)), (2, .int x2), (3, .int x3), (4, .int x4), (5, .int x5)] → W p l e (fx_rm (2)) s m args below meth c H locs 0 0 (MQ below (va_Qi K (fx_R G SH) (fx_A G)) args s 0 0 (fx_A G)) (F0 m 6 ls [])) : ∀ (x2 : Int32) (x3 : Int32) (x4 : Int32) (x5 : Int32) (M : Mm) (H : Heap) (locs : List Loc) (ls : Array Slot), T_X8_bestFor_40 B6 o1 x2 x3 x4 x5 M K → fx_H G SH M s H locs → lv_has ls 6 [(0, .ref (G.2.2.2 + 151)), (1, .ref (G.2.2.2 + o1)), (2, .int x2), (3, .int x3), (4, .int x4), (5, .int x5)] → W p l e (fx_rm (2)) s m args below meth c H locs 0 0 (MQ below (va_Qi K (fx_R G SH) (fx_A G)) args s 0 0 (fx_A G)) (F0 m 40 ls []) := by
  obtain ⟨⟨hx, hb, hml, hown, hts⟩, hK, hQ⟩ := id X
  intro x2 x3 x4 x5 M H locs ls hT h hl
  unfold T_X8_bestFor_40 at hT
  obtain ⟨y1, ey1⟩ : ∃ z : Int32, z = x5 + (1 : Int32) := ⟨_, rfl⟩
  have hT := hT y1 ey1
  refine lv_iinc (v := y1) (lv' := [(5, .int y1), (0, .ref (G.2.2.2 + 151)), (1, .ref (G.2.2.2 + o1)), (2, .int x2), (3, .int x3), (4, .int x4)]) hx hb dX8_bestFor_40 hl (k := 5) rfl (by rw [ey1]; rfl) (by decide) rfl (fun ls hl => ?_)
  refine lv_goto (tgt := 6) hx hb dX8_bestFor_43 (by decide) ?_
  exact hB6 x2 x3 x4 y1 M _ _ ls hT h (lv_sub hl [1, 2, 3, 4, 5, 0] rfl)
def T_X8_bestFor_6 (o1 : Nat) : Nat → Int32 → Int32 → Int32 → Int32 → Mm → (Int32 → Mm → Prop) → Prop
  | 0, _, _, _, _, _, _ => False
  | n + 1, x2, x3, x4, x5, M, K => (((7 : Int32) < x5 → (K x4 M)) ∧ (¬ (7 : Int32) < x5 → (T_X8_bitOf x5 M (fun r5 M4 => (((x3 &&& r5) = 0 → (T_X8_wanted o1 x2 x5 x3 M4 (fun r9 M8 => (∀ y10 : Int32, y10 = (if x4 < r9 then r9 else x4) → (T_X8_bestFor_40 (fun x2 x3 x4 x5 M => T_X8_bestFor_6 o1 n x2 x3 x4 x5 M K) o1 x2 x3 y10 x5 M8 K))))) ∧ (¬ (x3 &&& r5) = 0 → (T_X8_bestFor_40 (fun x2 x3 x4 x5 M => T_X8_bestFor_6 o1 n x2 x3 x4 x5 M K) o1 x2 x3 x4 x5 M4 K)))))))
set_option maxHeartbeats 4000000 in
set_option maxRecDepth 100000 in
theorem w_X8_bestFor_6 {p : Program} {l : Launch} {e : Env} {s : State} {m : MethodId} {args : Array Value} {below : List Frame} {meth : Method} {c : Code} {G : fx_G} {K : Int32 → Mm → Prop} {o1 : Nat} (ho1 : o1 ∈ id_Plans) (X : fx_C G p s m c args cX8_bestFor 6 RX8) (hr : meth.sig.returnType = (some .int)) (hk : meth.locks = false) : ∀ (n : Nat) (x2 : Int32) (x3 : Int32) (x4 : Int32) (x5 : Int32) (M : Mm) (H : Heap) (locs : List Loc) (ls : Array Slot), T_X8_bestFor_6 o1 n x2 x3 x4 x5 M K → fx_H G SH M s H locs → lv_has ls 6 [(0, .ref (G.2.2.2 + 151)), (1, .ref (G.2.2.2 + o1)), (2, .int x2), (3, .int x3), (4, .int x4), (5, .int x5)] → W p l e (fx_rm (2)) s m args below meth c H locs 0 0 (MQ below (va_Qi K (fx_R G SH) (fx_A G)) args s 0 0 (fx_A G)) (F0 m 6 ls []) := by
  obtain ⟨⟨hx, hb, hml, hown, hts⟩, hK, hQ⟩ := id X
  intro n
  induction n with
  | zero =>
    intro x2 x3 x4 x5 M H locs ls hT
    exact hT.elim
  | succ n ih =>
    intro x2 x3 x4 x5 M H locs ls hT h hl
    rw [T_X8_bestFor_6] at hT
    refine lv_iload hx hb dX8_bestFor_6 (lv_at hl 5 rfl) ?_
    refine lv_bipush (v := 7) hx hb dX8_bestFor_8 (by decide) ?_
    refine lv_icmp_gt (tgt := 46) hx hb dX8_bestFor_10 (by decide) (fun hc2 => ?_) (fun hc2 => ?_)
    · have hT := hT.1 hc2
      refine lv_iload hx hb dX8_bestFor_46 (lv_at hl 4 rfl) ?_
      exact fx_iret X hr hk h hT dX8_bestFor_48
    · have hT := hT.2 hc2
      refine lv_iload_n hx hb dX8_bestFor_13 rfl (lv_at hl 3 rfl) ?_
      refine lv_aload_n hx hb dX8_bestFor_14 rfl (lv_at hl 0 rfl) ?_
      refine lv_iload hx hb dX8_bestFor_15 (lv_at hl 5 rfl) ?_
      refine fx_vi X h ym_X8_bitOf yi_X8_bitOf ys_X8_bitOf (fx_s5 (List.mem_of_getElem? (i := 161) rfl) rfl) sh_151 rfl (c_X8_bitOf l G hT) (As := [.int x5]) (rest := [.int x3]) rfl rfl ⟨Nat.le_of_ble_eq_true rfl, Nat.le_of_ble_eq_true rfl⟩ ⟨Nat.le_refl _, Nat.le_refl _⟩ hl.1 (Nat.le_of_ble_eq_true rfl) dX8_bestFor_17 (fun r5 M4 H locs hT h => ?_)
      refine lv_iand hx hb dX8_bestFor_20 ?_
      refine lv_if_ne (tgt := 40) hx hb dX8_bestFor_21 (by decide) (fun hc6 => ?_) (fun hc6 => ?_)
      · have hT := hT.2 hc6
        exact w_X8_bestFor_40 ho1 X hr hk (B6 := (fun x2 x3 x4 x5 M => T_X8_bestFor_6 o1 n x2 x3 x4 x5 M K)) ih x2 x3 x4 x5 M4 _ _ ls hT h (lv_sub hl [0, 1, 2, 3, 4, 5] rfl)
      · have hT := hT.1 hc6
        refine lv_iload hx hb dX8_bestFor_24 (lv_at hl 4 rfl) ?_
        refine lv_aload_n hx hb dX8_bestFor_26 rfl (lv_at hl 0 rfl) ?_
        refine lv_aload_n hx hb dX8_bestFor_27 rfl (lv_at hl 1 rfl) ?_
        refine lv_iload_n hx hb dX8_bestFor_28 rfl (lv_at hl 2 rfl) ?_
        refine lv_iload hx hb dX8_bestFor_29 (lv_at hl 5 rfl) ?_
        refine lv_iload_n hx hb dX8_bestFor_31 rfl (lv_at hl 3 rfl) ?_
        refine fx_vi X h ym_X8_wanted yi_X8_wanted ys_X8_wanted (fx_s5 (List.mem_of_getElem? (i := 165) rfl) rfl) sh_151 rfl (c_X8_wanted l G ho1 hT) (As := [.ref (G.2.2.2 + o1), .int x2, .int x5, .int x3]) (rest := [.int x4]) rfl rfl ⟨Nat.le_of_ble_eq_true rfl, Nat.le_of_ble_eq_true rfl⟩ ⟨Nat.le_refl _, Nat.le_refl _⟩ hl.1 (Nat.le_of_ble_eq_true rfl) dX8_bestFor_32 (fun r9 M8 H locs hT h => ?_)
        refine va_mmax hx hb (hml.trans hl.1.symm) hown (hts _ (fx_s5 (List.mem_of_getElem? (i := 89) rfl) rfl)) (hts _ mt_max_s) (hts _ mt_i) (hts _ mt_max_c) (Nat.le_of_ble_eq_true rfl) (Nat.le_of_ble_eq_true rfl) (Nat.le_refl _) (Nat.le_refl _) dX8_bestFor_35 ?_
        refine lv_topi (fun y10 ey10 => ?_)
        have hT := hT y10 ey10
        refine lv_istore (lv' := [(4, .int y10), (0, .ref (G.2.2.2 + 151)), (1, .ref (G.2.2.2 + o1)), (2, .int x2), (3, .int x3), (5, .int x5)]) hx hb dX8_bestFor_38 hl (by decide) rfl (fun ls hl => ?_)
        exact w_X8_bestFor_40 ho1 X hr hk (B6 := (fun x2 x3 x4 x5 M => T_X8_bestFor_6 o1 n x2 x3 x4 x5 M K)) ih x2 x3 y10 x5 M8 _ _ ls hT h (lv_sub hl [1, 2, 3, 4, 0, 5] rfl)
def T_X8_bestFor (o1 : Nat) (x2 : Int32) (x3 : Int32) (M : Mm) (K : Int32 → Mm → Prop) : Prop := (T_X8_bestFor_6 o1 5000 x2 x3 (0 : Int32) (0 : Int32) M K)
set_option maxHeartbeats 4000000 in
set_option maxRecDepth 100000 in
theorem c_X8_bestFor (l : Launch) (G : fx_G) {o1 : Nat} (ho1 : o1 ∈ id_Plans) {x2 : Int32} {x3 : Int32} {M : Mm} {K : Int32 → Mm → Prop} (hT : T_X8_bestFor o1 x2 x3 M K) : Met l yX8_bestFor (fx_ws yX8_bestFor cX8_bestFor 6 (some .int)) (fx_rm (2)) (va_Pc [.ref (G.2.2.2 + 151), .ref (G.2.2.2 + o1), .int x2, .int x3] (fx_P G SH M)) (va_Qi K (fx_R G SH) (fx_A G)) 0 0 (fx_A G) := by
  refine fx_met (own := RX8) (by decide +kernel) rfl (Nat.le_of_ble_eq_true rfl) (fun p e s m below meth c X hr hk h ls hl => ?_)
  obtain ⟨⟨hx, hb, hml, hown, hts⟩, hK, hQ⟩ := id X
  have hl : lv_has ls 6 [(0, .ref (G.2.2.2 + 151)), (1, .ref (G.2.2.2 + o1)), (2, .int x2), (3, .int x3)] := hl
  unfold T_X8_bestFor at hT
  refine lv_iconst (v := 0) hx hb dX8_bestFor_0 (by decide) ?_
  refine lv_istore (lv' := [(4, .int (0 : Int32)), (0, .ref (G.2.2.2 + 151)), (1, .ref (G.2.2.2 + o1)), (2, .int x2), (3, .int x3)]) hx hb dX8_bestFor_1 hl (by decide) rfl (fun ls hl => ?_)
  refine lv_iconst (v := 0) hx hb dX8_bestFor_3 (by decide) ?_
  refine lv_istore (lv' := [(5, .int (0 : Int32)), (4, .int (0 : Int32)), (0, .ref (G.2.2.2 + 151)), (1, .ref (G.2.2.2 + o1)), (2, .int x2), (3, .int x3)]) hx hb dX8_bestFor_4 hl (by decide) rfl (fun ls hl => ?_)
  exact w_X8_bestFor_6 ho1 X hr hk 5000 x2 x3 (0 : Int32) (0 : Int32) M _ _ ls hT h (lv_sub hl [2, 3, 4, 5, 1, 0] rfl)
/-! MockParcels$Sums.leastKind(LMockParcels$Plans;II)I -/
theorem dX8_leastKind_0 : decode cX8_leastKind 0 = .ok (.iconst 0, 1) := by decide +kernel
theorem dX8_leastKind_1 : decode cX8_leastKind 1 = .ok (.istore 4, 2) := by decide +kernel
theorem dX8_leastKind_3 : decode cX8_leastKind 3 = .ok (.iload 4, 2) := by decide +kernel
theorem dX8_leastKind_5 : decode cX8_leastKind 5 = .ok (.bipush 7, 2) := by decide +kernel
theorem dX8_leastKind_7 : decode cX8_leastKind 7 = .ok (.if_icmp .gt 47, 3) := by decide +kernel
theorem dX8_leastKind_10 : decode cX8_leastKind 10 = .ok (.iload_n 3, 1) := by decide +kernel
theorem dX8_leastKind_11 : decode cX8_leastKind 11 = .ok (.aload_n 0, 1) := by decide +kernel
theorem dX8_leastKind_12 : decode cX8_leastKind 12 = .ok (.iload 4, 2) := by decide +kernel
theorem dX8_leastKind_14 : decode cX8_leastKind 14 = .ok (.invokevirtual 83, 3) := by decide +kernel
theorem dX8_leastKind_17 : decode cX8_leastKind 17 = .ok (.iand, 1) := by decide +kernel
theorem dX8_leastKind_18 : decode cX8_leastKind 18 = .ok (.ifCond .ne 30, 3) := by decide +kernel
theorem dX8_leastKind_21 : decode cX8_leastKind 21 = .ok (.aload_n 0, 1) := by decide +kernel
theorem dX8_leastKind_22 : decode cX8_leastKind 22 = .ok (.aload_n 1, 1) := by decide +kernel
theorem dX8_leastKind_23 : decode cX8_leastKind 23 = .ok (.iload_n 2, 1) := by decide +kernel
theorem dX8_leastKind_24 : decode cX8_leastKind 24 = .ok (.iload 4, 2) := by decide +kernel
theorem dX8_leastKind_26 : decode cX8_leastKind 26 = .ok (.iload_n 3, 1) := by decide +kernel
theorem dX8_leastKind_27 : decode cX8_leastKind 27 = .ok (.invokevirtual 87, 3) := by decide +kernel
theorem dX8_leastKind_30 : decode cX8_leastKind 30 = .ok (.aload_n 0, 1) := by decide +kernel
theorem dX8_leastKind_31 : decode cX8_leastKind 31 = .ok (.getfield 24, 3) := by decide +kernel
theorem dX8_leastKind_34 : decode cX8_leastKind 34 = .ok (.iload_n 2, 1) := by decide +kernel
theorem dX8_leastKind_35 : decode cX8_leastKind 35 = .ok (.sipush 128, 3) := by decide +kernel
theorem dX8_leastKind_38 : decode cX8_leastKind 38 = .ok (.imul, 1) := by decide +kernel
theorem dX8_leastKind_39 : decode cX8_leastKind 39 = .ok (.iload_n 3, 1) := by decide +kernel
theorem dX8_leastKind_40 : decode cX8_leastKind 40 = .ok (.iadd, 1) := by decide +kernel
theorem dX8_leastKind_41 : decode cX8_leastKind 41 = .ok (.iaload, 1) := by decide +kernel
theorem dX8_leastKind_42 : decode cX8_leastKind 42 = .ok (.if_icmp .ne 6, 3) := by decide +kernel
theorem dX8_leastKind_45 : decode cX8_leastKind 45 = .ok (.iload 4, 2) := by decide +kernel
theorem dX8_leastKind_47 : decode cX8_leastKind 47 = .ok (.ireturn, 1) := by decide +kernel
theorem dX8_leastKind_48 : decode cX8_leastKind 48 = .ok (.iinc 4 1, 3) := by decide +kernel
theorem dX8_leastKind_51 : decode cX8_leastKind 51 = .ok (.goto (-48), 3) := by decide +kernel
theorem dX8_leastKind_54 : decode cX8_leastKind 54 = .ok (.iconst 0, 1) := by decide +kernel
theorem dX8_leastKind_55 : decode cX8_leastKind 55 = .ok (.ireturn, 1) := by decide +kernel
def T_X8_leastKind_48 (B3 : Int32 → Int32 → Int32 → Mm → Prop) (o1 : Nat) (x2 : Int32) (x3 : Int32) (x4 : Int32) (M : Mm) (K : Int32 → Mm → Prop) : Prop := (∀ y1 : Int32, y1 = x4 + (1 : Int32) → (B3 x2 x3 y1 M))
set_option maxHeartbeats 4000000 in
set_option maxRecDepth 100000 in
theorem w_X8_leastKind_48 {p : Program} {l : Launch} {e : Env} {s : State} {m : MethodId} {args : Array Value} {below : List Frame} {meth : Method} {c : Code} {G : fx_G} {K : Int32 → Mm → Prop} {B3 : Int32 → Int32 → Int32 → Mm → Prop} {o1 : Nat} (ho1 : o1 ∈ id_Plans) (X : fx_C G p s m c args cX8_leastKind 5 RX8) (hr : meth.sig.returnType = (some .int)) (hk : meth.locks = false) (hB3 : ∀ (x2 : Int32) (x3 : Int32) (x4 : Int32) (M : Mm) (H : Heap) (locs : List Loc) (ls : Array Slot), B3 x2 x3 x4 M → fx_H G SH M s H locs → lv_has ls 5 [(0, .ref (G.2.2.2 + 151)), (1, .ref (G.2.2.2 + o1)), (2, .int x2), (3, .int x3), (4, .int x4)] → W p l e (fx_rm (2)) s m args below meth c H locs 0 0 (MQ below (va_Qi K (fx_R G SH) (fx_A G)) args s 0 0 (fx_A G)) (F0 m 3 ls [])) : ∀ (x2 : Int32) (x3 : Int32) (x4 : Int32) (M : Mm) (H : Heap) (locs : List Loc) (ls : Array Slot), T_X8_leastKind_48 B3 o1 x2 x3 x4 M K → fx_H G SH M s H locs → lv_has ls 5 [(0, .ref (G.2.2.2 + 151)), (1, .ref (G.2.2.2 + o1)), (2, .int x2), (3, .int x3), (4, .int x4)] → W p l e (fx_rm (2)) s m args below meth c H locs 0 0 (MQ below (va_Qi K (fx_R G SH) (fx_A G)) args s 0 0 (fx_A G)) (F0 m 48 ls []) := by
  obtain ⟨⟨hx, hb, hml, hown, hts⟩, hK, hQ⟩ := id X
  intro x2 x3 x4 M H locs ls hT h hl
  unfold T_X8_leastKind_48 at hT
  obtain ⟨y1, ey1⟩ : ∃ z : Int32, z = x4 + (1 : Int32) := ⟨_, rfl⟩
  have hT := hT y1 ey1
  refine lv_iinc (v := y1) (lv' := [(4, .int y1), (0, .ref (G.2.2.2 + 151)), (1, .ref (G.2.2.2 + o1)), (2, .int x2), (3, .int x3)]) hx hb dX8_leastKind_48 hl (k := 4) rfl (by rw [ey1]; rfl) (by decide) rfl (fun ls hl => ?_)
  refine lv_goto (tgt := 3) hx hb dX8_leastKind_51 (by decide) ?_
  exact hB3 x2 x3 y1 M _ _ ls hT h (lv_sub hl [1, 2, 3, 4, 0] rfl)
def T_X8_leastKind_3 (o1 : Nat) : Nat → Int32 → Int32 → Int32 → Mm → (Int32 → Mm → Prop) → Prop
  | 0, _, _, _, _, _ => False
  | n + 1, x2, x3, x4, M, K => (((7 : Int32) < x4 → (K (0 : Int32) M)) ∧ (¬ (7 : Int32) < x4 → (T_X8_bitOf x4 M (fun r5 M4 => (((x3 &&& r5) = 0 → (T_X8_wanted o1 x2 x4 x3 M4 (fun r9 M8 => (vp_in ((x2 * (128 : Int32)) + x3) 1152 ∧ ((r9 = (M8 156 (((x2 * (128 : Int32)) + x3)).toNatClampNeg) → (K x4 M8)) ∧ (¬ r9 = (M8 156 (((x2 * (128 : Int32)) + x3)).toNatClampNeg) → (T_X8_leastKind_48 (fun x2 x3 x4 M => T_X8_leastKind_3 o1 n x2 x3 x4 M K) o1 x2 x3 x4 M8 K))))))) ∧ (¬ (x3 &&& r5) = 0 → (T_X8_leastKind_48 (fun x2 x3 x4 M => T_X8_leastKind_3 o1 n x2 x3 x4 M K) o1 x2 x3 x4 M4 K)))))))
set_option maxHeartbeats 4000000 in
set_option maxRecDepth 100000 in
theorem w_X8_leastKind_3 {p : Program} {l : Launch} {e : Env} {s : State} {m : MethodId} {args : Array Value} {below : List Frame} {meth : Method} {c : Code} {G : fx_G} {K : Int32 → Mm → Prop} {o1 : Nat} (ho1 : o1 ∈ id_Plans) (X : fx_C G p s m c args cX8_leastKind 5 RX8) (hr : meth.sig.returnType = (some .int)) (hk : meth.locks = false) : ∀ (n : Nat) (x2 : Int32) (x3 : Int32) (x4 : Int32) (M : Mm) (H : Heap) (locs : List Loc) (ls : Array Slot), T_X8_leastKind_3 o1 n x2 x3 x4 M K → fx_H G SH M s H locs → lv_has ls 5 [(0, .ref (G.2.2.2 + 151)), (1, .ref (G.2.2.2 + o1)), (2, .int x2), (3, .int x3), (4, .int x4)] → W p l e (fx_rm (2)) s m args below meth c H locs 0 0 (MQ below (va_Qi K (fx_R G SH) (fx_A G)) args s 0 0 (fx_A G)) (F0 m 3 ls []) := by
  obtain ⟨⟨hx, hb, hml, hown, hts⟩, hK, hQ⟩ := id X
  intro n
  induction n with
  | zero =>
    intro x2 x3 x4 M H locs ls hT
    exact hT.elim
  | succ n ih =>
    intro x2 x3 x4 M H locs ls hT h hl
    rw [T_X8_leastKind_3] at hT
    refine lv_iload hx hb dX8_leastKind_3 (lv_at hl 4 rfl) ?_
    refine lv_bipush (v := 7) hx hb dX8_leastKind_5 (by decide) ?_
    refine lv_icmp_gt (tgt := 54) hx hb dX8_leastKind_7 (by decide) (fun hc2 => ?_) (fun hc2 => ?_)
    · have hT := hT.1 hc2
      refine lv_iconst (v := 0) hx hb dX8_leastKind_54 (by decide) ?_
      exact fx_iret X hr hk h hT dX8_leastKind_55
    · have hT := hT.2 hc2
      refine lv_iload_n hx hb dX8_leastKind_10 rfl (lv_at hl 3 rfl) ?_
      refine lv_aload_n hx hb dX8_leastKind_11 rfl (lv_at hl 0 rfl) ?_
      refine lv_iload hx hb dX8_leastKind_12 (lv_at hl 4 rfl) ?_
      refine fx_vi X h ym_X8_bitOf yi_X8_bitOf ys_X8_bitOf (fx_s5 (List.mem_of_getElem? (i := 161) rfl) rfl) sh_151 rfl (c_X8_bitOf l G hT) (As := [.int x4]) (rest := [.int x3]) rfl rfl ⟨Nat.le_of_ble_eq_true rfl, Nat.le_of_ble_eq_true rfl⟩ ⟨Nat.le_refl _, Nat.le_refl _⟩ hl.1 (Nat.le_of_ble_eq_true rfl) dX8_leastKind_14 (fun r5 M4 H locs hT h => ?_)
      refine lv_iand hx hb dX8_leastKind_17 ?_
      refine lv_if_ne (tgt := 48) hx hb dX8_leastKind_18 (by decide) (fun hc6 => ?_) (fun hc6 => ?_)
      · have hT := hT.2 hc6
        exact w_X8_leastKind_48 ho1 X hr hk (B3 := (fun x2 x3 x4 M => T_X8_leastKind_3 o1 n x2 x3 x4 M K)) ih x2 x3 x4 M4 _ _ ls hT h (lv_sub hl [0, 1, 2, 3, 4] rfl)
      · have hT := hT.1 hc6
        refine lv_aload_n hx hb dX8_leastKind_21 rfl (lv_at hl 0 rfl) ?_
        refine lv_aload_n hx hb dX8_leastKind_22 rfl (lv_at hl 1 rfl) ?_
        refine lv_iload_n hx hb dX8_leastKind_23 rfl (lv_at hl 2 rfl) ?_
        refine lv_iload hx hb dX8_leastKind_24 (lv_at hl 4 rfl) ?_
        refine lv_iload_n hx hb dX8_leastKind_26 rfl (lv_at hl 3 rfl) ?_
        refine fx_vi X h ym_X8_wanted yi_X8_wanted ys_X8_wanted (fx_s5 (List.mem_of_getElem? (i := 165) rfl) rfl) sh_151 rfl (c_X8_wanted l G ho1 hT) (As := [.ref (G.2.2.2 + o1), .int x2, .int x4, .int x3]) (rest := []) rfl rfl ⟨Nat.le_of_ble_eq_true rfl, Nat.le_of_ble_eq_true rfl⟩ ⟨Nat.le_refl _, Nat.le_refl _⟩ hl.1 (Nat.le_of_ble_eq_true rfl) dX8_leastKind_27 (fun r9 M8 H locs hT h => ?_)
        refine lv_aload_n hx hb dX8_leastKind_30 rfl (lv_at hl 0 rfl) ?_
        refine fx_getR X h (k := 151) (j := 4) (r := 156) sh_151 rfl fl_RX8_24 dX8_leastKind_31 ?_
        refine lv_iload_n hx hb dX8_leastKind_34 rfl (lv_at hl 2 rfl) ?_
        refine lv_sipush (v := 128) hx hb dX8_leastKind_35 (by decide) ?_
        refine lv_imul hx hb dX8_leastKind_38 ?_
        refine lv_iload_n hx hb dX8_leastKind_39 rfl (lv_at hl 3 rfl) ?_
        refine lv_iadd hx hb dX8_leastKind_40 ?_
        obtain ⟨hi10, hT⟩ := hT
        refine fx_iald X h (k := 156) sh_156 hi10 dX8_leastKind_41 ?_
        refine lv_icmp_ne (tgt := 48) hx hb dX8_leastKind_42 (by decide) (fun hc11 => ?_) (fun hc11 => ?_)
        · have hT := hT.2 hc11
          exact w_X8_leastKind_48 ho1 X hr hk (B3 := (fun x2 x3 x4 M => T_X8_leastKind_3 o1 n x2 x3 x4 M K)) ih x2 x3 x4 M8 _ _ ls hT h (lv_sub hl [0, 1, 2, 3, 4] rfl)
        · have hT := hT.1 hc11
          refine lv_iload hx hb dX8_leastKind_45 (lv_at hl 4 rfl) ?_
          exact fx_iret X hr hk h hT dX8_leastKind_47
def T_X8_leastKind (o1 : Nat) (x2 : Int32) (x3 : Int32) (M : Mm) (K : Int32 → Mm → Prop) : Prop := (T_X8_leastKind_3 o1 5000 x2 x3 (0 : Int32) M K)
set_option maxHeartbeats 4000000 in
set_option maxRecDepth 100000 in
theorem c_X8_leastKind (l : Launch) (G : fx_G) {o1 : Nat} (ho1 : o1 ∈ id_Plans) {x2 : Int32} {x3 : Int32} {M : Mm} {K : Int32 → Mm → Prop} (hT : T_X8_leastKind o1 x2 x3 M K) : Met l yX8_leastKind (fx_ws yX8_leastKind cX8_leastKind 5 (some .int)) (fx_rm (2)) (va_Pc [.ref (G.2.2.2 + 151), .ref (G.2.2.2 + o1), .int x2, .int x3] (fx_P G SH M)) (va_Qi K (fx_R G SH) (fx_A G)) 0 0 (fx_A G) := by
  refine fx_met (own := RX8) (by decide +kernel) rfl (Nat.le_of_ble_eq_true rfl) (fun p e s m below meth c X hr hk h ls hl => ?_)
  obtain ⟨⟨hx, hb, hml, hown, hts⟩, hK, hQ⟩ := id X
  have hl : lv_has ls 5 [(0, .ref (G.2.2.2 + 151)), (1, .ref (G.2.2.2 + o1)), (2, .int x2), (3, .int x3)] := hl
  unfold T_X8_leastKind at hT
  refine lv_iconst (v := 0) hx hb dX8_leastKind_0 (by decide) ?_
  refine lv_istore (lv' := [(4, .int (0 : Int32)), (0, .ref (G.2.2.2 + 151)), (1, .ref (G.2.2.2 + o1)), (2, .int x2), (3, .int x3)]) hx hb dX8_leastKind_1 hl (by decide) rfl (fun ls hl => ?_)
  exact w_X8_leastKind_3 ho1 X hr hk 5000 x2 x3 (0 : Int32) M _ _ ls hT h (lv_sub hl [1, 2, 3, 4, 0] rfl)
/-! MockParcels$Sums.shareOut(LMockParcels$Plans;I)I -/
theorem dX8_shareOut_0 : decode cX8_shareOut 0 = .ok (.iload_n 2, 1) := by decide +kernel
theorem dX8_shareOut_1 : decode cX8_shareOut 1 = .ok (.bipush 8, 2) := by decide +kernel
theorem dX8_shareOut_3 : decode cX8_shareOut 3 = .ok (.invokestatic 51, 3) := by decide +kernel
theorem dX8_shareOut_6 : decode cX8_shareOut 6 = .ok (.istore_n 3, 1) := by decide +kernel
theorem dX8_shareOut_7 : decode cX8_shareOut 7 = .ok (.iconst 0, 1) := by decide +kernel
theorem dX8_shareOut_8 : decode cX8_shareOut 8 = .ok (.istore 4, 2) := by decide +kernel
theorem dX8_shareOut_10 : decode cX8_shareOut 10 = .ok (.iload 4, 2) := by decide +kernel
theorem dX8_shareOut_12 : decode cX8_shareOut 12 = .ok (.sipush 128, 3) := by decide +kernel
theorem dX8_shareOut_15 : decode cX8_shareOut 15 = .ok (.if_icmp .ge 23, 3) := by decide +kernel
theorem dX8_shareOut_18 : decode cX8_shareOut 18 = .ok (.aload_n 0, 1) := by decide +kernel
theorem dX8_shareOut_19 : decode cX8_shareOut 19 = .ok (.getfield 24, 3) := by decide +kernel
theorem dX8_shareOut_22 : decode cX8_shareOut 22 = .ok (.iload_n 3, 1) := by decide +kernel
theorem dX8_shareOut_23 : decode cX8_shareOut 23 = .ok (.sipush 128, 3) := by decide +kernel
theorem dX8_shareOut_26 : decode cX8_shareOut 26 = .ok (.imul, 1) := by decide +kernel
theorem dX8_shareOut_27 : decode cX8_shareOut 27 = .ok (.iload 4, 2) := by decide +kernel
theorem dX8_shareOut_29 : decode cX8_shareOut 29 = .ok (.iadd, 1) := by decide +kernel
theorem dX8_shareOut_30 : decode cX8_shareOut 30 = .ok (.iconst 0, 1) := by decide +kernel
theorem dX8_shareOut_31 : decode cX8_shareOut 31 = .ok (.iastore, 1) := by decide +kernel
theorem dX8_shareOut_32 : decode cX8_shareOut 32 = .ok (.iinc 4 1, 3) := by decide +kernel
theorem dX8_shareOut_35 : decode cX8_shareOut 35 = .ok (.goto (-25), 3) := by decide +kernel
theorem dX8_shareOut_38 : decode cX8_shareOut 38 = .ok (.iload_n 3, 1) := by decide +kernel
theorem dX8_shareOut_39 : decode cX8_shareOut 39 = .ok (.iconst 1, 1) := by decide +kernel
theorem dX8_shareOut_40 : decode cX8_shareOut 40 = .ok (.isub, 1) := by decide +kernel
theorem dX8_shareOut_41 : decode cX8_shareOut 41 = .ok (.istore 4, 2) := by decide +kernel
theorem dX8_shareOut_43 : decode cX8_shareOut 43 = .ok (.iload 4, 2) := by decide +kernel
theorem dX8_shareOut_45 : decode cX8_shareOut 45 = .ok (.ifCond .lt 49, 3) := by decide +kernel
theorem dX8_shareOut_48 : decode cX8_shareOut 48 = .ok (.iconst 0, 1) := by decide +kernel
theorem dX8_shareOut_49 : decode cX8_shareOut 49 = .ok (.istore 5, 2) := by decide +kernel
theorem dX8_shareOut_51 : decode cX8_shareOut 51 = .ok (.iload 5, 2) := by decide +kernel
theorem dX8_shareOut_53 : decode cX8_shareOut 53 = .ok (.sipush 128, 3) := by decide +kernel
theorem dX8_shareOut_56 : decode cX8_shareOut 56 = .ok (.if_icmp .ge 32, 3) := by decide +kernel
theorem dX8_shareOut_59 : decode cX8_shareOut 59 = .ok (.aload_n 0, 1) := by decide +kernel
theorem dX8_shareOut_60 : decode cX8_shareOut 60 = .ok (.getfield 24, 3) := by decide +kernel
theorem dX8_shareOut_63 : decode cX8_shareOut 63 = .ok (.iload 4, 2) := by decide +kernel
theorem dX8_shareOut_65 : decode cX8_shareOut 65 = .ok (.sipush 128, 3) := by decide +kernel
theorem dX8_shareOut_68 : decode cX8_shareOut 68 = .ok (.imul, 1) := by decide +kernel
theorem dX8_shareOut_69 : decode cX8_shareOut 69 = .ok (.iload 5, 2) := by decide +kernel
theorem dX8_shareOut_71 : decode cX8_shareOut 71 = .ok (.iadd, 1) := by decide +kernel
theorem dX8_shareOut_72 : decode cX8_shareOut 72 = .ok (.aload_n 0, 1) := by decide +kernel
theorem dX8_shareOut_73 : decode cX8_shareOut 73 = .ok (.aload_n 1, 1) := by decide +kernel
theorem dX8_shareOut_74 : decode cX8_shareOut 74 = .ok (.iload 4, 2) := by decide +kernel
theorem dX8_shareOut_76 : decode cX8_shareOut 76 = .ok (.iload 5, 2) := by decide +kernel
theorem dX8_shareOut_78 : decode cX8_shareOut 78 = .ok (.invokevirtual 76, 3) := by decide +kernel
theorem dX8_shareOut_81 : decode cX8_shareOut 81 = .ok (.iastore, 1) := by decide +kernel
theorem dX8_shareOut_82 : decode cX8_shareOut 82 = .ok (.iinc 5 1, 3) := by decide +kernel
theorem dX8_shareOut_85 : decode cX8_shareOut 85 = .ok (.goto (-34), 3) := by decide +kernel
theorem dX8_shareOut_88 : decode cX8_shareOut 88 = .ok (.iinc 4 (-1), 3) := by decide +kernel
theorem dX8_shareOut_91 : decode cX8_shareOut 91 = .ok (.goto (-48), 3) := by decide +kernel
theorem dX8_shareOut_94 : decode cX8_shareOut 94 = .ok (.iconst 0, 1) := by decide +kernel
theorem dX8_shareOut_95 : decode cX8_shareOut 95 = .ok (.istore 4, 2) := by decide +kernel
theorem dX8_shareOut_97 : decode cX8_shareOut 97 = .ok (.iconst 0, 1) := by decide +kernel
theorem dX8_shareOut_98 : decode cX8_shareOut 98 = .ok (.istore 5, 2) := by decide +kernel
theorem dX8_shareOut_100 : decode cX8_shareOut 100 = .ok (.iload 5, 2) := by decide +kernel
theorem dX8_shareOut_102 : decode cX8_shareOut 102 = .ok (.iload_n 3, 1) := by decide +kernel
theorem dX8_shareOut_103 : decode cX8_shareOut 103 = .ok (.if_icmp .ge 41, 3) := by decide +kernel
theorem dX8_shareOut_106 : decode cX8_shareOut 106 = .ok (.aload_n 0, 1) := by decide +kernel
theorem dX8_shareOut_107 : decode cX8_shareOut 107 = .ok (.getfield 18, 3) := by decide +kernel
theorem dX8_shareOut_110 : decode cX8_shareOut 110 = .ok (.iload 5, 2) := by decide +kernel
theorem dX8_shareOut_112 : decode cX8_shareOut 112 = .ok (.aload_n 0, 1) := by decide +kernel
theorem dX8_shareOut_113 : decode cX8_shareOut 113 = .ok (.aload_n 1, 1) := by decide +kernel
theorem dX8_shareOut_114 : decode cX8_shareOut 114 = .ok (.iload 5, 2) := by decide +kernel
theorem dX8_shareOut_116 : decode cX8_shareOut 116 = .ok (.iload 4, 2) := by decide +kernel
theorem dX8_shareOut_118 : decode cX8_shareOut 118 = .ok (.invokevirtual 80, 3) := by decide +kernel
theorem dX8_shareOut_121 : decode cX8_shareOut 121 = .ok (.iastore, 1) := by decide +kernel
theorem dX8_shareOut_122 : decode cX8_shareOut 122 = .ok (.iload 4, 2) := by decide +kernel
theorem dX8_shareOut_124 : decode cX8_shareOut 124 = .ok (.aload_n 0, 1) := by decide +kernel
theorem dX8_shareOut_125 : decode cX8_shareOut 125 = .ok (.aload_n 0, 1) := by decide +kernel
theorem dX8_shareOut_126 : decode cX8_shareOut 126 = .ok (.getfield 18, 3) := by decide +kernel
theorem dX8_shareOut_129 : decode cX8_shareOut 129 = .ok (.iload 5, 2) := by decide +kernel
theorem dX8_shareOut_131 : decode cX8_shareOut 131 = .ok (.iaload, 1) := by decide +kernel
theorem dX8_shareOut_132 : decode cX8_shareOut 132 = .ok (.invokevirtual 83, 3) := by decide +kernel
theorem dX8_shareOut_135 : decode cX8_shareOut 135 = .ok (.ior, 1) := by decide +kernel
theorem dX8_shareOut_136 : decode cX8_shareOut 136 = .ok (.istore 4, 2) := by decide +kernel
theorem dX8_shareOut_138 : decode cX8_shareOut 138 = .ok (.iinc 5 1, 3) := by decide +kernel
theorem dX8_shareOut_141 : decode cX8_shareOut 141 = .ok (.goto (-41), 3) := by decide +kernel
theorem dX8_shareOut_144 : decode cX8_shareOut 144 = .ok (.aload_n 0, 1) := by decide +kernel
theorem dX8_shareOut_145 : decode cX8_shareOut 145 = .ok (.getfield 24, 3) := by decide +kernel
theorem dX8_shareOut_148 : decode cX8_shareOut 148 = .ok (.iconst 0, 1) := by decide +kernel
theorem dX8_shareOut_149 : decode cX8_shareOut 149 = .ok (.iaload, 1) := by decide +kernel
theorem dX8_shareOut_150 : decode cX8_shareOut 150 = .ok (.ireturn, 1) := by decide +kernel
def T_X8_shareOut_100 (o1 : Nat) : Nat → Int32 → Int32 → Int32 → Mm → (Int32 → Mm → Prop) → Prop
  | 0, _, _, _, _, _ => False
  | n + 1, x3, x4, x5, M, K => ((x3 ≤ x5 → (K (M 156 0) M)) ∧ (¬ x3 ≤ x5 → (T_X8_leastKind o1 x5 x4 M (fun r4 M3 => (vp_in x5 8 ∧ (∀ M5 : Mm, M5 = m_up M3 154 (x5).toNatClampNeg r4 → (vp_in x5 8 ∧ (T_X8_bitOf (M5 154 (x5).toNatClampNeg) M5 (fun r10 M9 => (∀ y11 : Int32, y11 = (x4 ||| r10) → (∀ y12 : Int32, y12 = x5 + (1 : Int32) → (T_X8_shareOut_100 o1 n x3 y11 y12 M9 K))))))))))))
set_option maxHeartbeats 4000000 in
set_option maxRecDepth 100000 in
theorem w_X8_shareOut_100 {p : Program} {l : Launch} {e : Env} {s : State} {m : MethodId} {args : Array Value} {below : List Frame} {meth : Method} {c : Code} {G : fx_G} {K : Int32 → Mm → Prop} {o1 : Nat} (ho1 : o1 ∈ id_Plans) (X : fx_C G p s m c args cX8_shareOut 6 RX8) (hr : meth.sig.returnType = (some .int)) (hk : meth.locks = false) : ∀ (n : Nat) (x3 : Int32) (x4 : Int32) (x5 : Int32) (M : Mm) (H : Heap) (locs : List Loc) (ls : Array Slot), T_X8_shareOut_100 o1 n x3 x4 x5 M K → fx_H G SH M s H locs → lv_has ls 6 [(0, .ref (G.2.2.2 + 151)), (1, .ref (G.2.2.2 + o1)), (3, .int x3), (4, .int x4), (5, .int x5)] → W p l e (fx_rm (3)) s m args below meth c H locs 0 0 (MQ below (va_Qi K (fx_R G SH) (fx_A G)) args s 0 0 (fx_A G)) (F0 m 100 ls []) := by
  obtain ⟨⟨hx, hb, hml, hown, hts⟩, hK, hQ⟩ := id X
  intro n
  induction n with
  | zero =>
    intro x3 x4 x5 M H locs ls hT
    exact hT.elim
  | succ n ih =>
    intro x3 x4 x5 M H locs ls hT h hl
    rw [T_X8_shareOut_100] at hT
    refine lv_iload hx hb dX8_shareOut_100 (lv_at hl 4 rfl) ?_
    refine lv_iload_n hx hb dX8_shareOut_102 rfl (lv_at hl 2 rfl) ?_
    refine lv_icmp_ge (tgt := 144) hx hb dX8_shareOut_103 (by decide) (fun hc1 => ?_) (fun hc1 => ?_)
    · have hT := hT.1 hc1
      refine lv_aload_n hx hb dX8_shareOut_144 rfl (lv_at hl 0 rfl) ?_
      refine fx_getR X h (k := 151) (j := 4) (r := 156) sh_151 rfl fl_RX8_24 dX8_shareOut_145 ?_
      refine lv_iconst (v := 0) hx hb dX8_shareOut_148 (by decide) ?_
      refine fx_iald X h (k := 156) sh_156 (by unfold vp_in; decide) dX8_shareOut_149 ?_
      rw [show ((0 : Int32)).toNatClampNeg = 0 by decide]
      exact fx_iret X hr hk h hT dX8_shareOut_150
    · have hT := hT.2 hc1
      refine lv_aload_n hx hb dX8_shareOut_106 rfl (lv_at hl 0 rfl) ?_
      refine fx_getR X h (k := 151) (j := 2) (r := 154) sh_151 rfl fl_RX8_18 dX8_shareOut_107 ?_
      refine lv_iload hx hb dX8_shareOut_110 (lv_at hl 4 rfl) ?_
      refine lv_aload_n hx hb dX8_shareOut_112 rfl (lv_at hl 0 rfl) ?_
      refine lv_aload_n hx hb dX8_shareOut_113 rfl (lv_at hl 1 rfl) ?_
      refine lv_iload hx hb dX8_shareOut_114 (lv_at hl 4 rfl) ?_
      refine lv_iload hx hb dX8_shareOut_116 (lv_at hl 3 rfl) ?_
      refine fx_vi X h ym_X8_leastKind yi_X8_leastKind ys_X8_leastKind (fx_s5 (List.mem_of_getElem? (i := 169) rfl) rfl) sh_151 rfl (c_X8_leastKind l G ho1 hT) (As := [.ref (G.2.2.2 + o1), .int x5, .int x4]) (rest := [.int x5, .ref (G.2.2.2 + 154)]) rfl rfl ⟨Nat.le_of_ble_eq_true rfl, Nat.le_of_ble_eq_true rfl⟩ ⟨Nat.le_refl _, Nat.le_refl _⟩ hl.1 (Nat.le_of_ble_eq_true rfl) dX8_shareOut_118 (fun r4 M3 H locs hT h => ?_)
      obtain ⟨hi6, hT⟩ := hT
      refine fx_iast X h (k := 154) sh_154 hi6 dX8_shareOut_121 (fun H locs h => ?_)
      obtain ⟨M5, eM5⟩ : ∃ z : Mm, z = m_up M3 154 (x5).toNatClampNeg r4 := ⟨_, rfl⟩
      have hT := hT M5 eM5
      rw [← eM5] at h
      refine lv_iload hx hb dX8_shareOut_122 (lv_at hl 3 rfl) ?_
      refine lv_aload_n hx hb dX8_shareOut_124 rfl (lv_at hl 0 rfl) ?_
      refine lv_aload_n hx hb dX8_shareOut_125 rfl (lv_at hl 0 rfl) ?_
      refine fx_getR X h (k := 151) (j := 2) (r := 154) sh_151 rfl fl_RX8_18 dX8_shareOut_126 ?_
      refine lv_iload hx hb dX8_shareOut_129 (lv_at hl 4 rfl) ?_
      obtain ⟨hi7, hT⟩ := hT
      refine fx_iald X h (k := 154) sh_154 hi7 dX8_shareOut_131 ?_
      refine fx_vi X h ym_X8_bitOf yi_X8_bitOf ys_X8_bitOf (fx_s5 (List.mem_of_getElem? (i := 161) rfl) rfl) sh_151 rfl (c_X8_bitOf l G hT) (As := [.int (M5 154 (x5).toNatClampNeg)]) (rest := [.int x4]) rfl rfl ⟨Nat.le_of_ble_eq_true rfl, Nat.le_of_ble_eq_true rfl⟩ ⟨Nat.le_refl _, Nat.le_refl _⟩ hl.1 (Nat.le_of_ble_eq_true rfl) dX8_shareOut_132 (fun r10 M9 H locs hT h => ?_)
      refine lv_ior hx hb dX8_shareOut_135 ?_
      refine lv_topi (fun y11 ey11 => ?_)
      have hT := hT y11 ey11
      refine lv_istore (lv' := [(4, .int y11), (0, .ref (G.2.2.2 + 151)), (1, .ref (G.2.2.2 + o1)), (3, .int x3), (5, .int x5)]) hx hb dX8_shareOut_136 hl (by decide) rfl (fun ls hl => ?_)
      obtain ⟨y12, ey12⟩ : ∃ z : Int32, z = x5 + (1 : Int32) := ⟨_, rfl⟩
      have hT := hT y12 ey12
      refine lv_iinc (v := y12) (lv' := [(5, .int y12), (4, .int y11), (0, .ref (G.2.2.2 + 151)), (1, .ref (G.2.2.2 + o1)), (3, .int x3)]) hx hb dX8_shareOut_138 hl (k := 4) rfl (by rw [ey12]; rfl) (by decide) rfl (fun ls hl => ?_)
      refine lv_goto (tgt := 100) hx hb dX8_shareOut_141 (by decide) ?_
      exact ih x3 y11 y12 M9 _ _ ls hT h (lv_sub hl [2, 3, 4, 1, 0] rfl)
def T_X8_shareOut_51 (B43 : Int32 → Int32 → Mm → Prop) (o1 : Nat) : Nat → Int32 → Int32 → Int32 → Mm → (Int32 → Mm → Prop) → Prop
  | 0, _, _, _, _, _ => False
  | n + 1, x3, x4, x5, M, K => (((128 : Int32) ≤ x5 → (∀ y14 : Int32, y14 = x4 + (-1 : Int32) → (B43 x3 y14 M))) ∧ (¬ (128 : Int32) ≤ x5 → (T_X8_bestFor o1 x4 x5 M (fun r17 M16 => (vp_in ((x4 * (128 : Int32)) + x5) 1152 ∧ (∀ M18 : Mm, M18 = m_up M16 156 (((x4 * (128 : Int32)) + x5)).toNatClampNeg r17 → (∀ y20 : Int32, y20 = x5 + (1 : Int32) → (T_X8_shareOut_51 B43 o1 n x3 x4 y20 M18 K))))))))
set_option maxHeartbeats 4000000 in
set_option maxRecDepth 100000 in
theorem w_X8_shareOut_51 {p : Program} {l : Launch} {e : Env} {s : State} {m : MethodId} {args : Array Value} {below : List Frame} {meth : Method} {c : Code} {G : fx_G} {K : Int32 → Mm → Prop} {B43 : Int32 → Int32 → Mm → Prop} {o1 : Nat} (ho1 : o1 ∈ id_Plans) (X : fx_C G p s m c args cX8_shareOut 6 RX8) (hr : meth.sig.returnType = (some .int)) (hk : meth.locks = false) (hB43 : ∀ (x3 : Int32) (x4 : Int32) (M : Mm) (H : Heap) (locs : List Loc) (ls : Array Slot), B43 x3 x4 M → fx_H G SH M s H locs → lv_has ls 6 [(0, .ref (G.2.2.2 + 151)), (1, .ref (G.2.2.2 + o1)), (3, .int x3), (4, .int x4)] → W p l e (fx_rm (3)) s m args below meth c H locs 0 0 (MQ below (va_Qi K (fx_R G SH) (fx_A G)) args s 0 0 (fx_A G)) (F0 m 43 ls [])) : ∀ (n : Nat) (x3 : Int32) (x4 : Int32) (x5 : Int32) (M : Mm) (H : Heap) (locs : List Loc) (ls : Array Slot), T_X8_shareOut_51 B43 o1 n x3 x4 x5 M K → fx_H G SH M s H locs → lv_has ls 6 [(0, .ref (G.2.2.2 + 151)), (1, .ref (G.2.2.2 + o1)), (3, .int x3), (4, .int x4), (5, .int x5)] → W p l e (fx_rm (3)) s m args below meth c H locs 0 0 (MQ below (va_Qi K (fx_R G SH) (fx_A G)) args s 0 0 (fx_A G)) (F0 m 51 ls []) := by
  obtain ⟨⟨hx, hb, hml, hown, hts⟩, hK, hQ⟩ := id X
  intro n
  induction n with
  | zero =>
    intro x3 x4 x5 M H locs ls hT
    exact hT.elim
  | succ n ih =>
    intro x3 x4 x5 M H locs ls hT h hl
    rw [T_X8_shareOut_51] at hT
    refine lv_iload hx hb dX8_shareOut_51 (lv_at hl 4 rfl) ?_
    refine lv_sipush (v := 128) hx hb dX8_shareOut_53 (by decide) ?_
    refine lv_icmp_ge (tgt := 88) hx hb dX8_shareOut_56 (by decide) (fun hc13 => ?_) (fun hc13 => ?_)
    · have hT := hT.1 hc13
      obtain ⟨y14, ey14⟩ : ∃ z : Int32, z = x4 + (-1 : Int32) := ⟨_, rfl⟩
      have hT := hT y14 ey14
      refine lv_iinc (v := y14) (lv' := [(4, .int y14), (0, .ref (G.2.2.2 + 151)), (1, .ref (G.2.2.2 + o1)), (3, .int x3), (5, .int x5)]) hx hb dX8_shareOut_88 hl (k := 3) rfl (by rw [ey14]; rfl) (by decide) rfl (fun ls hl => ?_)
      refine lv_goto (tgt := 43) hx hb dX8_shareOut_91 (by decide) ?_
      exact hB43 x3 y14 M _ _ ls hT h (lv_sub hl [1, 2, 3, 0] rfl)
    · have hT := hT.2 hc13
      refine lv_aload_n hx hb dX8_shareOut_59 rfl (lv_at hl 0 rfl) ?_
      refine fx_getR X h (k := 151) (j := 4) (r := 156) sh_151 rfl fl_RX8_24 dX8_shareOut_60 ?_
      refine lv_iload hx hb dX8_shareOut_63 (lv_at hl 3 rfl) ?_
      refine lv_sipush (v := 128) hx hb dX8_shareOut_65 (by decide) ?_
      refine lv_imul hx hb dX8_shareOut_68 ?_
      refine lv_iload hx hb dX8_shareOut_69 (lv_at hl 4 rfl) ?_
      refine lv_iadd hx hb dX8_shareOut_71 ?_
      refine lv_aload_n hx hb dX8_shareOut_72 rfl (lv_at hl 0 rfl) ?_
      refine lv_aload_n hx hb dX8_shareOut_73 rfl (lv_at hl 1 rfl) ?_
      refine lv_iload hx hb dX8_shareOut_74 (lv_at hl 3 rfl) ?_
      refine lv_iload hx hb dX8_shareOut_76 (lv_at hl 4 rfl) ?_
      refine fx_vi X h ym_X8_bestFor yi_X8_bestFor ys_X8_bestFor (fx_s5 (List.mem_of_getElem? (i := 157) rfl) rfl) sh_151 rfl (c_X8_bestFor l G ho1 hT) (As := [.ref (G.2.2.2 + o1), .int x4, .int x5]) (rest := [.int ((x4 * (128 : Int32)) + x5), .ref (G.2.2.2 + 156)]) rfl rfl ⟨Nat.le_of_ble_eq_true rfl, Nat.le_of_ble_eq_true rfl⟩ ⟨Nat.le_refl _, Nat.le_refl _⟩ hl.1 (Nat.le_of_ble_eq_true rfl) dX8_shareOut_78 (fun r17 M16 H locs hT h => ?_)
      obtain ⟨hi19, hT⟩ := hT
      refine fx_iast X h (k := 156) sh_156 hi19 dX8_shareOut_81 (fun H locs h => ?_)
      obtain ⟨M18, eM18⟩ : ∃ z : Mm, z = m_up M16 156 (((x4 * (128 : Int32)) + x5)).toNatClampNeg r17 := ⟨_, rfl⟩
      have hT := hT M18 eM18
      rw [← eM18] at h
      obtain ⟨y20, ey20⟩ : ∃ z : Int32, z = x5 + (1 : Int32) := ⟨_, rfl⟩
      have hT := hT y20 ey20
      refine lv_iinc (v := y20) (lv' := [(5, .int y20), (0, .ref (G.2.2.2 + 151)), (1, .ref (G.2.2.2 + o1)), (3, .int x3), (4, .int x4)]) hx hb dX8_shareOut_82 hl (k := 4) rfl (by rw [ey20]; rfl) (by decide) rfl (fun ls hl => ?_)
      refine lv_goto (tgt := 51) hx hb dX8_shareOut_85 (by decide) ?_
      exact ih x3 x4 y20 M18 _ _ ls hT h (lv_sub hl [1, 2, 3, 4, 0] rfl)
def T_X8_shareOut_43 (o1 : Nat) : Nat → Int32 → Int32 → Mm → (Int32 → Mm → Prop) → Prop
  | 0, _, _, _, _ => False
  | n + 1, x3, x4, M, K => ((x4 < 0 → (T_X8_shareOut_100 o1 5000 x3 (0 : Int32) (0 : Int32) M K)) ∧ (¬ x4 < 0 → (T_X8_shareOut_51 (fun x3 x4 M => T_X8_shareOut_43 o1 n x3 x4 M K) o1 5000 x3 x4 (0 : Int32) M K)))
set_option maxHeartbeats 4000000 in
set_option maxRecDepth 100000 in
theorem w_X8_shareOut_43 {p : Program} {l : Launch} {e : Env} {s : State} {m : MethodId} {args : Array Value} {below : List Frame} {meth : Method} {c : Code} {G : fx_G} {K : Int32 → Mm → Prop} {o1 : Nat} (ho1 : o1 ∈ id_Plans) (X : fx_C G p s m c args cX8_shareOut 6 RX8) (hr : meth.sig.returnType = (some .int)) (hk : meth.locks = false) : ∀ (n : Nat) (x3 : Int32) (x4 : Int32) (M : Mm) (H : Heap) (locs : List Loc) (ls : Array Slot), T_X8_shareOut_43 o1 n x3 x4 M K → fx_H G SH M s H locs → lv_has ls 6 [(0, .ref (G.2.2.2 + 151)), (1, .ref (G.2.2.2 + o1)), (3, .int x3), (4, .int x4)] → W p l e (fx_rm (3)) s m args below meth c H locs 0 0 (MQ below (va_Qi K (fx_R G SH) (fx_A G)) args s 0 0 (fx_A G)) (F0 m 43 ls []) := by
  obtain ⟨⟨hx, hb, hml, hown, hts⟩, hK, hQ⟩ := id X
  intro n
  induction n with
  | zero =>
    intro x3 x4 M H locs ls hT
    exact hT.elim
  | succ n ih =>
    intro x3 x4 M H locs ls hT h hl
    rw [T_X8_shareOut_43] at hT
    refine lv_iload hx hb dX8_shareOut_43 (lv_at hl 3 rfl) ?_
    refine lv_if_lt (tgt := 94) hx hb dX8_shareOut_45 (by decide) (fun hc21 => ?_) (fun hc21 => ?_)
    · have hT := hT.1 hc21
      refine lv_iconst (v := 0) hx hb dX8_shareOut_94 (by decide) ?_
      refine lv_istore (lv' := [(4, .int (0 : Int32)), (0, .ref (G.2.2.2 + 151)), (1, .ref (G.2.2.2 + o1)), (3, .int x3)]) hx hb dX8_shareOut_95 hl (by decide) rfl (fun ls hl => ?_)
      refine lv_iconst (v := 0) hx hb dX8_shareOut_97 (by decide) ?_
      refine lv_istore (lv' := [(5, .int (0 : Int32)), (4, .int (0 : Int32)), (0, .ref (G.2.2.2 + 151)), (1, .ref (G.2.2.2 + o1)), (3, .int x3)]) hx hb dX8_shareOut_98 hl (by decide) rfl (fun ls hl => ?_)
      exact w_X8_shareOut_100 ho1 X hr hk 5000 x3 (0 : Int32) (0 : Int32) M _ _ ls hT h (lv_sub hl [2, 3, 4, 1, 0] rfl)
    · have hT := hT.2 hc21
      refine lv_iconst (v := 0) hx hb dX8_shareOut_48 (by decide) ?_
      refine lv_istore (lv' := [(5, .int (0 : Int32)), (0, .ref (G.2.2.2 + 151)), (1, .ref (G.2.2.2 + o1)), (3, .int x3), (4, .int x4)]) hx hb dX8_shareOut_49 hl (by decide) rfl (fun ls hl => ?_)
      exact w_X8_shareOut_51 ho1 X hr hk (B43 := (fun x3 x4 M => T_X8_shareOut_43 o1 n x3 x4 M K)) ih 5000 x3 x4 (0 : Int32) M _ _ ls hT h (lv_sub hl [1, 2, 3, 4, 0] rfl)
def T_X8_shareOut_10 (o1 : Nat) : Nat → Int32 → Int32 → Mm → (Int32 → Mm → Prop) → Prop
  | 0, _, _, _, _ => False
  | n + 1, x3, x4, M, K => (((128 : Int32) ≤ x4 → (∀ y23 : Int32, y23 = (x3 - (1 : Int32)) → (T_X8_shareOut_43 o1 5000 x3 y23 M K))) ∧ (¬ (128 : Int32) ≤ x4 → (vp_in ((x3 * (128 : Int32)) + x4) 1152 ∧ (∀ M24 : Mm, M24 = m_up M 156 (((x3 * (128 : Int32)) + x4)).toNatClampNeg (0 : Int32) → (∀ y26 : Int32, y26 = x4 + (1 : Int32) → (T_X8_shareOut_10 o1 n x3 y26 M24 K))))))
set_option maxHeartbeats 4000000 in
set_option maxRecDepth 100000 in
theorem w_X8_shareOut_10 {p : Program} {l : Launch} {e : Env} {s : State} {m : MethodId} {args : Array Value} {below : List Frame} {meth : Method} {c : Code} {G : fx_G} {K : Int32 → Mm → Prop} {o1 : Nat} (ho1 : o1 ∈ id_Plans) (X : fx_C G p s m c args cX8_shareOut 6 RX8) (hr : meth.sig.returnType = (some .int)) (hk : meth.locks = false) : ∀ (n : Nat) (x3 : Int32) (x4 : Int32) (M : Mm) (H : Heap) (locs : List Loc) (ls : Array Slot), T_X8_shareOut_10 o1 n x3 x4 M K → fx_H G SH M s H locs → lv_has ls 6 [(0, .ref (G.2.2.2 + 151)), (1, .ref (G.2.2.2 + o1)), (3, .int x3), (4, .int x4)] → W p l e (fx_rm (3)) s m args below meth c H locs 0 0 (MQ below (va_Qi K (fx_R G SH) (fx_A G)) args s 0 0 (fx_A G)) (F0 m 10 ls []) := by
  obtain ⟨⟨hx, hb, hml, hown, hts⟩, hK, hQ⟩ := id X
  intro n
  induction n with
  | zero =>
    intro x3 x4 M H locs ls hT
    exact hT.elim
  | succ n ih =>
    intro x3 x4 M H locs ls hT h hl
    rw [T_X8_shareOut_10] at hT
    refine lv_iload hx hb dX8_shareOut_10 (lv_at hl 3 rfl) ?_
    refine lv_sipush (v := 128) hx hb dX8_shareOut_12 (by decide) ?_
    refine lv_icmp_ge (tgt := 38) hx hb dX8_shareOut_15 (by decide) (fun hc22 => ?_) (fun hc22 => ?_)
    · have hT := hT.1 hc22
      refine lv_iload_n hx hb dX8_shareOut_38 rfl (lv_at hl 2 rfl) ?_
      refine lv_iconst (v := 1) hx hb dX8_shareOut_39 (by decide) ?_
      refine lv_isub hx hb dX8_shareOut_40 ?_
      refine lv_topi (fun y23 ey23 => ?_)
      have hT := hT y23 ey23
      refine lv_istore (lv' := [(4, .int y23), (0, .ref (G.2.2.2 + 151)), (1, .ref (G.2.2.2 + o1)), (3, .int x3)]) hx hb dX8_shareOut_41 hl (by decide) rfl (fun ls hl => ?_)
      exact w_X8_shareOut_43 ho1 X hr hk 5000 x3 y23 M _ _ ls hT h (lv_sub hl [1, 2, 3, 0] rfl)
    · have hT := hT.2 hc22
      refine lv_aload_n hx hb dX8_shareOut_18 rfl (lv_at hl 0 rfl) ?_
      refine fx_getR X h (k := 151) (j := 4) (r := 156) sh_151 rfl fl_RX8_24 dX8_shareOut_19 ?_
      refine lv_iload_n hx hb dX8_shareOut_22 rfl (lv_at hl 2 rfl) ?_
      refine lv_sipush (v := 128) hx hb dX8_shareOut_23 (by decide) ?_
      refine lv_imul hx hb dX8_shareOut_26 ?_
      refine lv_iload hx hb dX8_shareOut_27 (lv_at hl 3 rfl) ?_
      refine lv_iadd hx hb dX8_shareOut_29 ?_
      refine lv_iconst (v := 0) hx hb dX8_shareOut_30 (by decide) ?_
      obtain ⟨hi25, hT⟩ := hT
      refine fx_iast X h (k := 156) sh_156 hi25 dX8_shareOut_31 (fun H locs h => ?_)
      obtain ⟨M24, eM24⟩ : ∃ z : Mm, z = m_up M 156 (((x3 * (128 : Int32)) + x4)).toNatClampNeg (0 : Int32) := ⟨_, rfl⟩
      have hT := hT M24 eM24
      rw [← eM24] at h
      obtain ⟨y26, ey26⟩ : ∃ z : Int32, z = x4 + (1 : Int32) := ⟨_, rfl⟩
      have hT := hT y26 ey26
      refine lv_iinc (v := y26) (lv' := [(4, .int y26), (0, .ref (G.2.2.2 + 151)), (1, .ref (G.2.2.2 + o1)), (3, .int x3)]) hx hb dX8_shareOut_32 hl (k := 3) rfl (by rw [ey26]; rfl) (by decide) rfl (fun ls hl => ?_)
      refine lv_goto (tgt := 10) hx hb dX8_shareOut_35 (by decide) ?_
      exact ih x3 y26 M24 _ _ ls hT h (lv_sub hl [1, 2, 3, 0] rfl)
def T_X8_shareOut (o1 : Nat) (x2 : Int32) (M : Mm) (K : Int32 → Mm → Prop) : Prop := (∀ y27 : Int32, y27 = (if (8 : Int32) < x2 then (8 : Int32) else x2) → (T_X8_shareOut_10 o1 5000 y27 (0 : Int32) M K))
set_option maxHeartbeats 4000000 in
set_option maxRecDepth 100000 in
theorem c_X8_shareOut (l : Launch) (G : fx_G) {o1 : Nat} (ho1 : o1 ∈ id_Plans) {x2 : Int32} {M : Mm} {K : Int32 → Mm → Prop} (hT : T_X8_shareOut o1 x2 M K) : Met l yX8_shareOut (fx_ws yX8_shareOut cX8_shareOut 6 (some .int)) (fx_rm (3)) (va_Pc [.ref (G.2.2.2 + 151), .ref (G.2.2.2 + o1), .int x2] (fx_P G SH M)) (va_Qi K (fx_R G SH) (fx_A G)) 0 0 (fx_A G) := by
  refine fx_met (own := RX8) (by decide +kernel) rfl (Nat.le_of_ble_eq_true rfl) (fun p e s m below meth c X hr hk h ls hl => ?_)
  obtain ⟨⟨hx, hb, hml, hown, hts⟩, hK, hQ⟩ := id X
  have hl : lv_has ls 6 [(0, .ref (G.2.2.2 + 151)), (1, .ref (G.2.2.2 + o1)), (2, .int x2)] := hl
  unfold T_X8_shareOut at hT
  refine lv_iload_n hx hb dX8_shareOut_0 rfl (lv_at hl 2 rfl) ?_
  refine lv_bipush (v := 8) hx hb dX8_shareOut_1 (by decide) ?_
  refine va_mmin hx hb (hml.trans hl.1.symm) hown (hts _ (fx_s5 (List.mem_of_getElem? (i := 103) rfl) rfl)) (hts _ mt_min_s) (hts _ mt_i) (hts _ mt_min_c) (Nat.le_of_ble_eq_true rfl) (Nat.le_of_ble_eq_true rfl) (Nat.le_refl _) (Nat.le_refl _) dX8_shareOut_3 ?_
  refine lv_topi (fun y27 ey27 => ?_)
  have hT := hT y27 ey27
  refine lv_istore_n (lv' := [(3, .int y27), (0, .ref (G.2.2.2 + 151)), (1, .ref (G.2.2.2 + o1)), (2, .int x2)]) hx hb dX8_shareOut_6 rfl hl (by decide) rfl (fun ls hl => ?_)
  refine lv_iconst (v := 0) hx hb dX8_shareOut_7 (by decide) ?_
  refine lv_istore (lv' := [(4, .int (0 : Int32)), (3, .int y27), (0, .ref (G.2.2.2 + 151)), (1, .ref (G.2.2.2 + o1)), (2, .int x2)]) hx hb dX8_shareOut_8 hl (by decide) rfl (fun ls hl => ?_)
  exact w_X8_shareOut_10 ho1 X hr hk 5000 y27 (0 : Int32) M _ _ ls hT h (lv_sub hl [2, 3, 1, 0] rfl)
/-! MockParcels$Sums.isInTime(LMockParcels$Told;II)Z -/
theorem dX8_isInTime_0 : decode cX8_isInTime 0 = .ok (.iconst 0, 1) := by decide +kernel
theorem dX8_isInTime_1 : decode cX8_isInTime 1 = .ok (.istore 4, 2) := by decide +kernel
theorem dX8_isInTime_3 : decode cX8_isInTime 3 = .ok (.iload 4, 2) := by decide +kernel
theorem dX8_isInTime_5 : decode cX8_isInTime 5 = .ok (.bipush 9, 2) := by decide +kernel
theorem dX8_isInTime_7 : decode cX8_isInTime 7 = .ok (.if_icmp .gt 63, 3) := by decide +kernel
theorem dX8_isInTime_10 : decode cX8_isInTime 10 = .ok (.iconst 0, 1) := by decide +kernel
theorem dX8_isInTime_11 : decode cX8_isInTime 11 = .ok (.istore 5, 2) := by decide +kernel
theorem dX8_isInTime_13 : decode cX8_isInTime 13 = .ok (.iconst 0, 1) := by decide +kernel
theorem dX8_isInTime_14 : decode cX8_isInTime 14 = .ok (.istore 6, 2) := by decide +kernel
theorem dX8_isInTime_16 : decode cX8_isInTime 16 = .ok (.iload 6, 2) := by decide +kernel
theorem dX8_isInTime_18 : decode cX8_isInTime 18 = .ok (.iload_n 2, 1) := by decide +kernel
theorem dX8_isInTime_19 : decode cX8_isInTime 19 = .ok (.if_icmp .ge 34, 3) := by decide +kernel
theorem dX8_isInTime_22 : decode cX8_isInTime 22 = .ok (.iload_n 3, 1) := by decide +kernel
theorem dX8_isInTime_23 : decode cX8_isInTime 23 = .ok (.iload 6, 2) := by decide +kernel
theorem dX8_isInTime_25 : decode cX8_isInTime 25 = .ok (.ishr, 1) := by decide +kernel
theorem dX8_isInTime_26 : decode cX8_isInTime 26 = .ok (.iconst 1, 1) := by decide +kernel
theorem dX8_isInTime_27 : decode cX8_isInTime 27 = .ok (.iand, 1) := by decide +kernel
theorem dX8_isInTime_28 : decode cX8_isInTime 28 = .ok (.iconst 1, 1) := by decide +kernel
theorem dX8_isInTime_29 : decode cX8_isInTime 29 = .ok (.if_icmp .ne 18, 3) := by decide +kernel
theorem dX8_isInTime_32 : decode cX8_isInTime 32 = .ok (.aload_n 1, 1) := by decide +kernel
theorem dX8_isInTime_33 : decode cX8_isInTime 33 = .ok (.getfield 111, 3) := by decide +kernel
theorem dX8_isInTime_36 : decode cX8_isInTime 36 = .ok (.iload 6, 2) := by decide +kernel
theorem dX8_isInTime_38 : decode cX8_isInTime 38 = .ok (.iaload, 1) := by decide +kernel
theorem dX8_isInTime_39 : decode cX8_isInTime 39 = .ok (.iload 4, 2) := by decide +kernel
theorem dX8_isInTime_41 : decode cX8_isInTime 41 = .ok (.if_icmp .gt 6, 3) := by decide +kernel
theorem dX8_isInTime_44 : decode cX8_isInTime 44 = .ok (.iinc 5 1, 3) := by decide +kernel
theorem dX8_isInTime_47 : decode cX8_isInTime 47 = .ok (.iinc 6 1, 3) := by decide +kernel
theorem dX8_isInTime_50 : decode cX8_isInTime 50 = .ok (.goto (-34), 3) := by decide +kernel
theorem dX8_isInTime_53 : decode cX8_isInTime 53 = .ok (.iload 5, 2) := by decide +kernel
theorem dX8_isInTime_55 : decode cX8_isInTime 55 = .ok (.iload 4, 2) := by decide +kernel
theorem dX8_isInTime_57 : decode cX8_isInTime 57 = .ok (.iconst 1, 1) := by decide +kernel
theorem dX8_isInTime_58 : decode cX8_isInTime 58 = .ok (.iadd, 1) := by decide +kernel
theorem dX8_isInTime_59 : decode cX8_isInTime 59 = .ok (.if_icmp .le 5, 3) := by decide +kernel
theorem dX8_isInTime_62 : decode cX8_isInTime 62 = .ok (.iconst 0, 1) := by decide +kernel
theorem dX8_isInTime_63 : decode cX8_isInTime 63 = .ok (.ireturn, 1) := by decide +kernel
theorem dX8_isInTime_64 : decode cX8_isInTime 64 = .ok (.iinc 4 1, 3) := by decide +kernel
theorem dX8_isInTime_67 : decode cX8_isInTime 67 = .ok (.goto (-64), 3) := by decide +kernel
theorem dX8_isInTime_70 : decode cX8_isInTime 70 = .ok (.iconst 1, 1) := by decide +kernel
theorem dX8_isInTime_71 : decode cX8_isInTime 71 = .ok (.ireturn, 1) := by decide +kernel
def T_X8_isInTime_47 (B3 : Int32 → Int32 → Int32 → Mm → Prop) (B16 : Int32 → Int32 → Int32 → Int32 → Int32 → Mm → Prop) (o1 : Nat) (x2 : Int32) (x3 : Int32) (x4 : Int32) (x5 : Int32) (x6 : Int32) (M : Mm) (K : Int32 → Mm → Prop) : Prop := (∀ y1 : Int32, y1 = x6 + (1 : Int32) → (B16 x2 x3 x4 x5 y1 M))
set_option maxHeartbeats 4000000 in
set_option maxRecDepth 100000 in
theorem w_X8_isInTime_47 {p : Program} {l : Launch} {e : Env} {s : State} {m : MethodId} {args : Array Value} {below : List Frame} {meth : Method} {c : Code} {G : fx_G} {K : Int32 → Mm → Prop} {B3 : Int32 → Int32 → Int32 → Mm → Prop} {B16 : Int32 → Int32 → Int32 → Int32 → Int32 → Mm → Prop} {o1 : Nat} (ho1 : o1 ∈ id_Told) (X : fx_C G p s m c args cX8_isInTime 7 RX8) (hr : meth.sig.returnType = (some .boolean)) (hk : meth.locks = false) (hB3 : ∀ (x2 : Int32) (x3 : Int32) (x4 : Int32) (M : Mm) (H : Heap) (locs : List Loc) (ls : Array Slot), B3 x2 x3 x4 M → fx_H G SH M s H locs → lv_has ls 7 [(1, .ref (G.2.2.2 + o1)), (2, .int x2), (3, .int x3), (4, .int x4)] → W p l e (fx_rm (0)) s m args below meth c H locs 0 0 (MQ below (va_Qi K (fx_R G SH) (fx_A G)) args s 0 0 (fx_A G)) (F0 m 3 ls [])) (hB16 : ∀ (x2 : Int32) (x3 : Int32) (x4 : Int32) (x5 : Int32) (x6 : Int32) (M : Mm) (H : Heap) (locs : List Loc) (ls : Array Slot), B16 x2 x3 x4 x5 x6 M → fx_H G SH M s H locs → lv_has ls 7 [(1, .ref (G.2.2.2 + o1)), (2, .int x2), (3, .int x3), (4, .int x4), (5, .int x5), (6, .int x6)] → W p l e (fx_rm (0)) s m args below meth c H locs 0 0 (MQ below (va_Qi K (fx_R G SH) (fx_A G)) args s 0 0 (fx_A G)) (F0 m 16 ls [])) : ∀ (x2 : Int32) (x3 : Int32) (x4 : Int32) (x5 : Int32) (x6 : Int32) (M : Mm) (H : Heap) (locs : List Loc) (ls : Array Slot), T_X8_isInTime_47 B3 B16 o1 x2 x3 x4 x5 x6 M K → fx_H G SH M s H locs → lv_has ls 7 [(1, .ref (G.2.2.2 + o1)), (2, .int x2), (3, .int x3), (4, .int x4), (5, .int x5), (6, .int x6)] → W p l e (fx_rm (0)) s m args below meth c H locs 0 0 (MQ below (va_Qi K (fx_R G SH) (fx_A G)) args s 0 0 (fx_A G)) (F0 m 47 ls []) := by
  obtain ⟨⟨hx, hb, hml, hown, hts⟩, hK, hQ⟩ := id X
  intro x2 x3 x4 x5 x6 M H locs ls hT h hl
  unfold T_X8_isInTime_47 at hT
  obtain ⟨y1, ey1⟩ : ∃ z : Int32, z = x6 + (1 : Int32) := ⟨_, rfl⟩
  have hT := hT y1 ey1
  refine lv_iinc (v := y1) (lv' := [(6, .int y1), (1, .ref (G.2.2.2 + o1)), (2, .int x2), (3, .int x3), (4, .int x4), (5, .int x5)]) hx hb dX8_isInTime_47 hl (k := 5) rfl (by rw [ey1]; rfl) (by decide) rfl (fun ls hl => ?_)
  refine lv_goto (tgt := 16) hx hb dX8_isInTime_50 (by decide) ?_
  exact hB16 x2 x3 x4 x5 y1 M _ _ ls hT h (lv_sub hl [1, 2, 3, 4, 5, 0] rfl)
def T_X8_isInTime_16 (B3 : Int32 → Int32 → Int32 → Mm → Prop) (o1 : Nat) : Nat → Int32 → Int32 → Int32 → Int32 → Int32 → Mm → (Int32 → Mm → Prop) → Prop
  | 0, _, _, _, _, _, _, _ => False
  | n + 1, x2, x3, x4, x5, x6, M, K => ((x2 ≤ x6 → ((x5 ≤ (x4 + (1 : Int32)) → (∀ y4 : Int32, y4 = x4 + (1 : Int32) → (B3 x2 x3 y4 M))) ∧ (¬ x5 ≤ (x4 + (1 : Int32)) → (K (0 : Int32) M)))) ∧ (¬ x2 ≤ x6 → ((((x3 >>> (x6 &&& 31)) &&& (1 : Int32)) = (1 : Int32) → (vp_in x6 7 ∧ ((x4 < (M (rf o1 5) (x6).toNatClampNeg) → (T_X8_isInTime_47 B3 (fun x2 x3 x4 x5 x6 M => T_X8_isInTime_16 B3 o1 n x2 x3 x4 x5 x6 M K) o1 x2 x3 x4 x5 x6 M K)) ∧ (¬ x4 < (M (rf o1 5) (x6).toNatClampNeg) → (∀ y8 : Int32, y8 = x5 + (1 : Int32) → (T_X8_isInTime_47 B3 (fun x2 x3 x4 x5 x6 M => T_X8_isInTime_16 B3 o1 n x2 x3 x4 x5 x6 M K) o1 x2 x3 x4 y8 x6 M K)))))) ∧ (¬ ((x3 >>> (x6 &&& 31)) &&& (1 : Int32)) = (1 : Int32) → (T_X8_isInTime_47 B3 (fun x2 x3 x4 x5 x6 M => T_X8_isInTime_16 B3 o1 n x2 x3 x4 x5 x6 M K) o1 x2 x3 x4 x5 x6 M K)))))
set_option maxHeartbeats 4000000 in
set_option maxRecDepth 100000 in
theorem w_X8_isInTime_16 {p : Program} {l : Launch} {e : Env} {s : State} {m : MethodId} {args : Array Value} {below : List Frame} {meth : Method} {c : Code} {G : fx_G} {K : Int32 → Mm → Prop} {B3 : Int32 → Int32 → Int32 → Mm → Prop} {o1 : Nat} (ho1 : o1 ∈ id_Told) (X : fx_C G p s m c args cX8_isInTime 7 RX8) (hr : meth.sig.returnType = (some .boolean)) (hk : meth.locks = false) (hB3 : ∀ (x2 : Int32) (x3 : Int32) (x4 : Int32) (M : Mm) (H : Heap) (locs : List Loc) (ls : Array Slot), B3 x2 x3 x4 M → fx_H G SH M s H locs → lv_has ls 7 [(1, .ref (G.2.2.2 + o1)), (2, .int x2), (3, .int x3), (4, .int x4)] → W p l e (fx_rm (0)) s m args below meth c H locs 0 0 (MQ below (va_Qi K (fx_R G SH) (fx_A G)) args s 0 0 (fx_A G)) (F0 m 3 ls [])) : ∀ (n : Nat) (x2 : Int32) (x3 : Int32) (x4 : Int32) (x5 : Int32) (x6 : Int32) (M : Mm) (H : Heap) (locs : List Loc) (ls : Array Slot), T_X8_isInTime_16 B3 o1 n x2 x3 x4 x5 x6 M K → fx_H G SH M s H locs → lv_has ls 7 [(1, .ref (G.2.2.2 + o1)), (2, .int x2), (3, .int x3), (4, .int x4), (5, .int x5), (6, .int x6)] → W p l e (fx_rm (0)) s m args below meth c H locs 0 0 (MQ below (va_Qi K (fx_R G SH) (fx_A G)) args s 0 0 (fx_A G)) (F0 m 16 ls []) := by
  obtain ⟨⟨hx, hb, hml, hown, hts⟩, hK, hQ⟩ := id X
  intro n
  induction n with
  | zero =>
    intro x2 x3 x4 x5 x6 M H locs ls hT
    exact hT.elim
  | succ n ih =>
    intro x2 x3 x4 x5 x6 M H locs ls hT h hl
    rw [T_X8_isInTime_16] at hT
    refine lv_iload hx hb dX8_isInTime_16 (lv_at hl 5 rfl) ?_
    refine lv_iload_n hx hb dX8_isInTime_18 rfl (lv_at hl 1 rfl) ?_
    refine lv_icmp_ge (tgt := 53) hx hb dX8_isInTime_19 (by decide) (fun hc2 => ?_) (fun hc2 => ?_)
    · have hT := hT.1 hc2
      refine lv_iload hx hb dX8_isInTime_53 (lv_at hl 4 rfl) ?_
      refine lv_iload hx hb dX8_isInTime_55 (lv_at hl 3 rfl) ?_
      refine lv_iconst (v := 1) hx hb dX8_isInTime_57 (by decide) ?_
      refine lv_iadd hx hb dX8_isInTime_58 ?_
      refine lv_icmp_le (tgt := 64) hx hb dX8_isInTime_59 (by decide) (fun hc3 => ?_) (fun hc3 => ?_)
      · have hT := hT.1 hc3
        obtain ⟨y4, ey4⟩ : ∃ z : Int32, z = x4 + (1 : Int32) := ⟨_, rfl⟩
        have hT := hT y4 ey4
        refine lv_iinc (v := y4) (lv' := [(4, .int y4), (1, .ref (G.2.2.2 + o1)), (2, .int x2), (3, .int x3), (5, .int x5), (6, .int x6)]) hx hb dX8_isInTime_64 hl (k := 3) rfl (by rw [ey4]; rfl) (by decide) rfl (fun ls hl => ?_)
        refine lv_goto (tgt := 3) hx hb dX8_isInTime_67 (by decide) ?_
        exact hB3 x2 x3 y4 M _ _ ls hT h (lv_sub hl [1, 2, 3, 0] rfl)
      · have hT := hT.2 hc3
        refine lv_iconst (v := 0) hx hb dX8_isInTime_62 (by decide) ?_
        exact fx_zret X hr hk h (Or.inl rfl) hT dX8_isInTime_63
    · have hT := hT.2 hc2
      refine lv_iload_n hx hb dX8_isInTime_22 rfl (lv_at hl 2 rfl) ?_
      refine lv_iload hx hb dX8_isInTime_23 (lv_at hl 5 rfl) ?_
      refine lv_ishr hx hb dX8_isInTime_25 ?_
      refine lv_iconst (v := 1) hx hb dX8_isInTime_26 (by decide) ?_
      refine lv_iand hx hb dX8_isInTime_27 ?_
      refine lv_iconst (v := 1) hx hb dX8_isInTime_28 (by decide) ?_
      refine lv_icmp_ne (tgt := 47) hx hb dX8_isInTime_29 (by decide) (fun hc5 => ?_) (fun hc5 => ?_)
      · have hT := hT.2 hc5
        exact w_X8_isInTime_47 ho1 X hr hk (B3 := B3) hB3 (B16 := (fun x2 x3 x4 x5 x6 M => T_X8_isInTime_16 B3 o1 n x2 x3 x4 x5 x6 M K)) ih x2 x3 x4 x5 x6 M _ _ ls hT h (lv_sub hl [0, 1, 2, 3, 4, 5] rfl)
      · have hT := hT.1 hc5
        refine lv_aload_n hx hb dX8_isInTime_32 rfl (lv_at hl 0 rfl) ?_
        refine fx_getR X h (k := o1) (j := 5) (r := (rf o1 5)) (sc_Told o1 ho1) rfl fl_RX8_111 dX8_isInTime_33 ?_
        refine lv_iload hx hb dX8_isInTime_36 (lv_at hl 5 rfl) ?_
        obtain ⟨hi6, hT⟩ := hT
        refine fx_iald X h (k := (rf o1 5)) (sa_Told_5 o1 ho1) hi6 dX8_isInTime_38 ?_
        refine lv_iload hx hb dX8_isInTime_39 (lv_at hl 3 rfl) ?_
        refine lv_icmp_gt (tgt := 47) hx hb dX8_isInTime_41 (by decide) (fun hc7 => ?_) (fun hc7 => ?_)
        · have hT := hT.1 hc7
          exact w_X8_isInTime_47 ho1 X hr hk (B3 := B3) hB3 (B16 := (fun x2 x3 x4 x5 x6 M => T_X8_isInTime_16 B3 o1 n x2 x3 x4 x5 x6 M K)) ih x2 x3 x4 x5 x6 M _ _ ls hT h (lv_sub hl [0, 1, 2, 3, 4, 5] rfl)
        · have hT := hT.2 hc7
          obtain ⟨y8, ey8⟩ : ∃ z : Int32, z = x5 + (1 : Int32) := ⟨_, rfl⟩
          have hT := hT y8 ey8
          refine lv_iinc (v := y8) (lv' := [(5, .int y8), (1, .ref (G.2.2.2 + o1)), (2, .int x2), (3, .int x3), (4, .int x4), (6, .int x6)]) hx hb dX8_isInTime_44 hl (k := 4) rfl (by rw [ey8]; rfl) (by decide) rfl (fun ls hl => ?_)
          exact w_X8_isInTime_47 ho1 X hr hk (B3 := B3) hB3 (B16 := (fun x2 x3 x4 x5 x6 M => T_X8_isInTime_16 B3 o1 n x2 x3 x4 x5 x6 M K)) ih x2 x3 x4 y8 x6 M _ _ ls hT h (lv_sub hl [1, 2, 3, 4, 0, 5] rfl)
def T_X8_isInTime_3 (o1 : Nat) : Nat → Int32 → Int32 → Int32 → Mm → (Int32 → Mm → Prop) → Prop
  | 0, _, _, _, _, _ => False
  | n + 1, x2, x3, x4, M, K => (((9 : Int32) < x4 → (K (1 : Int32) M)) ∧ (¬ (9 : Int32) < x4 → (T_X8_isInTime_16 (fun x2 x3 x4 M => T_X8_isInTime_3 o1 n x2 x3 x4 M K) o1 5000 x2 x3 x4 (0 : Int32) (0 : Int32) M K)))
set_option maxHeartbeats 4000000 in
set_option maxRecDepth 100000 in
theorem w_X8_isInTime_3 {p : Program} {l : Launch} {e : Env} {s : State} {m : MethodId} {args : Array Value} {below : List Frame} {meth : Method} {c : Code} {G : fx_G} {K : Int32 → Mm → Prop} {o1 : Nat} (ho1 : o1 ∈ id_Told) (X : fx_C G p s m c args cX8_isInTime 7 RX8) (hr : meth.sig.returnType = (some .boolean)) (hk : meth.locks = false) : ∀ (n : Nat) (x2 : Int32) (x3 : Int32) (x4 : Int32) (M : Mm) (H : Heap) (locs : List Loc) (ls : Array Slot), T_X8_isInTime_3 o1 n x2 x3 x4 M K → fx_H G SH M s H locs → lv_has ls 7 [(1, .ref (G.2.2.2 + o1)), (2, .int x2), (3, .int x3), (4, .int x4)] → W p l e (fx_rm (0)) s m args below meth c H locs 0 0 (MQ below (va_Qi K (fx_R G SH) (fx_A G)) args s 0 0 (fx_A G)) (F0 m 3 ls []) := by
  obtain ⟨⟨hx, hb, hml, hown, hts⟩, hK, hQ⟩ := id X
  intro n
  induction n with
  | zero =>
    intro x2 x3 x4 M H locs ls hT
    exact hT.elim
  | succ n ih =>
    intro x2 x3 x4 M H locs ls hT h hl
    rw [T_X8_isInTime_3] at hT
    refine lv_iload hx hb dX8_isInTime_3 (lv_at hl 3 rfl) ?_
    refine lv_bipush (v := 9) hx hb dX8_isInTime_5 (by decide) ?_
    refine lv_icmp_gt (tgt := 70) hx hb dX8_isInTime_7 (by decide) (fun hc9 => ?_) (fun hc9 => ?_)
    · have hT := hT.1 hc9
      refine lv_iconst (v := 1) hx hb dX8_isInTime_70 (by decide) ?_
      exact fx_zret X hr hk h (Or.inr rfl) hT dX8_isInTime_71
    · have hT := hT.2 hc9
      refine lv_iconst (v := 0) hx hb dX8_isInTime_10 (by decide) ?_
      refine lv_istore (lv' := [(5, .int (0 : Int32)), (1, .ref (G.2.2.2 + o1)), (2, .int x2), (3, .int x3), (4, .int x4)]) hx hb dX8_isInTime_11 hl (by decide) rfl (fun ls hl => ?_)
      refine lv_iconst (v := 0) hx hb dX8_isInTime_13 (by decide) ?_
      refine lv_istore (lv' := [(6, .int (0 : Int32)), (5, .int (0 : Int32)), (1, .ref (G.2.2.2 + o1)), (2, .int x2), (3, .int x3), (4, .int x4)]) hx hb dX8_isInTime_14 hl (by decide) rfl (fun ls hl => ?_)
      exact w_X8_isInTime_16 ho1 X hr hk (B3 := (fun x2 x3 x4 M => T_X8_isInTime_3 o1 n x2 x3 x4 M K)) ih 5000 x2 x3 x4 (0 : Int32) (0 : Int32) M _ _ ls hT h (lv_sub hl [2, 3, 4, 5, 1, 0] rfl)
def T_X8_isInTime (o1 : Nat) (x2 : Int32) (x3 : Int32) (M : Mm) (K : Int32 → Mm → Prop) : Prop := (T_X8_isInTime_3 o1 5000 x2 x3 (0 : Int32) M K)
set_option maxHeartbeats 4000000 in
set_option maxRecDepth 100000 in
theorem c_X8_isInTime (l : Launch) (G : fx_G) {o1 : Nat} (ho1 : o1 ∈ id_Told) {x2 : Int32} {x3 : Int32} {M : Mm} {K : Int32 → Mm → Prop} (hT : T_X8_isInTime o1 x2 x3 M K) : Met l yX8_isInTime (fx_ws yX8_isInTime cX8_isInTime 7 (some .boolean)) (fx_rm (0)) (va_Pc [.ref (G.2.2.2 + 151), .ref (G.2.2.2 + o1), .int x2, .int x3] (fx_P G SH M)) (va_Qi K (fx_R G SH) (fx_A G)) 0 0 (fx_A G) := by
  refine fx_met (own := RX8) (by decide +kernel) rfl (Nat.le_of_ble_eq_true rfl) (fun p e s m below meth c X hr hk h ls hl => ?_)
  obtain ⟨⟨hx, hb, hml, hown, hts⟩, hK, hQ⟩ := id X
  have hl : lv_has ls 7 [(0, .ref (G.2.2.2 + 151)), (1, .ref (G.2.2.2 + o1)), (2, .int x2), (3, .int x3)] := hl
  unfold T_X8_isInTime at hT
  refine lv_iconst (v := 0) hx hb dX8_isInTime_0 (by decide) ?_
  refine lv_istore (lv' := [(4, .int (0 : Int32)), (0, .ref (G.2.2.2 + 151)), (1, .ref (G.2.2.2 + o1)), (2, .int x2), (3, .int x3)]) hx hb dX8_isInTime_1 hl (by decide) rfl (fun ls hl => ?_)
  exact w_X8_isInTime_3 ho1 X hr hk 5000 x2 x3 (0 : Int32) M _ _ ls hT h (lv_sub hl [2, 3, 4, 0] rfl)
/-! MockParcels$Sums.bestPut(LMockParcels$Told;)I -/
theorem dX8_bestPut_0 : decode cX8_bestPut 0 = .ok (.aload_n 1, 1) := by decide +kernel
theorem dX8_bestPut_1 : decode cX8_bestPut 1 = .ok (.getfield 96, 3) := by decide +kernel
theorem dX8_bestPut_4 : decode cX8_bestPut 4 = .ok (.bipush 7, 2) := by decide +kernel
theorem dX8_bestPut_6 : decode cX8_bestPut 6 = .ok (.invokestatic 51, 3) := by decide +kernel
theorem dX8_bestPut_9 : decode cX8_bestPut 9 = .ok (.istore_n 2, 1) := by decide +kernel
theorem dX8_bestPut_10 : decode cX8_bestPut 10 = .ok (.iconst 0, 1) := by decide +kernel
theorem dX8_bestPut_11 : decode cX8_bestPut 11 = .ok (.istore_n 3, 1) := by decide +kernel
theorem dX8_bestPut_12 : decode cX8_bestPut 12 = .ok (.iconst 0, 1) := by decide +kernel
theorem dX8_bestPut_13 : decode cX8_bestPut 13 = .ok (.istore 4, 2) := by decide +kernel
theorem dX8_bestPut_15 : decode cX8_bestPut 15 = .ok (.iload 4, 2) := by decide +kernel
theorem dX8_bestPut_17 : decode cX8_bestPut 17 = .ok (.iconst 1, 1) := by decide +kernel
theorem dX8_bestPut_18 : decode cX8_bestPut 18 = .ok (.iload_n 2, 1) := by decide +kernel
theorem dX8_bestPut_19 : decode cX8_bestPut 19 = .ok (.ishl, 1) := by decide +kernel
theorem dX8_bestPut_20 : decode cX8_bestPut 20 = .ok (.if_icmp .ge 74, 3) := by decide +kernel
theorem dX8_bestPut_23 : decode cX8_bestPut 23 = .ok (.aload_n 0, 1) := by decide +kernel
theorem dX8_bestPut_24 : decode cX8_bestPut 24 = .ok (.aload_n 1, 1) := by decide +kernel
theorem dX8_bestPut_25 : decode cX8_bestPut 25 = .ok (.iload_n 2, 1) := by decide +kernel
theorem dX8_bestPut_26 : decode cX8_bestPut 26 = .ok (.iload 4, 2) := by decide +kernel
theorem dX8_bestPut_28 : decode cX8_bestPut 28 = .ok (.invokevirtual 99, 3) := by decide +kernel
theorem dX8_bestPut_31 : decode cX8_bestPut 31 = .ok (.ifCond .eq 57, 3) := by decide +kernel
theorem dX8_bestPut_34 : decode cX8_bestPut 34 = .ok (.iconst 0, 1) := by decide +kernel
theorem dX8_bestPut_35 : decode cX8_bestPut 35 = .ok (.istore 5, 2) := by decide +kernel
theorem dX8_bestPut_37 : decode cX8_bestPut 37 = .ok (.iconst 0, 1) := by decide +kernel
theorem dX8_bestPut_38 : decode cX8_bestPut 38 = .ok (.istore 6, 2) := by decide +kernel
theorem dX8_bestPut_40 : decode cX8_bestPut 40 = .ok (.iload 6, 2) := by decide +kernel
theorem dX8_bestPut_42 : decode cX8_bestPut 42 = .ok (.iload_n 2, 1) := by decide +kernel
theorem dX8_bestPut_43 : decode cX8_bestPut 43 = .ok (.if_icmp .ge 29, 3) := by decide +kernel
theorem dX8_bestPut_46 : decode cX8_bestPut 46 = .ok (.iload 5, 2) := by decide +kernel
theorem dX8_bestPut_48 : decode cX8_bestPut 48 = .ok (.iload 4, 2) := by decide +kernel
theorem dX8_bestPut_50 : decode cX8_bestPut 50 = .ok (.iload 6, 2) := by decide +kernel
theorem dX8_bestPut_52 : decode cX8_bestPut 52 = .ok (.ishr, 1) := by decide +kernel
theorem dX8_bestPut_53 : decode cX8_bestPut 53 = .ok (.iconst 1, 1) := by decide +kernel
theorem dX8_bestPut_54 : decode cX8_bestPut 54 = .ok (.iand, 1) := by decide +kernel
theorem dX8_bestPut_55 : decode cX8_bestPut 55 = .ok (.aload_n 1, 1) := by decide +kernel
theorem dX8_bestPut_56 : decode cX8_bestPut 56 = .ok (.getfield 103, 3) := by decide +kernel
theorem dX8_bestPut_59 : decode cX8_bestPut 59 = .ok (.iload 6, 2) := by decide +kernel
theorem dX8_bestPut_61 : decode cX8_bestPut 61 = .ok (.iaload, 1) := by decide +kernel
theorem dX8_bestPut_62 : decode cX8_bestPut 62 = .ok (.imul, 1) := by decide +kernel
theorem dX8_bestPut_63 : decode cX8_bestPut 63 = .ok (.iadd, 1) := by decide +kernel
theorem dX8_bestPut_64 : decode cX8_bestPut 64 = .ok (.istore 5, 2) := by decide +kernel
theorem dX8_bestPut_66 : decode cX8_bestPut 66 = .ok (.iinc 6 1, 3) := by decide +kernel
theorem dX8_bestPut_69 : decode cX8_bestPut 69 = .ok (.goto (-29), 3) := by decide +kernel
theorem dX8_bestPut_72 : decode cX8_bestPut 72 = .ok (.iload_n 3, 1) := by decide +kernel
theorem dX8_bestPut_73 : decode cX8_bestPut 73 = .ok (.iload 5, 2) := by decide +kernel
theorem dX8_bestPut_75 : decode cX8_bestPut 75 = .ok (.bipush 8, 2) := by decide +kernel
theorem dX8_bestPut_77 : decode cX8_bestPut 77 = .ok (.imul, 1) := by decide +kernel
theorem dX8_bestPut_78 : decode cX8_bestPut 78 = .ok (.iload 4, 2) := by decide +kernel
theorem dX8_bestPut_80 : decode cX8_bestPut 80 = .ok (.invokestatic 106, 3) := by decide +kernel
theorem dX8_bestPut_83 : decode cX8_bestPut 83 = .ok (.iadd, 1) := by decide +kernel
theorem dX8_bestPut_84 : decode cX8_bestPut 84 = .ok (.invokestatic 37, 3) := by decide +kernel
theorem dX8_bestPut_87 : decode cX8_bestPut 87 = .ok (.istore_n 3, 1) := by decide +kernel
theorem dX8_bestPut_88 : decode cX8_bestPut 88 = .ok (.iinc 4 1, 3) := by decide +kernel
theorem dX8_bestPut_91 : decode cX8_bestPut 91 = .ok (.goto (-76), 3) := by decide +kernel
theorem dX8_bestPut_94 : decode cX8_bestPut 94 = .ok (.iload_n 3, 1) := by decide +kernel
theorem dX8_bestPut_95 : decode cX8_bestPut 95 = .ok (.ireturn, 1) := by decide +kernel
def T_X8_bestPut_88 (B15 : Int32 → Int32 → Int32 → Mm → Prop) (o1 : Nat) (x2 : Int32) (x3 : Int32) (x4 : Int32) (M : Mm) (K : Int32 → Mm → Prop) : Prop := (∀ y1 : Int32, y1 = x4 + (1 : Int32) → (B15 x2 x3 y1 M))
set_option maxHeartbeats 4000000 in
set_option maxRecDepth 100000 in
theorem w_X8_bestPut_88 {p : Program} {l : Launch} {e : Env} {s : State} {m : MethodId} {args : Array Value} {below : List Frame} {meth : Method} {c : Code} {G : fx_G} {K : Int32 → Mm → Prop} {B15 : Int32 → Int32 → Int32 → Mm → Prop} {o1 : Nat} (ho1 : o1 ∈ id_Told) (X : fx_C G p s m c args cX8_bestPut 7 RX8) (hr : meth.sig.returnType = (some .int)) (hk : meth.locks = false) (hB15 : ∀ (x2 : Int32) (x3 : Int32) (x4 : Int32) (M : Mm) (H : Heap) (locs : List Loc) (ls : Array Slot), B15 x2 x3 x4 M → fx_H G SH M s H locs → lv_has ls 7 [(0, .ref (G.2.2.2 + 151)), (1, .ref (G.2.2.2 + o1)), (2, .int x2), (3, .int x3), (4, .int x4)] → W p l e (fx_rm (1)) s m args below meth c H locs 0 0 (MQ below (va_Qi K (fx_R G SH) (fx_A G)) args s 0 0 (fx_A G)) (F0 m 15 ls [])) : ∀ (x2 : Int32) (x3 : Int32) (x4 : Int32) (M : Mm) (H : Heap) (locs : List Loc) (ls : Array Slot), T_X8_bestPut_88 B15 o1 x2 x3 x4 M K → fx_H G SH M s H locs → lv_has ls 7 [(0, .ref (G.2.2.2 + 151)), (1, .ref (G.2.2.2 + o1)), (2, .int x2), (3, .int x3), (4, .int x4)] → W p l e (fx_rm (1)) s m args below meth c H locs 0 0 (MQ below (va_Qi K (fx_R G SH) (fx_A G)) args s 0 0 (fx_A G)) (F0 m 88 ls []) := by
  obtain ⟨⟨hx, hb, hml, hown, hts⟩, hK, hQ⟩ := id X
  intro x2 x3 x4 M H locs ls hT h hl
  unfold T_X8_bestPut_88 at hT
  obtain ⟨y1, ey1⟩ : ∃ z : Int32, z = x4 + (1 : Int32) := ⟨_, rfl⟩
  have hT := hT y1 ey1
  refine lv_iinc (v := y1) (lv' := [(4, .int y1), (0, .ref (G.2.2.2 + 151)), (1, .ref (G.2.2.2 + o1)), (2, .int x2), (3, .int x3)]) hx hb dX8_bestPut_88 hl (k := 4) rfl (by rw [ey1]; rfl) (by decide) rfl (fun ls hl => ?_)
  refine lv_goto (tgt := 15) hx hb dX8_bestPut_91 (by decide) ?_
  exact hB15 x2 x3 y1 M _ _ ls hT h (lv_sub hl [1, 2, 3, 4, 0] rfl)
def T_X8_bestPut_40 (B15 : Int32 → Int32 → Int32 → Mm → Prop) (o1 : Nat) : Nat → Int32 → Int32 → Int32 → Int32 → Int32 → Mm → (Int32 → Mm → Prop) → Prop
  | 0, _, _, _, _, _, _, _ => False
  | n + 1, x2, x3, x4, x5, x6, M, K => ((x2 ≤ x6 → (T_J6_bitCount_0f7a4 x4 M (fun r5 M4 => (∀ y6 : Int32, y6 = (if x3 < ((x5 * (8 : Int32)) + r5) then ((x5 * (8 : Int32)) + r5) else x3) → (T_X8_bestPut_88 B15 o1 x2 y6 x4 M4 K))))) ∧ (¬ x2 ≤ x6 → (vp_in x6 7 ∧ (∀ y8 : Int32, y8 = (x5 + (((x4 >>> (x6 &&& 31)) &&& (1 : Int32)) * (M (rf o1 4) (x6).toNatClampNeg))) → (∀ y9 : Int32, y9 = x6 + (1 : Int32) → (T_X8_bestPut_40 B15 o1 n x2 x3 x4 y8 y9 M K))))))
set_option maxHeartbeats 4000000 in
set_option maxRecDepth 100000 in
theorem w_X8_bestPut_40 {p : Program} {l : Launch} {e : Env} {s : State} {m : MethodId} {args : Array Value} {below : List Frame} {meth : Method} {c : Code} {G : fx_G} {K : Int32 → Mm → Prop} {B15 : Int32 → Int32 → Int32 → Mm → Prop} {o1 : Nat} (ho1 : o1 ∈ id_Told) (X : fx_C G p s m c args cX8_bestPut 7 RX8) (hr : meth.sig.returnType = (some .int)) (hk : meth.locks = false) (hB15 : ∀ (x2 : Int32) (x3 : Int32) (x4 : Int32) (M : Mm) (H : Heap) (locs : List Loc) (ls : Array Slot), B15 x2 x3 x4 M → fx_H G SH M s H locs → lv_has ls 7 [(0, .ref (G.2.2.2 + 151)), (1, .ref (G.2.2.2 + o1)), (2, .int x2), (3, .int x3), (4, .int x4)] → W p l e (fx_rm (1)) s m args below meth c H locs 0 0 (MQ below (va_Qi K (fx_R G SH) (fx_A G)) args s 0 0 (fx_A G)) (F0 m 15 ls [])) : ∀ (n : Nat) (x2 : Int32) (x3 : Int32) (x4 : Int32) (x5 : Int32) (x6 : Int32) (M : Mm) (H : Heap) (locs : List Loc) (ls : Array Slot), T_X8_bestPut_40 B15 o1 n x2 x3 x4 x5 x6 M K → fx_H G SH M s H locs → lv_has ls 7 [(0, .ref (G.2.2.2 + 151)), (1, .ref (G.2.2.2 + o1)), (2, .int x2), (3, .int x3), (4, .int x4), (5, .int x5), (6, .int x6)] → W p l e (fx_rm (1)) s m args below meth c H locs 0 0 (MQ below (va_Qi K (fx_R G SH) (fx_A G)) args s 0 0 (fx_A G)) (F0 m 40 ls []) := by
  obtain ⟨⟨hx, hb, hml, hown, hts⟩, hK, hQ⟩ := id X
  intro n
  induction n with
  | zero =>
    intro x2 x3 x4 x5 x6 M H locs ls hT
    exact hT.elim
  | succ n ih =>
    intro x2 x3 x4 x5 x6 M H locs ls hT h hl
    rw [T_X8_bestPut_40] at hT
    refine lv_iload hx hb dX8_bestPut_40 (lv_at hl 6 rfl) ?_
    refine lv_iload_n hx hb dX8_bestPut_42 rfl (lv_at hl 2 rfl) ?_
    refine lv_icmp_ge (tgt := 72) hx hb dX8_bestPut_43 (by decide) (fun hc2 => ?_) (fun hc2 => ?_)
    · have hT := hT.1 hc2
      refine lv_iload_n hx hb dX8_bestPut_72 rfl (lv_at hl 3 rfl) ?_
      refine lv_iload hx hb dX8_bestPut_73 (lv_at hl 5 rfl) ?_
      refine lv_bipush (v := 8) hx hb dX8_bestPut_75 (by decide) ?_
      refine lv_imul hx hb dX8_bestPut_77 ?_
      refine lv_iload hx hb dX8_bestPut_78 (lv_at hl 4 rfl) ?_
      refine fx_si X h ym_J6_bitCount_0f7a4 yt_J6_bitCount_0f7a4 (fx_s5 (List.mem_of_getElem? (i := 189) rfl) rfl) (c_J6_bitCount_0f7a4 l G hT) (As := [.int x4]) (rest := [.int (x5 * (8 : Int32)), .int x3]) rfl rfl ⟨Nat.le_of_ble_eq_true rfl, Nat.le_of_ble_eq_true rfl⟩ ⟨Nat.le_refl _, Nat.le_refl _⟩ hl.1 (Nat.le_of_ble_eq_true rfl) dX8_bestPut_80 (fun r5 M4 H locs hT h => ?_)
      refine lv_iadd hx hb dX8_bestPut_83 ?_
      refine va_mmax hx hb (hml.trans hl.1.symm) hown (hts _ (fx_s5 (List.mem_of_getElem? (i := 89) rfl) rfl)) (hts _ mt_max_s) (hts _ mt_i) (hts _ mt_max_c) (Nat.le_of_ble_eq_true rfl) (Nat.le_of_ble_eq_true rfl) (Nat.le_refl _) (Nat.le_refl _) dX8_bestPut_84 ?_
      refine lv_topi (fun y6 ey6 => ?_)
      have hT := hT y6 ey6
      refine lv_istore_n (lv' := [(3, .int y6), (0, .ref (G.2.2.2 + 151)), (1, .ref (G.2.2.2 + o1)), (2, .int x2), (4, .int x4), (5, .int x5), (6, .int x6)]) hx hb dX8_bestPut_87 rfl hl (by decide) rfl (fun ls hl => ?_)
      exact w_X8_bestPut_88 ho1 X hr hk (B15 := B15) hB15 x2 y6 x4 M4 _ _ ls hT h (lv_sub hl [1, 2, 3, 0, 4] rfl)
    · have hT := hT.2 hc2
      refine lv_iload hx hb dX8_bestPut_46 (lv_at hl 5 rfl) ?_
      refine lv_iload hx hb dX8_bestPut_48 (lv_at hl 4 rfl) ?_
      refine lv_iload hx hb dX8_bestPut_50 (lv_at hl 6 rfl) ?_
      refine lv_ishr hx hb dX8_bestPut_52 ?_
      refine lv_iconst (v := 1) hx hb dX8_bestPut_53 (by decide) ?_
      refine lv_iand hx hb dX8_bestPut_54 ?_
      refine lv_aload_n hx hb dX8_bestPut_55 rfl (lv_at hl 1 rfl) ?_
      refine fx_getR X h (k := o1) (j := 4) (r := (rf o1 4)) (sc_Told o1 ho1) rfl fl_RX8_103 dX8_bestPut_56 ?_
      refine lv_iload hx hb dX8_bestPut_59 (lv_at hl 6 rfl) ?_
      obtain ⟨hi7, hT⟩ := hT
      refine fx_iald X h (k := (rf o1 4)) (sa_Told_4 o1 ho1) hi7 dX8_bestPut_61 ?_
      refine lv_imul hx hb dX8_bestPut_62 ?_
      refine lv_iadd hx hb dX8_bestPut_63 ?_
      refine lv_topi (fun y8 ey8 => ?_)
      have hT := hT y8 ey8
      refine lv_istore (lv' := [(5, .int y8), (0, .ref (G.2.2.2 + 151)), (1, .ref (G.2.2.2 + o1)), (2, .int x2), (3, .int x3), (4, .int x4), (6, .int x6)]) hx hb dX8_bestPut_64 hl (by decide) rfl (fun ls hl => ?_)
      obtain ⟨y9, ey9⟩ : ∃ z : Int32, z = x6 + (1 : Int32) := ⟨_, rfl⟩
      have hT := hT y9 ey9
      refine lv_iinc (v := y9) (lv' := [(6, .int y9), (5, .int y8), (0, .ref (G.2.2.2 + 151)), (1, .ref (G.2.2.2 + o1)), (2, .int x2), (3, .int x3), (4, .int x4)]) hx hb dX8_bestPut_66 hl (k := 6) rfl (by rw [ey9]; rfl) (by decide) rfl (fun ls hl => ?_)
      refine lv_goto (tgt := 40) hx hb dX8_bestPut_69 (by decide) ?_
      exact ih x2 x3 x4 y8 y9 M _ _ ls hT h (lv_sub hl [2, 3, 4, 5, 6, 1, 0] rfl)
def T_X8_bestPut_15 (o1 : Nat) : Nat → Int32 → Int32 → Int32 → Mm → (Int32 → Mm → Prop) → Prop
  | 0, _, _, _, _, _ => False
  | n + 1, x2, x3, x4, M, K => ((((1 : Int32) <<< (x2 &&& 31)) ≤ x4 → (K x3 M)) ∧ (¬ ((1 : Int32) <<< (x2 &&& 31)) ≤ x4 → (T_X8_isInTime o1 x2 x4 M (fun r13 M12 => ((r13 = 0 → (T_X8_bestPut_88 (fun x2 x3 x4 M => T_X8_bestPut_15 o1 n x2 x3 x4 M K) o1 x2 x3 x4 M12 K)) ∧ (¬ r13 = 0 → (T_X8_bestPut_40 (fun x2 x3 x4 M => T_X8_bestPut_15 o1 n x2 x3 x4 M K) o1 5000 x2 x3 x4 (0 : Int32) (0 : Int32) M12 K)))))))
set_option maxHeartbeats 4000000 in
set_option maxRecDepth 100000 in
theorem w_X8_bestPut_15 {p : Program} {l : Launch} {e : Env} {s : State} {m : MethodId} {args : Array Value} {below : List Frame} {meth : Method} {c : Code} {G : fx_G} {K : Int32 → Mm → Prop} {o1 : Nat} (ho1 : o1 ∈ id_Told) (X : fx_C G p s m c args cX8_bestPut 7 RX8) (hr : meth.sig.returnType = (some .int)) (hk : meth.locks = false) : ∀ (n : Nat) (x2 : Int32) (x3 : Int32) (x4 : Int32) (M : Mm) (H : Heap) (locs : List Loc) (ls : Array Slot), T_X8_bestPut_15 o1 n x2 x3 x4 M K → fx_H G SH M s H locs → lv_has ls 7 [(0, .ref (G.2.2.2 + 151)), (1, .ref (G.2.2.2 + o1)), (2, .int x2), (3, .int x3), (4, .int x4)] → W p l e (fx_rm (1)) s m args below meth c H locs 0 0 (MQ below (va_Qi K (fx_R G SH) (fx_A G)) args s 0 0 (fx_A G)) (F0 m 15 ls []) := by
  obtain ⟨⟨hx, hb, hml, hown, hts⟩, hK, hQ⟩ := id X
  intro n
  induction n with
  | zero =>
    intro x2 x3 x4 M H locs ls hT
    exact hT.elim
  | succ n ih =>
    intro x2 x3 x4 M H locs ls hT h hl
    rw [T_X8_bestPut_15] at hT
    refine lv_iload hx hb dX8_bestPut_15 (lv_at hl 4 rfl) ?_
    refine lv_iconst (v := 1) hx hb dX8_bestPut_17 (by decide) ?_
    refine lv_iload_n hx hb dX8_bestPut_18 rfl (lv_at hl 2 rfl) ?_
    refine lv_ishl hx hb dX8_bestPut_19 ?_
    refine lv_icmp_ge (tgt := 94) hx hb dX8_bestPut_20 (by decide) (fun hc10 => ?_) (fun hc10 => ?_)
    · have hT := hT.1 hc10
      refine lv_iload_n hx hb dX8_bestPut_94 rfl (lv_at hl 3 rfl) ?_
      exact fx_iret X hr hk h hT dX8_bestPut_95
    · have hT := hT.2 hc10
      refine lv_aload_n hx hb dX8_bestPut_23 rfl (lv_at hl 0 rfl) ?_
      refine lv_aload_n hx hb dX8_bestPut_24 rfl (lv_at hl 1 rfl) ?_
      refine lv_iload_n hx hb dX8_bestPut_25 rfl (lv_at hl 2 rfl) ?_
      refine lv_iload hx hb dX8_bestPut_26 (lv_at hl 4 rfl) ?_
      refine fx_vi X h ym_X8_isInTime yi_X8_isInTime ys_X8_isInTime (fx_s5 (List.mem_of_getElem? (i := 185) rfl) rfl) sh_151 rfl (c_X8_isInTime l G ho1 hT) (As := [.ref (G.2.2.2 + o1), .int x2, .int x4]) (rest := []) rfl rfl ⟨Nat.le_of_ble_eq_true rfl, Nat.le_of_ble_eq_true rfl⟩ ⟨Nat.le_refl _, Nat.le_refl _⟩ hl.1 (Nat.le_of_ble_eq_true rfl) dX8_bestPut_28 (fun r13 M12 H locs hT h => ?_)
      refine lv_if_eq (tgt := 88) hx hb dX8_bestPut_31 (by decide) (fun hc14 => ?_) (fun hc14 => ?_)
      · have hT := hT.1 hc14
        exact w_X8_bestPut_88 ho1 X hr hk (B15 := (fun x2 x3 x4 M => T_X8_bestPut_15 o1 n x2 x3 x4 M K)) ih x2 x3 x4 M12 _ _ ls hT h (lv_sub hl [0, 1, 2, 3, 4] rfl)
      · have hT := hT.2 hc14
        refine lv_iconst (v := 0) hx hb dX8_bestPut_34 (by decide) ?_
        refine lv_istore (lv' := [(5, .int (0 : Int32)), (0, .ref (G.2.2.2 + 151)), (1, .ref (G.2.2.2 + o1)), (2, .int x2), (3, .int x3), (4, .int x4)]) hx hb dX8_bestPut_35 hl (by decide) rfl (fun ls hl => ?_)
        refine lv_iconst (v := 0) hx hb dX8_bestPut_37 (by decide) ?_
        refine lv_istore (lv' := [(6, .int (0 : Int32)), (5, .int (0 : Int32)), (0, .ref (G.2.2.2 + 151)), (1, .ref (G.2.2.2 + o1)), (2, .int x2), (3, .int x3), (4, .int x4)]) hx hb dX8_bestPut_38 hl (by decide) rfl (fun ls hl => ?_)
        exact w_X8_bestPut_40 ho1 X hr hk (B15 := (fun x2 x3 x4 M => T_X8_bestPut_15 o1 n x2 x3 x4 M K)) ih 5000 x2 x3 x4 (0 : Int32) (0 : Int32) M12 _ _ ls hT h (lv_sub hl [2, 3, 4, 5, 6, 1, 0] rfl)
def T_X8_bestPut (o1 : Nat) (M : Mm) (K : Int32 → Mm → Prop) : Prop := (∀ y15 : Int32, y15 = (if (7 : Int32) < (M o1 11) then (7 : Int32) else (M o1 11)) → (T_X8_bestPut_15 o1 5000 y15 (0 : Int32) (0 : Int32) M K))
set_option maxHeartbeats 4000000 in
set_option maxRecDepth 100000 in
theorem c_X8_bestPut (l : Launch) (G : fx_G) {o1 : Nat} (ho1 : o1 ∈ id_Told) {M : Mm} {K : Int32 → Mm → Prop} (hT : T_X8_bestPut o1 M K) : Met l yX8_bestPut (fx_ws yX8_bestPut cX8_bestPut 7 (some .int)) (fx_rm (1)) (va_Pc [.ref (G.2.2.2 + 151), .ref (G.2.2.2 + o1)] (fx_P G SH M)) (va_Qi K (fx_R G SH) (fx_A G)) 0 0 (fx_A G) := by
  refine fx_met (own := RX8) (by decide +kernel) rfl (Nat.le_of_ble_eq_true rfl) (fun p e s m below meth c X hr hk h ls hl => ?_)
  obtain ⟨⟨hx, hb, hml, hown, hts⟩, hK, hQ⟩ := id X
  have hl : lv_has ls 7 [(0, .ref (G.2.2.2 + 151)), (1, .ref (G.2.2.2 + o1))] := hl
  unfold T_X8_bestPut at hT
  refine lv_aload_n hx hb dX8_bestPut_0 rfl (lv_at hl 1 rfl) ?_
  refine fx_getI X h (k := o1) (j := 11) (sc_Told o1 ho1) rfl fl_RX8_96 dX8_bestPut_1 ?_
  refine lv_bipush (v := 7) hx hb dX8_bestPut_4 (by decide) ?_
  refine va_mmin hx hb (hml.trans hl.1.symm) hown (hts _ (fx_s5 (List.mem_of_getElem? (i := 103) rfl) rfl)) (hts _ mt_min_s) (hts _ mt_i) (hts _ mt_min_c) (Nat.le_of_ble_eq_true rfl) (Nat.le_of_ble_eq_true rfl) (Nat.le_refl _) (Nat.le_refl _) dX8_bestPut_6 ?_
  refine lv_topi (fun y15 ey15 => ?_)
  have hT := hT y15 ey15
  refine lv_istore_n (lv' := [(2, .int y15), (0, .ref (G.2.2.2 + 151)), (1, .ref (G.2.2.2 + o1))]) hx hb dX8_bestPut_9 rfl hl (by decide) rfl (fun ls hl => ?_)
  refine lv_iconst (v := 0) hx hb dX8_bestPut_10 (by decide) ?_
  refine lv_istore_n (lv' := [(3, .int (0 : Int32)), (2, .int y15), (0, .ref (G.2.2.2 + 151)), (1, .ref (G.2.2.2 + o1))]) hx hb dX8_bestPut_11 rfl hl (by decide) rfl (fun ls hl => ?_)
  refine lv_iconst (v := 0) hx hb dX8_bestPut_12 (by decide) ?_
  refine lv_istore (lv' := [(4, .int (0 : Int32)), (3, .int (0 : Int32)), (2, .int y15), (0, .ref (G.2.2.2 + 151)), (1, .ref (G.2.2.2 + o1))]) hx hb dX8_bestPut_13 hl (by decide) rfl (fun ls hl => ?_)
  exact w_X8_bestPut_15 ho1 X hr hk 5000 y15 (0 : Int32) (0 : Int32) M _ _ ls hT h (lv_sub hl [3, 4, 2, 1, 0] rfl)
/-! MockParcels$Sums.matching(LMockParcels$Told;I)I -/
theorem dX8_matching_0 : decode cX8_matching 0 = .ok (.iconst 1, 1) := by decide +kernel
theorem dX8_matching_1 : decode cX8_matching 1 = .ok (.iload_n 2, 1) := by decide +kernel
theorem dX8_matching_2 : decode cX8_matching 2 = .ok (.bipush 16, 2) := by decide +kernel
theorem dX8_matching_4 : decode cX8_matching 4 = .ok (.invokestatic 51, 3) := by decide +kernel
theorem dX8_matching_7 : decode cX8_matching 7 = .ok (.ishl, 1) := by decide +kernel
theorem dX8_matching_8 : decode cX8_matching 8 = .ok (.iconst 1, 1) := by decide +kernel
theorem dX8_matching_9 : decode cX8_matching 9 = .ok (.isub, 1) := by decide +kernel
theorem dX8_matching_10 : decode cX8_matching 10 = .ok (.istore_n 3, 1) := by decide +kernel
theorem dX8_matching_11 : decode cX8_matching 11 = .ok (.iconst 0, 1) := by decide +kernel
theorem dX8_matching_12 : decode cX8_matching 12 = .ok (.istore 4, 2) := by decide +kernel
theorem dX8_matching_14 : decode cX8_matching 14 = .ok (.iload 4, 2) := by decide +kernel
theorem dX8_matching_16 : decode cX8_matching 16 = .ok (.aload_n 1, 1) := by decide +kernel
theorem dX8_matching_17 : decode cX8_matching 17 = .ok (.getfield 114, 3) := by decide +kernel
theorem dX8_matching_20 : decode cX8_matching 20 = .ok (.if_icmp .ge 49, 3) := by decide +kernel
theorem dX8_matching_23 : decode cX8_matching 23 = .ok (.iload 4, 2) := by decide +kernel
theorem dX8_matching_25 : decode cX8_matching 25 = .ok (.bipush 8, 2) := by decide +kernel
theorem dX8_matching_27 : decode cX8_matching 27 = .ok (.if_icmp .ge 42, 3) := by decide +kernel
theorem dX8_matching_30 : decode cX8_matching 30 = .ok (.iload_n 3, 1) := by decide +kernel
theorem dX8_matching_31 : decode cX8_matching 31 = .ok (.aload_n 1, 1) := by decide +kernel
theorem dX8_matching_32 : decode cX8_matching 32 = .ok (.getfield 117, 3) := by decide +kernel
theorem dX8_matching_35 : decode cX8_matching 35 = .ok (.iload 4, 2) := by decide +kernel
theorem dX8_matching_37 : decode cX8_matching 37 = .ok (.iaload, 1) := by decide +kernel
theorem dX8_matching_38 : decode cX8_matching 38 = .ok (.iconst 1, 1) := by decide +kernel
theorem dX8_matching_39 : decode cX8_matching 39 = .ok (.if_icmp .ne 13, 3) := by decide +kernel
theorem dX8_matching_42 : decode cX8_matching 42 = .ok (.aload_n 1, 1) := by decide +kernel
theorem dX8_matching_43 : decode cX8_matching 43 = .ok (.getfield 120, 3) := by decide +kernel
theorem dX8_matching_46 : decode cX8_matching 46 = .ok (.iload 4, 2) := by decide +kernel
theorem dX8_matching_48 : decode cX8_matching 48 = .ok (.iaload, 1) := by decide +kernel
theorem dX8_matching_49 : decode cX8_matching 49 = .ok (.goto 12, 3) := by decide +kernel
theorem dX8_matching_52 : decode cX8_matching 52 = .ok (.aload_n 1, 1) := by decide +kernel
theorem dX8_matching_53 : decode cX8_matching 53 = .ok (.getfield 120, 3) := by decide +kernel
theorem dX8_matching_56 : decode cX8_matching 56 = .ok (.iload 4, 2) := by decide +kernel
theorem dX8_matching_58 : decode cX8_matching 58 = .ok (.iaload, 1) := by decide +kernel
theorem dX8_matching_59 : decode cX8_matching 59 = .ok (.iconst (-1), 1) := by decide +kernel
theorem dX8_matching_60 : decode cX8_matching 60 = .ok (.ixor, 1) := by decide +kernel
theorem dX8_matching_61 : decode cX8_matching 61 = .ok (.iand, 1) := by decide +kernel
theorem dX8_matching_62 : decode cX8_matching 62 = .ok (.istore_n 3, 1) := by decide +kernel
theorem dX8_matching_63 : decode cX8_matching 63 = .ok (.iinc 4 1, 3) := by decide +kernel
theorem dX8_matching_66 : decode cX8_matching 66 = .ok (.goto (-52), 3) := by decide +kernel
theorem dX8_matching_69 : decode cX8_matching 69 = .ok (.iload_n 3, 1) := by decide +kernel
theorem dX8_matching_70 : decode cX8_matching 70 = .ok (.ireturn, 1) := by decide +kernel
def T_X8_matching_61 (B14 : Int32 → Int32 → Mm → Prop) (o1 : Nat) (x4 : Int32) (s0 : Int32) (s1 : Int32) (M : Mm) (K : Int32 → Mm → Prop) : Prop := (∀ y1 : Int32, y1 = (s0 &&& s1) → (∀ y2 : Int32, y2 = x4 + (1 : Int32) → (B14 y1 y2 M)))
set_option maxHeartbeats 4000000 in
set_option maxRecDepth 100000 in
theorem w_X8_matching_61 {p : Program} {l : Launch} {e : Env} {s : State} {m : MethodId} {args : Array Value} {below : List Frame} {meth : Method} {c : Code} {G : fx_G} {K : Int32 → Mm → Prop} {B14 : Int32 → Int32 → Mm → Prop} {o1 : Nat} (ho1 : o1 ∈ id_Told) (X : fx_C G p s m c args cX8_matching 5 RX8) (hr : meth.sig.returnType = (some .int)) (hk : meth.locks = false) (hB14 : ∀ (x3 : Int32) (x4 : Int32) (M : Mm) (H : Heap) (locs : List Loc) (ls : Array Slot), B14 x3 x4 M → fx_H G SH M s H locs → lv_has ls 5 [(1, .ref (G.2.2.2 + o1)), (3, .int x3), (4, .int x4)] → W p l e (fx_rm (1)) s m args below meth c H locs 0 0 (MQ below (va_Qi K (fx_R G SH) (fx_A G)) args s 0 0 (fx_A G)) (F0 m 14 ls [])) : ∀ (x4 : Int32) (s0 : Int32) (s1 : Int32) (M : Mm) (H : Heap) (locs : List Loc) (ls : Array Slot), T_X8_matching_61 B14 o1 x4 s0 s1 M K → fx_H G SH M s H locs → lv_has ls 5 [(1, .ref (G.2.2.2 + o1)), (4, .int x4)] → W p l e (fx_rm (1)) s m args below meth c H locs 0 0 (MQ below (va_Qi K (fx_R G SH) (fx_A G)) args s 0 0 (fx_A G)) (F0 m 61 ls [.int s1, .int s0]) := by
  obtain ⟨⟨hx, hb, hml, hown, hts⟩, hK, hQ⟩ := id X
  intro x4 s0 s1 M H locs ls hT h hl
  unfold T_X8_matching_61 at hT
  refine lv_iand hx hb dX8_matching_61 ?_
  refine lv_topi (fun y1 ey1 => ?_)
  have hT := hT y1 ey1
  refine lv_istore_n (lv' := [(3, .int y1), (1, .ref (G.2.2.2 + o1)), (4, .int x4)]) hx hb dX8_matching_62 rfl hl (by decide) rfl (fun ls hl => ?_)
  obtain ⟨y2, ey2⟩ : ∃ z : Int32, z = x4 + (1 : Int32) := ⟨_, rfl⟩
  have hT := hT y2 ey2
  refine lv_iinc (v := y2) (lv' := [(4, .int y2), (3, .int y1), (1, .ref (G.2.2.2 + o1))]) hx hb dX8_matching_63 hl (k := 2) rfl (by rw [ey2]; rfl) (by decide) rfl (fun ls hl => ?_)
  refine lv_goto (tgt := 14) hx hb dX8_matching_66 (by decide) ?_
  exact hB14 y1 y2 M _ _ ls hT h (lv_sub hl [2, 1, 0] rfl)
def T_X8_matching_14 (o1 : Nat) : Nat → Int32 → Int32 → Mm → (Int32 → Mm → Prop) → Prop
  | 0, _, _, _, _ => False
  | n + 1, x3, x4, M, K => (((M o1 12) ≤ x4 → (K x3 M)) ∧ (¬ (M o1 12) ≤ x4 → (((8 : Int32) ≤ x4 → (K x3 M)) ∧ (¬ (8 : Int32) ≤ x4 → (vp_in x4 8 ∧ (((M (rf o1 7) (x4).toNatClampNeg) = (1 : Int32) → (vp_in x4 8 ∧ (T_X8_matching_61 (fun x3 x4 M => T_X8_matching_14 o1 n x3 x4 M K) o1 x4 x3 (M (rf o1 6) (x4).toNatClampNeg) M K))) ∧ (¬ (M (rf o1 7) (x4).toNatClampNeg) = (1 : Int32) → (vp_in x4 8 ∧ (T_X8_matching_61 (fun x3 x4 M => T_X8_matching_14 o1 n x3 x4 M K) o1 x4 x3 ((M (rf o1 6) (x4).toNatClampNeg) ^^^ (-1 : Int32)) M K)))))))))
set_option maxHeartbeats 4000000 in
set_option maxRecDepth 100000 in
theorem w_X8_matching_14 {p : Program} {l : Launch} {e : Env} {s : State} {m : MethodId} {args : Array Value} {below : List Frame} {meth : Method} {c : Code} {G : fx_G} {K : Int32 → Mm → Prop} {o1 : Nat} (ho1 : o1 ∈ id_Told) (X : fx_C G p s m c args cX8_matching 5 RX8) (hr : meth.sig.returnType = (some .int)) (hk : meth.locks = false) : ∀ (n : Nat) (x3 : Int32) (x4 : Int32) (M : Mm) (H : Heap) (locs : List Loc) (ls : Array Slot), T_X8_matching_14 o1 n x3 x4 M K → fx_H G SH M s H locs → lv_has ls 5 [(1, .ref (G.2.2.2 + o1)), (3, .int x3), (4, .int x4)] → W p l e (fx_rm (1)) s m args below meth c H locs 0 0 (MQ below (va_Qi K (fx_R G SH) (fx_A G)) args s 0 0 (fx_A G)) (F0 m 14 ls []) := by
  obtain ⟨⟨hx, hb, hml, hown, hts⟩, hK, hQ⟩ := id X
  intro n
  induction n with
  | zero =>
    intro x3 x4 M H locs ls hT
    exact hT.elim
  | succ n ih =>
    intro x3 x4 M H locs ls hT h hl
    rw [T_X8_matching_14] at hT
    refine lv_iload hx hb dX8_matching_14 (lv_at hl 2 rfl) ?_
    refine lv_aload_n hx hb dX8_matching_16 rfl (lv_at hl 0 rfl) ?_
    refine fx_getI X h (k := o1) (j := 12) (sc_Told o1 ho1) rfl fl_RX8_114 dX8_matching_17 ?_
    refine lv_icmp_ge (tgt := 69) hx hb dX8_matching_20 (by decide) (fun hc3 => ?_) (fun hc3 => ?_)
    · have hT := hT.1 hc3
      refine lv_iload_n hx hb dX8_matching_69 rfl (lv_at hl 1 rfl) ?_
      exact fx_iret X hr hk h hT dX8_matching_70
    · have hT := hT.2 hc3
      refine lv_iload hx hb dX8_matching_23 (lv_at hl 2 rfl) ?_
      refine lv_bipush (v := 8) hx hb dX8_matching_25 (by decide) ?_
      refine lv_icmp_ge (tgt := 69) hx hb dX8_matching_27 (by decide) (fun hc4 => ?_) (fun hc4 => ?_)
      · have hT := hT.1 hc4
        refine lv_iload_n hx hb dX8_matching_69 rfl (lv_at hl 1 rfl) ?_
        exact fx_iret X hr hk h hT dX8_matching_70
      · have hT := hT.2 hc4
        refine lv_iload_n hx hb dX8_matching_30 rfl (lv_at hl 1 rfl) ?_
        refine lv_aload_n hx hb dX8_matching_31 rfl (lv_at hl 0 rfl) ?_
        refine fx_getR X h (k := o1) (j := 7) (r := (rf o1 7)) (sc_Told o1 ho1) rfl fl_RX8_117 dX8_matching_32 ?_
        refine lv_iload hx hb dX8_matching_35 (lv_at hl 2 rfl) ?_
        obtain ⟨hi5, hT⟩ := hT
        refine fx_iald X h (k := (rf o1 7)) (sa_Told_7 o1 ho1) hi5 dX8_matching_37 ?_
        refine lv_iconst (v := 1) hx hb dX8_matching_38 (by decide) ?_
        refine lv_icmp_ne (tgt := 52) hx hb dX8_matching_39 (by decide) (fun hc6 => ?_) (fun hc6 => ?_)
        · have hT := hT.2 hc6
          refine lv_aload_n hx hb dX8_matching_52 rfl (lv_at hl 0 rfl) ?_
          refine fx_getR X h (k := o1) (j := 6) (r := (rf o1 6)) (sc_Told o1 ho1) rfl fl_RX8_120 dX8_matching_53 ?_
          refine lv_iload hx hb dX8_matching_56 (lv_at hl 2 rfl) ?_
          obtain ⟨hi7, hT⟩ := hT
          refine fx_iald X h (k := (rf o1 6)) (sa_Told_6 o1 ho1) hi7 dX8_matching_58 ?_
          refine lv_iconst (v := -1) hx hb dX8_matching_59 (by decide) ?_
          refine lv_ixor hx hb dX8_matching_60 ?_
          exact w_X8_matching_61 ho1 X hr hk (B14 := (fun x3 x4 M => T_X8_matching_14 o1 n x3 x4 M K)) ih x4 x3 ((M (rf o1 6) (x4).toNatClampNeg) ^^^ (-1 : Int32)) M _ _ ls hT h (lv_sub hl [0, 2] rfl)
        · have hT := hT.1 hc6
          refine lv_aload_n hx hb dX8_matching_42 rfl (lv_at hl 0 rfl) ?_
          refine fx_getR X h (k := o1) (j := 6) (r := (rf o1 6)) (sc_Told o1 ho1) rfl fl_RX8_120 dX8_matching_43 ?_
          refine lv_iload hx hb dX8_matching_46 (lv_at hl 2 rfl) ?_
          obtain ⟨hi8, hT⟩ := hT
          refine fx_iald X h (k := (rf o1 6)) (sa_Told_6 o1 ho1) hi8 dX8_matching_48 ?_
          refine lv_goto (tgt := 61) hx hb dX8_matching_49 (by decide) ?_
          exact w_X8_matching_61 ho1 X hr hk (B14 := (fun x3 x4 M => T_X8_matching_14 o1 n x3 x4 M K)) ih x4 x3 (M (rf o1 6) (x4).toNatClampNeg) M _ _ ls hT h (lv_sub hl [0, 2] rfl)
def T_X8_matching (o1 : Nat) (x2 : Int32) (M : Mm) (K : Int32 → Mm → Prop) : Prop := (∀ y9 : Int32, y9 = (((1 : Int32) <<< ((if (16 : Int32) < x2 then (16 : Int32) else x2) &&& 31)) - (1 : Int32)) → (T_X8_matching_14 o1 5000 y9 (0 : Int32) M K))
set_option maxHeartbeats 4000000 in
set_option maxRecDepth 100000 in
theorem c_X8_matching (l : Launch) (G : fx_G) {o1 : Nat} (ho1 : o1 ∈ id_Told) {x2 : Int32} {M : Mm} {K : Int32 → Mm → Prop} (hT : T_X8_matching o1 x2 M K) : Met l yX8_matching (fx_ws yX8_matching cX8_matching 5 (some .int)) (fx_rm (1)) (va_Pc [.ref (G.2.2.2 + 151), .ref (G.2.2.2 + o1), .int x2] (fx_P G SH M)) (va_Qi K (fx_R G SH) (fx_A G)) 0 0 (fx_A G) := by
  refine fx_met (own := RX8) (by decide +kernel) rfl (Nat.le_of_ble_eq_true rfl) (fun p e s m below meth c X hr hk h ls hl => ?_)
  obtain ⟨⟨hx, hb, hml, hown, hts⟩, hK, hQ⟩ := id X
  have hl : lv_has ls 5 [(0, .ref (G.2.2.2 + 151)), (1, .ref (G.2.2.2 + o1)), (2, .int x2)] := hl
  unfold T_X8_matching at hT
  refine lv_iconst (v := 1) hx hb dX8_matching_0 (by decide) ?_
  refine lv_iload_n hx hb dX8_matching_1 rfl (lv_at hl 2 rfl) ?_
  refine lv_bipush (v := 16) hx hb dX8_matching_2 (by decide) ?_
  refine va_mmin hx hb (hml.trans hl.1.symm) hown (hts _ (fx_s5 (List.mem_of_getElem? (i := 103) rfl) rfl)) (hts _ mt_min_s) (hts _ mt_i) (hts _ mt_min_c) (Nat.le_of_ble_eq_true rfl) (Nat.le_of_ble_eq_true rfl) (Nat.le_refl _) (Nat.le_refl _) dX8_matching_4 ?_
  refine lv_ishl hx hb dX8_matching_7 ?_
  refine lv_iconst (v := 1) hx hb dX8_matching_8 (by decide) ?_
  refine lv_isub hx hb dX8_matching_9 ?_
  refine lv_topi (fun y9 ey9 => ?_)
  have hT := hT y9 ey9
  refine lv_istore_n (lv' := [(3, .int y9), (0, .ref (G.2.2.2 + 151)), (1, .ref (G.2.2.2 + o1)), (2, .int x2)]) hx hb dX8_matching_10 rfl hl (by decide) rfl (fun ls hl => ?_)
  refine lv_iconst (v := 0) hx hb dX8_matching_11 (by decide) ?_
  refine lv_istore (lv' := [(4, .int (0 : Int32)), (3, .int y9), (0, .ref (G.2.2.2 + 151)), (1, .ref (G.2.2.2 + o1)), (2, .int x2)]) hx hb dX8_matching_12 hl (by decide) rfl (fun ls hl => ?_)
  exact w_X8_matching_14 ho1 X hr hk 5000 y9 (0 : Int32) M _ _ ls hT h (lv_sub hl [3, 1, 0] rfl)
/-! MockParcels$Sums.tellsAll(II)Z -/
theorem dX8_tellsAll_0 : decode cX8_tellsAll 0 = .ok (.iconst 1, 1) := by decide +kernel
theorem dX8_tellsAll_1 : decode cX8_tellsAll 1 = .ok (.istore_n 3, 1) := by decide +kernel
theorem dX8_tellsAll_2 : decode cX8_tellsAll 2 = .ok (.iload_n 3, 1) := by decide +kernel
theorem dX8_tellsAll_3 : decode cX8_tellsAll 3 = .ok (.iload_n 2, 1) := by decide +kernel
theorem dX8_tellsAll_4 : decode cX8_tellsAll 4 = .ok (.if_icmp .ge 68, 3) := by decide +kernel
theorem dX8_tellsAll_7 : decode cX8_tellsAll 7 = .ok (.iload_n 3, 1) := by decide +kernel
theorem dX8_tellsAll_8 : decode cX8_tellsAll 8 = .ok (.bipush 16, 2) := by decide +kernel
theorem dX8_tellsAll_10 : decode cX8_tellsAll 10 = .ok (.if_icmp .ge 62, 3) := by decide +kernel
theorem dX8_tellsAll_13 : decode cX8_tellsAll 13 = .ok (.iconst 0, 1) := by decide +kernel
theorem dX8_tellsAll_14 : decode cX8_tellsAll 14 = .ok (.istore 4, 2) := by decide +kernel
theorem dX8_tellsAll_16 : decode cX8_tellsAll 16 = .ok (.iload 4, 2) := by decide +kernel
theorem dX8_tellsAll_18 : decode cX8_tellsAll 18 = .ok (.iload_n 3, 1) := by decide +kernel
theorem dX8_tellsAll_19 : decode cX8_tellsAll 19 = .ok (.if_icmp .ge 47, 3) := by decide +kernel
theorem dX8_tellsAll_22 : decode cX8_tellsAll 22 = .ok (.aload_n 0, 1) := by decide +kernel
theorem dX8_tellsAll_23 : decode cX8_tellsAll 23 = .ok (.getfield 27, 3) := by decide +kernel
theorem dX8_tellsAll_26 : decode cX8_tellsAll 26 = .ok (.iload_n 3, 1) := by decide +kernel
theorem dX8_tellsAll_27 : decode cX8_tellsAll 27 = .ok (.iaload, 1) := by decide +kernel
theorem dX8_tellsAll_28 : decode cX8_tellsAll 28 = .ok (.aload_n 0, 1) := by decide +kernel
theorem dX8_tellsAll_29 : decode cX8_tellsAll 29 = .ok (.getfield 27, 3) := by decide +kernel
theorem dX8_tellsAll_32 : decode cX8_tellsAll 32 = .ok (.iload 4, 2) := by decide +kernel
theorem dX8_tellsAll_34 : decode cX8_tellsAll 34 = .ok (.iaload, 1) := by decide +kernel
theorem dX8_tellsAll_35 : decode cX8_tellsAll 35 = .ok (.if_icmp .eq 25, 3) := by decide +kernel
theorem dX8_tellsAll_38 : decode cX8_tellsAll 38 = .ok (.aload_n 0, 1) := by decide +kernel
theorem dX8_tellsAll_39 : decode cX8_tellsAll 39 = .ok (.getfield 27, 3) := by decide +kernel
theorem dX8_tellsAll_42 : decode cX8_tellsAll 42 = .ok (.iload_n 3, 1) := by decide +kernel
theorem dX8_tellsAll_43 : decode cX8_tellsAll 43 = .ok (.iaload, 1) := by decide +kernel
theorem dX8_tellsAll_44 : decode cX8_tellsAll 44 = .ok (.iload_n 1, 1) := by decide +kernel
theorem dX8_tellsAll_45 : decode cX8_tellsAll 45 = .ok (.iand, 1) := by decide +kernel
theorem dX8_tellsAll_46 : decode cX8_tellsAll 46 = .ok (.aload_n 0, 1) := by decide +kernel
theorem dX8_tellsAll_47 : decode cX8_tellsAll 47 = .ok (.getfield 27, 3) := by decide +kernel
theorem dX8_tellsAll_50 : decode cX8_tellsAll 50 = .ok (.iload 4, 2) := by decide +kernel
theorem dX8_tellsAll_52 : decode cX8_tellsAll 52 = .ok (.iaload, 1) := by decide +kernel
theorem dX8_tellsAll_53 : decode cX8_tellsAll 53 = .ok (.iload_n 1, 1) := by decide +kernel
theorem dX8_tellsAll_54 : decode cX8_tellsAll 54 = .ok (.iand, 1) := by decide +kernel
theorem dX8_tellsAll_55 : decode cX8_tellsAll 55 = .ok (.if_icmp .ne 5, 3) := by decide +kernel
theorem dX8_tellsAll_58 : decode cX8_tellsAll 58 = .ok (.iconst 0, 1) := by decide +kernel
theorem dX8_tellsAll_59 : decode cX8_tellsAll 59 = .ok (.ireturn, 1) := by decide +kernel
theorem dX8_tellsAll_60 : decode cX8_tellsAll 60 = .ok (.iinc 4 1, 3) := by decide +kernel
theorem dX8_tellsAll_63 : decode cX8_tellsAll 63 = .ok (.goto (-47), 3) := by decide +kernel
theorem dX8_tellsAll_66 : decode cX8_tellsAll 66 = .ok (.iinc 3 1, 3) := by decide +kernel
theorem dX8_tellsAll_69 : decode cX8_tellsAll 69 = .ok (.goto (-67), 3) := by decide +kernel
theorem dX8_tellsAll_72 : decode cX8_tellsAll 72 = .ok (.iconst 1, 1) := by decide +kernel
theorem dX8_tellsAll_73 : decode cX8_tellsAll 73 = .ok (.ireturn, 1) := by decide +kernel
def T_X8_tellsAll_60 (B2 : Int32 → Int32 → Int32 → Mm → Prop) (B16 : Int32 → Int32 → Int32 → Int32 → Mm → Prop) (x1 : Int32) (x2 : Int32) (x3 : Int32) (x4 : Int32) (M : Mm) (K : Int32 → Mm → Prop) : Prop := (∀ y1 : Int32, y1 = x4 + (1 : Int32) → (B16 x1 x2 x3 y1 M))
set_option maxHeartbeats 4000000 in
set_option maxRecDepth 100000 in
theorem w_X8_tellsAll_60 {p : Program} {l : Launch} {e : Env} {s : State} {m : MethodId} {args : Array Value} {below : List Frame} {meth : Method} {c : Code} {G : fx_G} {K : Int32 → Mm → Prop} {B2 : Int32 → Int32 → Int32 → Mm → Prop} {B16 : Int32 → Int32 → Int32 → Int32 → Mm → Prop} (X : fx_C G p s m c args cX8_tellsAll 5 RX8) (hr : meth.sig.returnType = (some .boolean)) (hk : meth.locks = false) (hB2 : ∀ (x1 : Int32) (x2 : Int32) (x3 : Int32) (M : Mm) (H : Heap) (locs : List Loc) (ls : Array Slot), B2 x1 x2 x3 M → fx_H G SH M s H locs → lv_has ls 5 [(0, .ref (G.2.2.2 + 151)), (1, .int x1), (2, .int x2), (3, .int x3)] → W p l e (fx_rm (0)) s m args below meth c H locs 0 0 (MQ below (va_Qi K (fx_R G SH) (fx_A G)) args s 0 0 (fx_A G)) (F0 m 2 ls [])) (hB16 : ∀ (x1 : Int32) (x2 : Int32) (x3 : Int32) (x4 : Int32) (M : Mm) (H : Heap) (locs : List Loc) (ls : Array Slot), B16 x1 x2 x3 x4 M → fx_H G SH M s H locs → lv_has ls 5 [(0, .ref (G.2.2.2 + 151)), (1, .int x1), (2, .int x2), (3, .int x3), (4, .int x4)] → W p l e (fx_rm (0)) s m args below meth c H locs 0 0 (MQ below (va_Qi K (fx_R G SH) (fx_A G)) args s 0 0 (fx_A G)) (F0 m 16 ls [])) : ∀ (x1 : Int32) (x2 : Int32) (x3 : Int32) (x4 : Int32) (M : Mm) (H : Heap) (locs : List Loc) (ls : Array Slot), T_X8_tellsAll_60 B2 B16 x1 x2 x3 x4 M K → fx_H G SH M s H locs → lv_has ls 5 [(0, .ref (G.2.2.2 + 151)), (1, .int x1), (2, .int x2), (3, .int x3), (4, .int x4)] → W p l e (fx_rm (0)) s m args below meth c H locs 0 0 (MQ below (va_Qi K (fx_R G SH) (fx_A G)) args s 0 0 (fx_A G)) (F0 m 60 ls []) := by
  obtain ⟨⟨hx, hb, hml, hown, hts⟩, hK, hQ⟩ := id X
  intro x1 x2 x3 x4 M H locs ls hT h hl
  unfold T_X8_tellsAll_60 at hT
  obtain ⟨y1, ey1⟩ : ∃ z : Int32, z = x4 + (1 : Int32) := ⟨_, rfl⟩
  have hT := hT y1 ey1
  refine lv_iinc (v := y1) (lv' := [(4, .int y1), (0, .ref (G.2.2.2 + 151)), (1, .int x1), (2, .int x2), (3, .int x3)]) hx hb dX8_tellsAll_60 hl (k := 4) rfl (by rw [ey1]; rfl) (by decide) rfl (fun ls hl => ?_)
  refine lv_goto (tgt := 16) hx hb dX8_tellsAll_63 (by decide) ?_
  exact hB16 x1 x2 x3 y1 M _ _ ls hT h (lv_sub hl [1, 2, 3, 4, 0] rfl)
def T_X8_tellsAll_16 (B2 : Int32 → Int32 → Int32 → Mm → Prop) : Nat → Int32 → Int32 → Int32 → Int32 → Mm → (Int32 → Mm → Prop) → Prop
  | 0, _, _, _, _, _, _ => False
  | n + 1, x1, x2, x3, x4, M, K => ((x3 ≤ x4 → (∀ y3 : Int32, y3 = x3 + (1 : Int32) → (B2 x1 x2 y3 M))) ∧ (¬ x3 ≤ x4 → (vp_in x3 16 ∧ (vp_in x4 16 ∧ (((M 157 (x3).toNatClampNeg) = (M 157 (x4).toNatClampNeg) → (T_X8_tellsAll_60 B2 (fun x1 x2 x3 x4 M => T_X8_tellsAll_16 B2 n x1 x2 x3 x4 M K) x1 x2 x3 x4 M K)) ∧ (¬ (M 157 (x3).toNatClampNeg) = (M 157 (x4).toNatClampNeg) → (vp_in x3 16 ∧ (vp_in x4 16 ∧ ((((M 157 (x3).toNatClampNeg) &&& x1) = ((M 157 (x4).toNatClampNeg) &&& x1) → (K (0 : Int32) M)) ∧ (¬ ((M 157 (x3).toNatClampNeg) &&& x1) = ((M 157 (x4).toNatClampNeg) &&& x1) → (T_X8_tellsAll_60 B2 (fun x1 x2 x3 x4 M => T_X8_tellsAll_16 B2 n x1 x2 x3 x4 M K) x1 x2 x3 x4 M K)))))))))))
set_option maxHeartbeats 4000000 in
set_option maxRecDepth 100000 in
theorem w_X8_tellsAll_16 {p : Program} {l : Launch} {e : Env} {s : State} {m : MethodId} {args : Array Value} {below : List Frame} {meth : Method} {c : Code} {G : fx_G} {K : Int32 → Mm → Prop} {B2 : Int32 → Int32 → Int32 → Mm → Prop} (X : fx_C G p s m c args cX8_tellsAll 5 RX8) (hr : meth.sig.returnType = (some .boolean)) (hk : meth.locks = false) (hB2 : ∀ (x1 : Int32) (x2 : Int32) (x3 : Int32) (M : Mm) (H : Heap) (locs : List Loc) (ls : Array Slot), B2 x1 x2 x3 M → fx_H G SH M s H locs → lv_has ls 5 [(0, .ref (G.2.2.2 + 151)), (1, .int x1), (2, .int x2), (3, .int x3)] → W p l e (fx_rm (0)) s m args below meth c H locs 0 0 (MQ below (va_Qi K (fx_R G SH) (fx_A G)) args s 0 0 (fx_A G)) (F0 m 2 ls [])) : ∀ (n : Nat) (x1 : Int32) (x2 : Int32) (x3 : Int32) (x4 : Int32) (M : Mm) (H : Heap) (locs : List Loc) (ls : Array Slot), T_X8_tellsAll_16 B2 n x1 x2 x3 x4 M K → fx_H G SH M s H locs → lv_has ls 5 [(0, .ref (G.2.2.2 + 151)), (1, .int x1), (2, .int x2), (3, .int x3), (4, .int x4)] → W p l e (fx_rm (0)) s m args below meth c H locs 0 0 (MQ below (va_Qi K (fx_R G SH) (fx_A G)) args s 0 0 (fx_A G)) (F0 m 16 ls []) := by
  obtain ⟨⟨hx, hb, hml, hown, hts⟩, hK, hQ⟩ := id X
  intro n
  induction n with
  | zero =>
    intro x1 x2 x3 x4 M H locs ls hT
    exact hT.elim
  | succ n ih =>
    intro x1 x2 x3 x4 M H locs ls hT h hl
    rw [T_X8_tellsAll_16] at hT
    refine lv_iload hx hb dX8_tellsAll_16 (lv_at hl 4 rfl) ?_
    refine lv_iload_n hx hb dX8_tellsAll_18 rfl (lv_at hl 3 rfl) ?_
    refine lv_icmp_ge (tgt := 66) hx hb dX8_tellsAll_19 (by decide) (fun hc2 => ?_) (fun hc2 => ?_)
    · have hT := hT.1 hc2
      obtain ⟨y3, ey3⟩ : ∃ z : Int32, z = x3 + (1 : Int32) := ⟨_, rfl⟩
      have hT := hT y3 ey3
      refine lv_iinc (v := y3) (lv' := [(3, .int y3), (0, .ref (G.2.2.2 + 151)), (1, .int x1), (2, .int x2), (4, .int x4)]) hx hb dX8_tellsAll_66 hl (k := 3) rfl (by rw [ey3]; rfl) (by decide) rfl (fun ls hl => ?_)
      refine lv_goto (tgt := 2) hx hb dX8_tellsAll_69 (by decide) ?_
      exact hB2 x1 x2 y3 M _ _ ls hT h (lv_sub hl [1, 2, 3, 0] rfl)
    · have hT := hT.2 hc2
      refine lv_aload_n hx hb dX8_tellsAll_22 rfl (lv_at hl 0 rfl) ?_
      refine fx_getR X h (k := 151) (j := 5) (r := 157) sh_151 rfl fl_RX8_27 dX8_tellsAll_23 ?_
      refine lv_iload_n hx hb dX8_tellsAll_26 rfl (lv_at hl 3 rfl) ?_
      obtain ⟨hi4, hT⟩ := hT
      refine fx_iald X h (k := 157) sh_157 hi4 dX8_tellsAll_27 ?_
      refine lv_aload_n hx hb dX8_tellsAll_28 rfl (lv_at hl 0 rfl) ?_
      refine fx_getR X h (k := 151) (j := 5) (r := 157) sh_151 rfl fl_RX8_27 dX8_tellsAll_29 ?_
      refine lv_iload hx hb dX8_tellsAll_32 (lv_at hl 4 rfl) ?_
      obtain ⟨hi5, hT⟩ := hT
      refine fx_iald X h (k := 157) sh_157 hi5 dX8_tellsAll_34 ?_
      refine lv_icmp_eq (tgt := 60) hx hb dX8_tellsAll_35 (by decide) (fun hc6 => ?_) (fun hc6 => ?_)
      · have hT := hT.1 hc6
        exact w_X8_tellsAll_60 X hr hk (B2 := B2) hB2 (B16 := (fun x1 x2 x3 x4 M => T_X8_tellsAll_16 B2 n x1 x2 x3 x4 M K)) ih x1 x2 x3 x4 M _ _ ls hT h (lv_sub hl [0, 1, 2, 3, 4] rfl)
      · have hT := hT.2 hc6
        refine lv_aload_n hx hb dX8_tellsAll_38 rfl (lv_at hl 0 rfl) ?_
        refine fx_getR X h (k := 151) (j := 5) (r := 157) sh_151 rfl fl_RX8_27 dX8_tellsAll_39 ?_
        refine lv_iload_n hx hb dX8_tellsAll_42 rfl (lv_at hl 3 rfl) ?_
        obtain ⟨hi7, hT⟩ := hT
        refine fx_iald X h (k := 157) sh_157 hi7 dX8_tellsAll_43 ?_
        refine lv_iload_n hx hb dX8_tellsAll_44 rfl (lv_at hl 1 rfl) ?_
        refine lv_iand hx hb dX8_tellsAll_45 ?_
        refine lv_aload_n hx hb dX8_tellsAll_46 rfl (lv_at hl 0 rfl) ?_
        refine fx_getR X h (k := 151) (j := 5) (r := 157) sh_151 rfl fl_RX8_27 dX8_tellsAll_47 ?_
        refine lv_iload hx hb dX8_tellsAll_50 (lv_at hl 4 rfl) ?_
        obtain ⟨hi8, hT⟩ := hT
        refine fx_iald X h (k := 157) sh_157 hi8 dX8_tellsAll_52 ?_
        refine lv_iload_n hx hb dX8_tellsAll_53 rfl (lv_at hl 1 rfl) ?_
        refine lv_iand hx hb dX8_tellsAll_54 ?_
        refine lv_icmp_ne (tgt := 60) hx hb dX8_tellsAll_55 (by decide) (fun hc9 => ?_) (fun hc9 => ?_)
        · have hT := hT.2 hc9
          exact w_X8_tellsAll_60 X hr hk (B2 := B2) hB2 (B16 := (fun x1 x2 x3 x4 M => T_X8_tellsAll_16 B2 n x1 x2 x3 x4 M K)) ih x1 x2 x3 x4 M _ _ ls hT h (lv_sub hl [0, 1, 2, 3, 4] rfl)
        · have hT := hT.1 hc9
          refine lv_iconst (v := 0) hx hb dX8_tellsAll_58 (by decide) ?_
          exact fx_zret X hr hk h (Or.inl rfl) hT dX8_tellsAll_59
def T_X8_tellsAll_2 : Nat → Int32 → Int32 → Int32 → Mm → (Int32 → Mm → Prop) → Prop
  | 0, _, _, _, _, _ => False
  | n + 1, x1, x2, x3, M, K => ((x2 ≤ x3 → (K (1 : Int32) M)) ∧ (¬ x2 ≤ x3 → (((16 : Int32) ≤ x3 → (K (1 : Int32) M)) ∧ (¬ (16 : Int32) ≤ x3 → (T_X8_tellsAll_16 (fun x1 x2 x3 M => T_X8_tellsAll_2 n x1 x2 x3 M K) 5000 x1 x2 x3 (0 : Int32) M K)))))
set_option maxHeartbeats 4000000 in
set_option maxRecDepth 100000 in
theorem w_X8_tellsAll_2 {p : Program} {l : Launch} {e : Env} {s : State} {m : MethodId} {args : Array Value} {below : List Frame} {meth : Method} {c : Code} {G : fx_G} {K : Int32 → Mm → Prop} (X : fx_C G p s m c args cX8_tellsAll 5 RX8) (hr : meth.sig.returnType = (some .boolean)) (hk : meth.locks = false) : ∀ (n : Nat) (x1 : Int32) (x2 : Int32) (x3 : Int32) (M : Mm) (H : Heap) (locs : List Loc) (ls : Array Slot), T_X8_tellsAll_2 n x1 x2 x3 M K → fx_H G SH M s H locs → lv_has ls 5 [(0, .ref (G.2.2.2 + 151)), (1, .int x1), (2, .int x2), (3, .int x3)] → W p l e (fx_rm (0)) s m args below meth c H locs 0 0 (MQ below (va_Qi K (fx_R G SH) (fx_A G)) args s 0 0 (fx_A G)) (F0 m 2 ls []) := by
  obtain ⟨⟨hx, hb, hml, hown, hts⟩, hK, hQ⟩ := id X
  intro n
  induction n with
  | zero =>
    intro x1 x2 x3 M H locs ls hT
    exact hT.elim
  | succ n ih =>
    intro x1 x2 x3 M H locs ls hT h hl
    rw [T_X8_tellsAll_2] at hT
    refine lv_iload_n hx hb dX8_tellsAll_2 rfl (lv_at hl 3 rfl) ?_
    refine lv_iload_n hx hb dX8_tellsAll_3 rfl (lv_at hl 2 rfl) ?_
    refine lv_icmp_ge (tgt := 72) hx hb dX8_tellsAll_4 (by decide) (fun hc10 => ?_) (fun hc10 => ?_)
    · have hT := hT.1 hc10
      refine lv_iconst (v := 1) hx hb dX8_tellsAll_72 (by decide) ?_
      exact fx_zret X hr hk h (Or.inr rfl) hT dX8_tellsAll_73
    · have hT := hT.2 hc10
      refine lv_iload_n hx hb dX8_tellsAll_7 rfl (lv_at hl 3 rfl) ?_
      refine lv_bipush (v := 16) hx hb dX8_tellsAll_8 (by decide) ?_
      refine lv_icmp_ge (tgt := 72) hx hb dX8_tellsAll_10 (by decide) (fun hc11 => ?_) (fun hc11 => ?_)
      · have hT := hT.1 hc11
        refine lv_iconst (v := 1) hx hb dX8_tellsAll_72 (by decide) ?_
        exact fx_zret X hr hk h (Or.inr rfl) hT dX8_tellsAll_73
      · have hT := hT.2 hc11
        refine lv_iconst (v := 0) hx hb dX8_tellsAll_13 (by decide) ?_
        refine lv_istore (lv' := [(4, .int (0 : Int32)), (0, .ref (G.2.2.2 + 151)), (1, .int x1), (2, .int x2), (3, .int x3)]) hx hb dX8_tellsAll_14 hl (by decide) rfl (fun ls hl => ?_)
        exact w_X8_tellsAll_16 X hr hk (B2 := (fun x1 x2 x3 M => T_X8_tellsAll_2 n x1 x2 x3 M K)) ih 5000 x1 x2 x3 (0 : Int32) M _ _ ls hT h (lv_sub hl [1, 2, 3, 4, 0] rfl)
def T_X8_tellsAll (x1 : Int32) (x2 : Int32) (M : Mm) (K : Int32 → Mm → Prop) : Prop := (T_X8_tellsAll_2 5000 x1 x2 (1 : Int32) M K)
set_option maxHeartbeats 4000000 in
set_option maxRecDepth 100000 in
theorem c_X8_tellsAll (l : Launch) (G : fx_G) {x1 : Int32} {x2 : Int32} {M : Mm} {K : Int32 → Mm → Prop} (hT : T_X8_tellsAll x1 x2 M K) : Met l yX8_tellsAll (fx_ws yX8_tellsAll cX8_tellsAll 5 (some .boolean)) (fx_rm (0)) (va_Pc [.ref (G.2.2.2 + 151), .int x1, .int x2] (fx_P G SH M)) (va_Qi K (fx_R G SH) (fx_A G)) 0 0 (fx_A G) := by
  refine fx_met (own := RX8) (by decide +kernel) rfl (Nat.le_of_ble_eq_true rfl) (fun p e s m below meth c X hr hk h ls hl => ?_)
  obtain ⟨⟨hx, hb, hml, hown, hts⟩, hK, hQ⟩ := id X
  have hl : lv_has ls 5 [(0, .ref (G.2.2.2 + 151)), (1, .int x1), (2, .int x2)] := hl
  unfold T_X8_tellsAll at hT
  refine lv_iconst (v := 1) hx hb dX8_tellsAll_0 (by decide) ?_
  refine lv_istore_n (lv' := [(3, .int (1 : Int32)), (0, .ref (G.2.2.2 + 151)), (1, .int x1), (2, .int x2)]) hx hb dX8_tellsAll_1 rfl hl (by decide) rfl (fun ls hl => ?_)
  exact w_X8_tellsAll_2 X hr hk 5000 x1 x2 (1 : Int32) M _ _ ls hT h (lv_sub hl [1, 2, 3, 0] rfl)
/-! MockParcels$Sums.fewestClues(LMockParcels$Told;I)I -/
theorem dX8_fewestClues_0 : decode cX8_fewestClues 0 = .ok (.aload_n 1, 1) := by decide +kernel
theorem dX8_fewestClues_1 : decode cX8_fewestClues 1 = .ok (.getfield 114, 3) := by decide +kernel
theorem dX8_fewestClues_4 : decode cX8_fewestClues 4 = .ok (.bipush 8, 2) := by decide +kernel
theorem dX8_fewestClues_6 : decode cX8_fewestClues 6 = .ok (.invokestatic 51, 3) := by decide +kernel
theorem dX8_fewestClues_9 : decode cX8_fewestClues 9 = .ok (.istore_n 3, 1) := by decide +kernel
theorem dX8_fewestClues_10 : decode cX8_fewestClues 10 = .ok (.iload_n 2, 1) := by decide +kernel
theorem dX8_fewestClues_11 : decode cX8_fewestClues 11 = .ok (.bipush 16, 2) := by decide +kernel
theorem dX8_fewestClues_13 : decode cX8_fewestClues 13 = .ok (.invokestatic 51, 3) := by decide +kernel
theorem dX8_fewestClues_16 : decode cX8_fewestClues 16 = .ok (.istore 4, 2) := by decide +kernel
theorem dX8_fewestClues_18 : decode cX8_fewestClues 18 = .ok (.iconst 0, 1) := by decide +kernel
theorem dX8_fewestClues_19 : decode cX8_fewestClues 19 = .ok (.istore 5, 2) := by decide +kernel
theorem dX8_fewestClues_21 : decode cX8_fewestClues 21 = .ok (.iload 5, 2) := by decide +kernel
theorem dX8_fewestClues_23 : decode cX8_fewestClues 23 = .ok (.iload 4, 2) := by decide +kernel
theorem dX8_fewestClues_25 : decode cX8_fewestClues 25 = .ok (.if_icmp .ge 57, 3) := by decide +kernel
theorem dX8_fewestClues_28 : decode cX8_fewestClues 28 = .ok (.aload_n 0, 1) := by decide +kernel
theorem dX8_fewestClues_29 : decode cX8_fewestClues 29 = .ok (.getfield 27, 3) := by decide +kernel
theorem dX8_fewestClues_32 : decode cX8_fewestClues 32 = .ok (.iload 5, 2) := by decide +kernel
theorem dX8_fewestClues_34 : decode cX8_fewestClues 34 = .ok (.iconst 0, 1) := by decide +kernel
theorem dX8_fewestClues_35 : decode cX8_fewestClues 35 = .ok (.iastore, 1) := by decide +kernel
theorem dX8_fewestClues_36 : decode cX8_fewestClues 36 = .ok (.iconst 0, 1) := by decide +kernel
theorem dX8_fewestClues_37 : decode cX8_fewestClues 37 = .ok (.istore 6, 2) := by decide +kernel
theorem dX8_fewestClues_39 : decode cX8_fewestClues 39 = .ok (.iload 6, 2) := by decide +kernel
theorem dX8_fewestClues_41 : decode cX8_fewestClues 41 = .ok (.iload_n 3, 1) := by decide +kernel
theorem dX8_fewestClues_42 : decode cX8_fewestClues 42 = .ok (.if_icmp .ge 34, 3) := by decide +kernel
theorem dX8_fewestClues_45 : decode cX8_fewestClues 45 = .ok (.aload_n 0, 1) := by decide +kernel
theorem dX8_fewestClues_46 : decode cX8_fewestClues 46 = .ok (.getfield 27, 3) := by decide +kernel
theorem dX8_fewestClues_49 : decode cX8_fewestClues 49 = .ok (.iload 5, 2) := by decide +kernel
theorem dX8_fewestClues_51 : decode cX8_fewestClues 51 = .ok (.dup2, 1) := by decide +kernel
theorem dX8_fewestClues_52 : decode cX8_fewestClues 52 = .ok (.iaload, 1) := by decide +kernel
theorem dX8_fewestClues_53 : decode cX8_fewestClues 53 = .ok (.aload_n 1, 1) := by decide +kernel
theorem dX8_fewestClues_54 : decode cX8_fewestClues 54 = .ok (.getfield 120, 3) := by decide +kernel
theorem dX8_fewestClues_57 : decode cX8_fewestClues 57 = .ok (.iload 6, 2) := by decide +kernel
theorem dX8_fewestClues_59 : decode cX8_fewestClues 59 = .ok (.iaload, 1) := by decide +kernel
theorem dX8_fewestClues_60 : decode cX8_fewestClues 60 = .ok (.iload 5, 2) := by decide +kernel
theorem dX8_fewestClues_62 : decode cX8_fewestClues 62 = .ok (.ishr, 1) := by decide +kernel
theorem dX8_fewestClues_63 : decode cX8_fewestClues 63 = .ok (.iconst 1, 1) := by decide +kernel
theorem dX8_fewestClues_64 : decode cX8_fewestClues 64 = .ok (.iand, 1) := by decide +kernel
theorem dX8_fewestClues_65 : decode cX8_fewestClues 65 = .ok (.iload 6, 2) := by decide +kernel
theorem dX8_fewestClues_67 : decode cX8_fewestClues 67 = .ok (.ishl, 1) := by decide +kernel
theorem dX8_fewestClues_68 : decode cX8_fewestClues 68 = .ok (.ior, 1) := by decide +kernel
theorem dX8_fewestClues_69 : decode cX8_fewestClues 69 = .ok (.iastore, 1) := by decide +kernel
theorem dX8_fewestClues_70 : decode cX8_fewestClues 70 = .ok (.iinc 6 1, 3) := by decide +kernel
theorem dX8_fewestClues_73 : decode cX8_fewestClues 73 = .ok (.goto (-34), 3) := by decide +kernel
theorem dX8_fewestClues_76 : decode cX8_fewestClues 76 = .ok (.iinc 5 1, 3) := by decide +kernel
theorem dX8_fewestClues_79 : decode cX8_fewestClues 79 = .ok (.goto (-58), 3) := by decide +kernel
theorem dX8_fewestClues_82 : decode cX8_fewestClues 82 = .ok (.iload_n 3, 1) := by decide +kernel
theorem dX8_fewestClues_83 : decode cX8_fewestClues 83 = .ok (.istore 5, 2) := by decide +kernel
theorem dX8_fewestClues_85 : decode cX8_fewestClues 85 = .ok (.iconst 0, 1) := by decide +kernel
theorem dX8_fewestClues_86 : decode cX8_fewestClues 86 = .ok (.istore 6, 2) := by decide +kernel
theorem dX8_fewestClues_88 : decode cX8_fewestClues 88 = .ok (.iload 6, 2) := by decide +kernel
theorem dX8_fewestClues_90 : decode cX8_fewestClues 90 = .ok (.iconst 1, 1) := by decide +kernel
theorem dX8_fewestClues_91 : decode cX8_fewestClues 91 = .ok (.iload_n 3, 1) := by decide +kernel
theorem dX8_fewestClues_92 : decode cX8_fewestClues 92 = .ok (.ishl, 1) := by decide +kernel
theorem dX8_fewestClues_93 : decode cX8_fewestClues 93 = .ok (.if_icmp .ge 37, 3) := by decide +kernel
theorem dX8_fewestClues_96 : decode cX8_fewestClues 96 = .ok (.iload 6, 2) := by decide +kernel
theorem dX8_fewestClues_98 : decode cX8_fewestClues 98 = .ok (.invokestatic 106, 3) := by decide +kernel
theorem dX8_fewestClues_101 : decode cX8_fewestClues 101 = .ok (.iload 5, 2) := by decide +kernel
theorem dX8_fewestClues_103 : decode cX8_fewestClues 103 = .ok (.if_icmp .ge 21, 3) := by decide +kernel
theorem dX8_fewestClues_106 : decode cX8_fewestClues 106 = .ok (.aload_n 0, 1) := by decide +kernel
theorem dX8_fewestClues_107 : decode cX8_fewestClues 107 = .ok (.iload 6, 2) := by decide +kernel
theorem dX8_fewestClues_109 : decode cX8_fewestClues 109 = .ok (.iload 4, 2) := by decide +kernel
theorem dX8_fewestClues_111 : decode cX8_fewestClues 111 = .ok (.invokevirtual 123, 3) := by decide +kernel
theorem dX8_fewestClues_114 : decode cX8_fewestClues 114 = .ok (.ifCond .eq 10, 3) := by decide +kernel
theorem dX8_fewestClues_117 : decode cX8_fewestClues 117 = .ok (.iload 6, 2) := by decide +kernel
theorem dX8_fewestClues_119 : decode cX8_fewestClues 119 = .ok (.invokestatic 106, 3) := by decide +kernel
theorem dX8_fewestClues_122 : decode cX8_fewestClues 122 = .ok (.istore 5, 2) := by decide +kernel
theorem dX8_fewestClues_124 : decode cX8_fewestClues 124 = .ok (.iinc 6 1, 3) := by decide +kernel
theorem dX8_fewestClues_127 : decode cX8_fewestClues 127 = .ok (.goto (-39), 3) := by decide +kernel
theorem dX8_fewestClues_130 : decode cX8_fewestClues 130 = .ok (.iload 5, 2) := by decide +kernel
theorem dX8_fewestClues_132 : decode cX8_fewestClues 132 = .ok (.ireturn, 1) := by decide +kernel
def T_X8_fewestClues_124 (B88 : Int32 → Int32 → Int32 → Int32 → Mm → Prop) (o1 : Nat) (x3 : Int32) (x4 : Int32) (x5 : Int32) (x6 : Int32) (M : Mm) (K : Int32 → Mm → Prop) : Prop := (∀ y1 : Int32, y1 = x6 + (1 : Int32) → (B88 x3 x4 x5 y1 M))
set_option maxHeartbeats 4000000 in
set_option maxRecDepth 100000 in
theorem w_X8_fewestClues_124 {p : Program} {l : Launch} {e : Env} {s : State} {m : MethodId} {args : Array Value} {below : List Frame} {meth : Method} {c : Code} {G : fx_G} {K : Int32 → Mm → Prop} {B88 : Int32 → Int32 → Int32 → Int32 → Mm → Prop} {o1 : Nat} (ho1 : o1 ∈ id_Told) (X : fx_C G p s m c args cX8_fewestClues 7 RX8) (hr : meth.sig.returnType = (some .int)) (hk : meth.locks = false) (hB88 : ∀ (x3 : Int32) (x4 : Int32) (x5 : Int32) (x6 : Int32) (M : Mm) (H : Heap) (locs : List Loc) (ls : Array Slot), B88 x3 x4 x5 x6 M → fx_H G SH M s H locs → lv_has ls 7 [(0, .ref (G.2.2.2 + 151)), (3, .int x3), (4, .int x4), (5, .int x5), (6, .int x6)] → W p l e (fx_rm (1)) s m args below meth c H locs 0 0 (MQ below (va_Qi K (fx_R G SH) (fx_A G)) args s 0 0 (fx_A G)) (F0 m 88 ls [])) : ∀ (x3 : Int32) (x4 : Int32) (x5 : Int32) (x6 : Int32) (M : Mm) (H : Heap) (locs : List Loc) (ls : Array Slot), T_X8_fewestClues_124 B88 o1 x3 x4 x5 x6 M K → fx_H G SH M s H locs → lv_has ls 7 [(0, .ref (G.2.2.2 + 151)), (3, .int x3), (4, .int x4), (5, .int x5), (6, .int x6)] → W p l e (fx_rm (1)) s m args below meth c H locs 0 0 (MQ below (va_Qi K (fx_R G SH) (fx_A G)) args s 0 0 (fx_A G)) (F0 m 124 ls []) := by
  obtain ⟨⟨hx, hb, hml, hown, hts⟩, hK, hQ⟩ := id X
  intro x3 x4 x5 x6 M H locs ls hT h hl
  unfold T_X8_fewestClues_124 at hT
  obtain ⟨y1, ey1⟩ : ∃ z : Int32, z = x6 + (1 : Int32) := ⟨_, rfl⟩
  have hT := hT y1 ey1
  refine lv_iinc (v := y1) (lv' := [(6, .int y1), (0, .ref (G.2.2.2 + 151)), (3, .int x3), (4, .int x4), (5, .int x5)]) hx hb dX8_fewestClues_124 hl (k := 4) rfl (by rw [ey1]; rfl) (by decide) rfl (fun ls hl => ?_)
  refine lv_goto (tgt := 88) hx hb dX8_fewestClues_127 (by decide) ?_
  exact hB88 x3 x4 x5 y1 M _ _ ls hT h (lv_sub hl [1, 2, 3, 4, 0] rfl)
def T_X8_fewestClues_88 (o1 : Nat) : Nat → Int32 → Int32 → Int32 → Int32 → Mm → (Int32 → Mm → Prop) → Prop
  | 0, _, _, _, _, _, _ => False
  | n + 1, x3, x4, x5, x6, M, K => ((((1 : Int32) <<< (x3 &&& 31)) ≤ x6 → (K x5 M)) ∧ (¬ ((1 : Int32) <<< (x3 &&& 31)) ≤ x6 → (T_J6_bitCount_0f7a4 x6 M (fun r5 M4 => ((x5 ≤ r5 → (T_X8_fewestClues_124 (fun x3 x4 x5 x6 M => T_X8_fewestClues_88 o1 n x3 x4 x5 x6 M K) o1 x3 x4 x5 x6 M4 K)) ∧ (¬ x5 ≤ r5 → (T_X8_tellsAll x6 x4 M4 (fun r9 M8 => ((r9 = 0 → (T_X8_fewestClues_124 (fun x3 x4 x5 x6 M => T_X8_fewestClues_88 o1 n x3 x4 x5 x6 M K) o1 x3 x4 x5 x6 M8 K)) ∧ (¬ r9 = 0 → (T_J6_bitCount_0f7a4 x6 M8 (fun r13 M12 => (T_X8_fewestClues_124 (fun x3 x4 x5 x6 M => T_X8_fewestClues_88 o1 n x3 x4 x5 x6 M K) o1 x3 x4 r13 x6 M12 K)))))))))))))
set_option maxHeartbeats 4000000 in
set_option maxRecDepth 100000 in
theorem w_X8_fewestClues_88 {p : Program} {l : Launch} {e : Env} {s : State} {m : MethodId} {args : Array Value} {below : List Frame} {meth : Method} {c : Code} {G : fx_G} {K : Int32 → Mm → Prop} {o1 : Nat} (ho1 : o1 ∈ id_Told) (X : fx_C G p s m c args cX8_fewestClues 7 RX8) (hr : meth.sig.returnType = (some .int)) (hk : meth.locks = false) : ∀ (n : Nat) (x3 : Int32) (x4 : Int32) (x5 : Int32) (x6 : Int32) (M : Mm) (H : Heap) (locs : List Loc) (ls : Array Slot), T_X8_fewestClues_88 o1 n x3 x4 x5 x6 M K → fx_H G SH M s H locs → lv_has ls 7 [(0, .ref (G.2.2.2 + 151)), (3, .int x3), (4, .int x4), (5, .int x5), (6, .int x6)] → W p l e (fx_rm (1)) s m args below meth c H locs 0 0 (MQ below (va_Qi K (fx_R G SH) (fx_A G)) args s 0 0 (fx_A G)) (F0 m 88 ls []) := by
  obtain ⟨⟨hx, hb, hml, hown, hts⟩, hK, hQ⟩ := id X
  intro n
  induction n with
  | zero =>
    intro x3 x4 x5 x6 M H locs ls hT
    exact hT.elim
  | succ n ih =>
    intro x3 x4 x5 x6 M H locs ls hT h hl
    rw [T_X8_fewestClues_88] at hT
    refine lv_iload hx hb dX8_fewestClues_88 (lv_at hl 4 rfl) ?_
    refine lv_iconst (v := 1) hx hb dX8_fewestClues_90 (by decide) ?_
    refine lv_iload_n hx hb dX8_fewestClues_91 rfl (lv_at hl 1 rfl) ?_
    refine lv_ishl hx hb dX8_fewestClues_92 ?_
    refine lv_icmp_ge (tgt := 130) hx hb dX8_fewestClues_93 (by decide) (fun hc2 => ?_) (fun hc2 => ?_)
    · have hT := hT.1 hc2
      refine lv_iload hx hb dX8_fewestClues_130 (lv_at hl 3 rfl) ?_
      exact fx_iret X hr hk h hT dX8_fewestClues_132
    · have hT := hT.2 hc2
      refine lv_iload hx hb dX8_fewestClues_96 (lv_at hl 4 rfl) ?_
      refine fx_si X h ym_J6_bitCount_0f7a4 yt_J6_bitCount_0f7a4 (fx_s5 (List.mem_of_getElem? (i := 189) rfl) rfl) (c_J6_bitCount_0f7a4 l G hT) (As := [.int x6]) (rest := []) rfl rfl ⟨Nat.le_of_ble_eq_true rfl, Nat.le_of_ble_eq_true rfl⟩ ⟨Nat.le_refl _, Nat.le_refl _⟩ hl.1 (Nat.le_of_ble_eq_true rfl) dX8_fewestClues_98 (fun r5 M4 H locs hT h => ?_)
      refine lv_iload hx hb dX8_fewestClues_101 (lv_at hl 3 rfl) ?_
      refine lv_icmp_ge (tgt := 124) hx hb dX8_fewestClues_103 (by decide) (fun hc6 => ?_) (fun hc6 => ?_)
      · have hT := hT.1 hc6
        exact w_X8_fewestClues_124 ho1 X hr hk (B88 := (fun x3 x4 x5 x6 M => T_X8_fewestClues_88 o1 n x3 x4 x5 x6 M K)) ih x3 x4 x5 x6 M4 _ _ ls hT h (lv_sub hl [0, 1, 2, 3, 4] rfl)
      · have hT := hT.2 hc6
        refine lv_aload_n hx hb dX8_fewestClues_106 rfl (lv_at hl 0 rfl) ?_
        refine lv_iload hx hb dX8_fewestClues_107 (lv_at hl 4 rfl) ?_
        refine lv_iload hx hb dX8_fewestClues_109 (lv_at hl 2 rfl) ?_
        refine fx_vi X h ym_X8_tellsAll yi_X8_tellsAll ys_X8_tellsAll (fx_s5 (List.mem_of_getElem? (i := 207) rfl) rfl) sh_151 rfl (c_X8_tellsAll l G hT) (As := [.int x6, .int x4]) (rest := []) rfl rfl ⟨Nat.le_of_ble_eq_true rfl, Nat.le_of_ble_eq_true rfl⟩ ⟨Nat.le_refl _, Nat.le_refl _⟩ hl.1 (Nat.le_of_ble_eq_true rfl) dX8_fewestClues_111 (fun r9 M8 H locs hT h => ?_)
        refine lv_if_eq (tgt := 124) hx hb dX8_fewestClues_114 (by decide) (fun hc10 => ?_) (fun hc10 => ?_)
        · have hT := hT.1 hc10
          exact w_X8_fewestClues_124 ho1 X hr hk (B88 := (fun x3 x4 x5 x6 M => T_X8_fewestClues_88 o1 n x3 x4 x5 x6 M K)) ih x3 x4 x5 x6 M8 _ _ ls hT h (lv_sub hl [0, 1, 2, 3, 4] rfl)
        · have hT := hT.2 hc10
          refine lv_iload hx hb dX8_fewestClues_117 (lv_at hl 4 rfl) ?_
          refine fx_si X h ym_J6_bitCount_0f7a4 yt_J6_bitCount_0f7a4 (fx_s5 (List.mem_of_getElem? (i := 189) rfl) rfl) (c_J6_bitCount_0f7a4 l G hT) (As := [.int x6]) (rest := []) rfl rfl ⟨Nat.le_of_ble_eq_true rfl, Nat.le_of_ble_eq_true rfl⟩ ⟨Nat.le_refl _, Nat.le_refl _⟩ hl.1 (Nat.le_of_ble_eq_true rfl) dX8_fewestClues_119 (fun r13 M12 H locs hT h => ?_)
          refine lv_istore (lv' := [(5, .int r13), (0, .ref (G.2.2.2 + 151)), (3, .int x3), (4, .int x4), (6, .int x6)]) hx hb dX8_fewestClues_122 hl (by decide) rfl (fun ls hl => ?_)
          exact w_X8_fewestClues_124 ho1 X hr hk (B88 := (fun x3 x4 x5 x6 M => T_X8_fewestClues_88 o1 n x3 x4 x5 x6 M K)) ih x3 x4 r13 x6 M12 _ _ ls hT h (lv_sub hl [1, 2, 3, 0, 4] rfl)
def T_X8_fewestClues_39 (B21 : Int32 → Int32 → Int32 → Mm → Prop) (o1 : Nat) : Nat → Int32 → Int32 → Int32 → Int32 → Mm → (Int32 → Mm → Prop) → Prop
  | 0, _, _, _, _, _, _ => False
  | n + 1, x3, x4, x5, x6, M, K => ((x3 ≤ x6 → (∀ y15 : Int32, y15 = x5 + (1 : Int32) → (B21 x3 x4 y15 M))) ∧ (¬ x3 ≤ x6 → (vp_in x5 16 ∧ (vp_in x6 8 ∧ (vp_in x5 16 ∧ (∀ M18 : Mm, M18 = m_up M 157 (x5).toNatClampNeg ((M 157 (x5).toNatClampNeg) ||| ((((M (rf o1 6) (x6).toNatClampNeg) >>> (x5 &&& 31)) &&& (1 : Int32)) <<< (x6 &&& 31))) → (∀ y20 : Int32, y20 = x6 + (1 : Int32) → (T_X8_fewestClues_39 B21 o1 n x3 x4 x5 y20 M18 K))))))))
set_option maxHeartbeats 4000000 in
set_option maxRecDepth 100000 in
theorem w_X8_fewestClues_39 {p : Program} {l : Launch} {e : Env} {s : State} {m : MethodId} {args : Array Value} {below : List Frame} {meth : Method} {c : Code} {G : fx_G} {K : Int32 → Mm → Prop} {B21 : Int32 → Int32 → Int32 → Mm → Prop} {o1 : Nat} (ho1 : o1 ∈ id_Told) (X : fx_C G p s m c args cX8_fewestClues 7 RX8) (hr : meth.sig.returnType = (some .int)) (hk : meth.locks = false) (hB21 : ∀ (x3 : Int32) (x4 : Int32) (x5 : Int32) (M : Mm) (H : Heap) (locs : List Loc) (ls : Array Slot), B21 x3 x4 x5 M → fx_H G SH M s H locs → lv_has ls 7 [(0, .ref (G.2.2.2 + 151)), (1, .ref (G.2.2.2 + o1)), (3, .int x3), (4, .int x4), (5, .int x5)] → W p l e (fx_rm (1)) s m args below meth c H locs 0 0 (MQ below (va_Qi K (fx_R G SH) (fx_A G)) args s 0 0 (fx_A G)) (F0 m 21 ls [])) : ∀ (n : Nat) (x3 : Int32) (x4 : Int32) (x5 : Int32) (x6 : Int32) (M : Mm) (H : Heap) (locs : List Loc) (ls : Array Slot), T_X8_fewestClues_39 B21 o1 n x3 x4 x5 x6 M K → fx_H G SH M s H locs → lv_has ls 7 [(0, .ref (G.2.2.2 + 151)), (1, .ref (G.2.2.2 + o1)), (3, .int x3), (4, .int x4), (5, .int x5), (6, .int x6)] → W p l e (fx_rm (1)) s m args below meth c H locs 0 0 (MQ below (va_Qi K (fx_R G SH) (fx_A G)) args s 0 0 (fx_A G)) (F0 m 39 ls []) := by
  obtain ⟨⟨hx, hb, hml, hown, hts⟩, hK, hQ⟩ := id X
  intro n
  induction n with
  | zero =>
    intro x3 x4 x5 x6 M H locs ls hT
    exact hT.elim
  | succ n ih =>
    intro x3 x4 x5 x6 M H locs ls hT h hl
    rw [T_X8_fewestClues_39] at hT
    refine lv_iload hx hb dX8_fewestClues_39 (lv_at hl 5 rfl) ?_
    refine lv_iload_n hx hb dX8_fewestClues_41 rfl (lv_at hl 2 rfl) ?_
    refine lv_icmp_ge (tgt := 76) hx hb dX8_fewestClues_42 (by decide) (fun hc14 => ?_) (fun hc14 => ?_)
    · have hT := hT.1 hc14
      obtain ⟨y15, ey15⟩ : ∃ z : Int32, z = x5 + (1 : Int32) := ⟨_, rfl⟩
      have hT := hT y15 ey15
      refine lv_iinc (v := y15) (lv' := [(5, .int y15), (0, .ref (G.2.2.2 + 151)), (1, .ref (G.2.2.2 + o1)), (3, .int x3), (4, .int x4), (6, .int x6)]) hx hb dX8_fewestClues_76 hl (k := 4) rfl (by rw [ey15]; rfl) (by decide) rfl (fun ls hl => ?_)
      refine lv_goto (tgt := 21) hx hb dX8_fewestClues_79 (by decide) ?_
      exact hB21 x3 x4 y15 M _ _ ls hT h (lv_sub hl [1, 2, 3, 4, 0] rfl)
    · have hT := hT.2 hc14
      refine lv_aload_n hx hb dX8_fewestClues_45 rfl (lv_at hl 0 rfl) ?_
      refine fx_getR X h (k := 151) (j := 5) (r := 157) sh_151 rfl fl_RX8_27 dX8_fewestClues_46 ?_
      refine lv_iload hx hb dX8_fewestClues_49 (lv_at hl 4 rfl) ?_
      refine lv_dup2_11 hx hb dX8_fewestClues_51 rfl rfl ?_
      obtain ⟨hi16, hT⟩ := hT
      refine fx_iald X h (k := 157) sh_157 hi16 dX8_fewestClues_52 ?_
      refine lv_aload_n hx hb dX8_fewestClues_53 rfl (lv_at hl 1 rfl) ?_
      refine fx_getR X h (k := o1) (j := 6) (r := (rf o1 6)) (sc_Told o1 ho1) rfl fl_RX8_120 dX8_fewestClues_54 ?_
      refine lv_iload hx hb dX8_fewestClues_57 (lv_at hl 5 rfl) ?_
      obtain ⟨hi17, hT⟩ := hT
      refine fx_iald X h (k := (rf o1 6)) (sa_Told_6 o1 ho1) hi17 dX8_fewestClues_59 ?_
      refine lv_iload hx hb dX8_fewestClues_60 (lv_at hl 4 rfl) ?_
      refine lv_ishr hx hb dX8_fewestClues_62 ?_
      refine lv_iconst (v := 1) hx hb dX8_fewestClues_63 (by decide) ?_
      refine lv_iand hx hb dX8_fewestClues_64 ?_
      refine lv_iload hx hb dX8_fewestClues_65 (lv_at hl 5 rfl) ?_
      refine lv_ishl hx hb dX8_fewestClues_67 ?_
      refine lv_ior hx hb dX8_fewestClues_68 ?_
      obtain ⟨hi19, hT⟩ := hT
      refine fx_iast X h (k := 157) sh_157 hi19 dX8_fewestClues_69 (fun H locs h => ?_)
      obtain ⟨M18, eM18⟩ : ∃ z : Mm, z = m_up M 157 (x5).toNatClampNeg ((M 157 (x5).toNatClampNeg) ||| ((((M (rf o1 6) (x6).toNatClampNeg) >>> (x5 &&& 31)) &&& (1 : Int32)) <<< (x6 &&& 31))) := ⟨_, rfl⟩
      have hT := hT M18 eM18
      rw [← eM18] at h
      obtain ⟨y20, ey20⟩ : ∃ z : Int32, z = x6 + (1 : Int32) := ⟨_, rfl⟩
      have hT := hT y20 ey20
      refine lv_iinc (v := y20) (lv' := [(6, .int y20), (0, .ref (G.2.2.2 + 151)), (1, .ref (G.2.2.2 + o1)), (3, .int x3), (4, .int x4), (5, .int x5)]) hx hb dX8_fewestClues_70 hl (k := 5) rfl (by rw [ey20]; rfl) (by decide) rfl (fun ls hl => ?_)
      refine lv_goto (tgt := 39) hx hb dX8_fewestClues_73 (by decide) ?_
      exact ih x3 x4 x5 y20 M18 _ _ ls hT h (lv_sub hl [1, 2, 3, 4, 5, 0] rfl)
def T_X8_fewestClues_21 (o1 : Nat) : Nat → Int32 → Int32 → Int32 → Mm → (Int32 → Mm → Prop) → Prop
  | 0, _, _, _, _, _ => False
  | n + 1, x3, x4, x5, M, K => ((x4 ≤ x5 → (T_X8_fewestClues_88 o1 5000 x3 x4 x3 (0 : Int32) M K)) ∧ (¬ x4 ≤ x5 → (vp_in x5 16 ∧ (∀ M22 : Mm, M22 = m_up M 157 (x5).toNatClampNeg (0 : Int32) → (T_X8_fewestClues_39 (fun x3 x4 x5 M => T_X8_fewestClues_21 o1 n x3 x4 x5 M K) o1 5000 x3 x4 x5 (0 : Int32) M22 K)))))
set_option maxHeartbeats 4000000 in
set_option maxRecDepth 100000 in
theorem w_X8_fewestClues_21 {p : Program} {l : Launch} {e : Env} {s : State} {m : MethodId} {args : Array Value} {below : List Frame} {meth : Method} {c : Code} {G : fx_G} {K : Int32 → Mm → Prop} {o1 : Nat} (ho1 : o1 ∈ id_Told) (X : fx_C G p s m c args cX8_fewestClues 7 RX8) (hr : meth.sig.returnType = (some .int)) (hk : meth.locks = false) : ∀ (n : Nat) (x3 : Int32) (x4 : Int32) (x5 : Int32) (M : Mm) (H : Heap) (locs : List Loc) (ls : Array Slot), T_X8_fewestClues_21 o1 n x3 x4 x5 M K → fx_H G SH M s H locs → lv_has ls 7 [(0, .ref (G.2.2.2 + 151)), (1, .ref (G.2.2.2 + o1)), (3, .int x3), (4, .int x4), (5, .int x5)] → W p l e (fx_rm (1)) s m args below meth c H locs 0 0 (MQ below (va_Qi K (fx_R G SH) (fx_A G)) args s 0 0 (fx_A G)) (F0 m 21 ls []) := by
  obtain ⟨⟨hx, hb, hml, hown, hts⟩, hK, hQ⟩ := id X
  intro n
  induction n with
  | zero =>
    intro x3 x4 x5 M H locs ls hT
    exact hT.elim
  | succ n ih =>
    intro x3 x4 x5 M H locs ls hT h hl
    rw [T_X8_fewestClues_21] at hT
    refine lv_iload hx hb dX8_fewestClues_21 (lv_at hl 4 rfl) ?_
    refine lv_iload hx hb dX8_fewestClues_23 (lv_at hl 3 rfl) ?_
    refine lv_icmp_ge (tgt := 82) hx hb dX8_fewestClues_25 (by decide) (fun hc21 => ?_) (fun hc21 => ?_)
    · have hT := hT.1 hc21
      refine lv_iload_n hx hb dX8_fewestClues_82 rfl (lv_at hl 2 rfl) ?_
      refine lv_istore (lv' := [(5, .int x3), (0, .ref (G.2.2.2 + 151)), (1, .ref (G.2.2.2 + o1)), (3, .int x3), (4, .int x4)]) hx hb dX8_fewestClues_83 hl (by decide) rfl (fun ls hl => ?_)
      refine lv_iconst (v := 0) hx hb dX8_fewestClues_85 (by decide) ?_
      refine lv_istore (lv' := [(6, .int (0 : Int32)), (5, .int x3), (0, .ref (G.2.2.2 + 151)), (1, .ref (G.2.2.2 + o1)), (3, .int x3), (4, .int x4)]) hx hb dX8_fewestClues_86 hl (by decide) rfl (fun ls hl => ?_)
      exact w_X8_fewestClues_88 ho1 X hr hk 5000 x3 x4 x3 (0 : Int32) M _ _ ls hT h (lv_sub hl [2, 4, 5, 1, 0] rfl)
    · have hT := hT.2 hc21
      refine lv_aload_n hx hb dX8_fewestClues_28 rfl (lv_at hl 0 rfl) ?_
      refine fx_getR X h (k := 151) (j := 5) (r := 157) sh_151 rfl fl_RX8_27 dX8_fewestClues_29 ?_
      refine lv_iload hx hb dX8_fewestClues_32 (lv_at hl 4 rfl) ?_
      refine lv_iconst (v := 0) hx hb dX8_fewestClues_34 (by decide) ?_
      obtain ⟨hi23, hT⟩ := hT
      refine fx_iast X h (k := 157) sh_157 hi23 dX8_fewestClues_35 (fun H locs h => ?_)
      obtain ⟨M22, eM22⟩ : ∃ z : Mm, z = m_up M 157 (x5).toNatClampNeg (0 : Int32) := ⟨_, rfl⟩
      have hT := hT M22 eM22
      rw [← eM22] at h
      refine lv_iconst (v := 0) hx hb dX8_fewestClues_36 (by decide) ?_
      refine lv_istore (lv' := [(6, .int (0 : Int32)), (0, .ref (G.2.2.2 + 151)), (1, .ref (G.2.2.2 + o1)), (3, .int x3), (4, .int x4), (5, .int x5)]) hx hb dX8_fewestClues_37 hl (by decide) rfl (fun ls hl => ?_)
      exact w_X8_fewestClues_39 ho1 X hr hk (B21 := (fun x3 x4 x5 M => T_X8_fewestClues_21 o1 n x3 x4 x5 M K)) ih 5000 x3 x4 x5 (0 : Int32) M22 _ _ ls hT h (lv_sub hl [1, 2, 3, 4, 5, 0] rfl)
def T_X8_fewestClues (o1 : Nat) (x2 : Int32) (M : Mm) (K : Int32 → Mm → Prop) : Prop := (∀ y24 : Int32, y24 = (if (8 : Int32) < (M o1 12) then (8 : Int32) else (M o1 12)) → (∀ y25 : Int32, y25 = (if (16 : Int32) < x2 then (16 : Int32) else x2) → (T_X8_fewestClues_21 o1 5000 y24 y25 (0 : Int32) M K)))
set_option maxHeartbeats 4000000 in
set_option maxRecDepth 100000 in
theorem c_X8_fewestClues (l : Launch) (G : fx_G) {o1 : Nat} (ho1 : o1 ∈ id_Told) {x2 : Int32} {M : Mm} {K : Int32 → Mm → Prop} (hT : T_X8_fewestClues o1 x2 M K) : Met l yX8_fewestClues (fx_ws yX8_fewestClues cX8_fewestClues 7 (some .int)) (fx_rm (1)) (va_Pc [.ref (G.2.2.2 + 151), .ref (G.2.2.2 + o1), .int x2] (fx_P G SH M)) (va_Qi K (fx_R G SH) (fx_A G)) 0 0 (fx_A G) := by
  refine fx_met (own := RX8) (by decide +kernel) rfl (Nat.le_of_ble_eq_true rfl) (fun p e s m below meth c X hr hk h ls hl => ?_)
  obtain ⟨⟨hx, hb, hml, hown, hts⟩, hK, hQ⟩ := id X
  have hl : lv_has ls 7 [(0, .ref (G.2.2.2 + 151)), (1, .ref (G.2.2.2 + o1)), (2, .int x2)] := hl
  unfold T_X8_fewestClues at hT
  refine lv_aload_n hx hb dX8_fewestClues_0 rfl (lv_at hl 1 rfl) ?_
  refine fx_getI X h (k := o1) (j := 12) (sc_Told o1 ho1) rfl fl_RX8_114 dX8_fewestClues_1 ?_
  refine lv_bipush (v := 8) hx hb dX8_fewestClues_4 (by decide) ?_
  refine va_mmin hx hb (hml.trans hl.1.symm) hown (hts _ (fx_s5 (List.mem_of_getElem? (i := 103) rfl) rfl)) (hts _ mt_min_s) (hts _ mt_i) (hts _ mt_min_c) (Nat.le_of_ble_eq_true rfl) (Nat.le_of_ble_eq_true rfl) (Nat.le_refl _) (Nat.le_refl _) dX8_fewestClues_6 ?_
  refine lv_topi (fun y24 ey24 => ?_)
  have hT := hT y24 ey24
  refine lv_istore_n (lv' := [(3, .int y24), (0, .ref (G.2.2.2 + 151)), (1, .ref (G.2.2.2 + o1)), (2, .int x2)]) hx hb dX8_fewestClues_9 rfl hl (by decide) rfl (fun ls hl => ?_)
  refine lv_iload_n hx hb dX8_fewestClues_10 rfl (lv_at hl 3 rfl) ?_
  refine lv_bipush (v := 16) hx hb dX8_fewestClues_11 (by decide) ?_
  refine va_mmin hx hb (hml.trans hl.1.symm) hown (hts _ (fx_s5 (List.mem_of_getElem? (i := 103) rfl) rfl)) (hts _ mt_min_s) (hts _ mt_i) (hts _ mt_min_c) (Nat.le_of_ble_eq_true rfl) (Nat.le_of_ble_eq_true rfl) (Nat.le_refl _) (Nat.le_refl _) dX8_fewestClues_13 ?_
  refine lv_topi (fun y25 ey25 => ?_)
  have hT := hT y25 ey25
  refine lv_istore (lv' := [(4, .int y25), (3, .int y24), (0, .ref (G.2.2.2 + 151)), (1, .ref (G.2.2.2 + o1)), (2, .int x2)]) hx hb dX8_fewestClues_16 hl (by decide) rfl (fun ls hl => ?_)
  refine lv_iconst (v := 0) hx hb dX8_fewestClues_18 (by decide) ?_
  refine lv_istore (lv' := [(5, .int (0 : Int32)), (4, .int y25), (3, .int y24), (0, .ref (G.2.2.2 + 151)), (1, .ref (G.2.2.2 + o1)), (2, .int x2)]) hx hb dX8_fewestClues_19 hl (by decide) rfl (fun ls hl => ?_)
  exact w_X8_fewestClues_21 ho1 X hr hk 5000 y24 y25 (0 : Int32) M _ _ ls hT h (lv_sub hl [3, 4, 2, 1, 0] rfl)
/-! MockParcels$Sums.divisor(II)I -/
theorem dX8_divisor_0 : decode cX8_divisor 0 = .ok (.iload_n 1, 1) := by decide +kernel
theorem dX8_divisor_1 : decode cX8_divisor 1 = .ok (.istore_n 3, 1) := by decide +kernel
theorem dX8_divisor_2 : decode cX8_divisor 2 = .ok (.iload_n 2, 1) := by decide +kernel
theorem dX8_divisor_3 : decode cX8_divisor 3 = .ok (.istore 4, 2) := by decide +kernel
theorem dX8_divisor_5 : decode cX8_divisor 5 = .ok (.iconst 0, 1) := by decide +kernel
theorem dX8_divisor_6 : decode cX8_divisor 6 = .ok (.istore 5, 2) := by decide +kernel
theorem dX8_divisor_8 : decode cX8_divisor 8 = .ok (.iload 5, 2) := by decide +kernel
theorem dX8_divisor_10 : decode cX8_divisor 10 = .ok (.bipush 64, 2) := by decide +kernel
theorem dX8_divisor_12 : decode cX8_divisor 12 = .ok (.if_icmp .ge 27, 3) := by decide +kernel
theorem dX8_divisor_15 : decode cX8_divisor 15 = .ok (.iload 4, 2) := by decide +kernel
theorem dX8_divisor_17 : decode cX8_divisor 17 = .ok (.ifCond .eq 22, 3) := by decide +kernel
theorem dX8_divisor_20 : decode cX8_divisor 20 = .ok (.iload_n 3, 1) := by decide +kernel
theorem dX8_divisor_21 : decode cX8_divisor 21 = .ok (.iload 4, 2) := by decide +kernel
theorem dX8_divisor_23 : decode cX8_divisor 23 = .ok (.irem, 1) := by decide +kernel
theorem dX8_divisor_24 : decode cX8_divisor 24 = .ok (.istore 6, 2) := by decide +kernel
theorem dX8_divisor_26 : decode cX8_divisor 26 = .ok (.iload 4, 2) := by decide +kernel
theorem dX8_divisor_28 : decode cX8_divisor 28 = .ok (.istore_n 3, 1) := by decide +kernel
theorem dX8_divisor_29 : decode cX8_divisor 29 = .ok (.iload 6, 2) := by decide +kernel
theorem dX8_divisor_31 : decode cX8_divisor 31 = .ok (.istore 4, 2) := by decide +kernel
theorem dX8_divisor_33 : decode cX8_divisor 33 = .ok (.iinc 5 1, 3) := by decide +kernel
theorem dX8_divisor_36 : decode cX8_divisor 36 = .ok (.goto (-28), 3) := by decide +kernel
theorem dX8_divisor_39 : decode cX8_divisor 39 = .ok (.iload_n 3, 1) := by decide +kernel
theorem dX8_divisor_40 : decode cX8_divisor 40 = .ok (.ireturn, 1) := by decide +kernel
def T_X8_divisor_8 : Nat → Int32 → Int32 → Int32 → Mm → (Int32 → Mm → Prop) → Prop
  | 0, _, _, _, _, _ => False
  | n + 1, x3, x4, x5, M, K => (((64 : Int32) ≤ x5 → (K x3 M)) ∧ (¬ (64 : Int32) ≤ x5 → ((x4 = 0 → (K x3 M)) ∧ (¬ x4 = 0 → (¬ x4 = 0 ∧ (∀ y4 : Int32, y4 = (x3 - x3 / x4 * x4) → (∀ y5 : Int32, y5 = x5 + (1 : Int32) → (T_X8_divisor_8 n x4 y4 y5 M K))))))))
set_option maxHeartbeats 4000000 in
set_option maxRecDepth 100000 in
theorem w_X8_divisor_8 {p : Program} {l : Launch} {e : Env} {s : State} {m : MethodId} {args : Array Value} {below : List Frame} {meth : Method} {c : Code} {G : fx_G} {K : Int32 → Mm → Prop} (X : fx_C G p s m c args cX8_divisor 7 RX8) (hr : meth.sig.returnType = (some .int)) (hk : meth.locks = false) : ∀ (n : Nat) (x3 : Int32) (x4 : Int32) (x5 : Int32) (M : Mm) (H : Heap) (locs : List Loc) (ls : Array Slot), T_X8_divisor_8 n x3 x4 x5 M K → fx_H G SH M s H locs → lv_has ls 7 [(3, .int x3), (4, .int x4), (5, .int x5)] → W p l e (fx_rm (0)) s m args below meth c H locs 0 0 (MQ below (va_Qi K (fx_R G SH) (fx_A G)) args s 0 0 (fx_A G)) (F0 m 8 ls []) := by
  obtain ⟨⟨hx, hb, hml, hown, hts⟩, hK, hQ⟩ := id X
  intro n
  induction n with
  | zero =>
    intro x3 x4 x5 M H locs ls hT
    exact hT.elim
  | succ n ih =>
    intro x3 x4 x5 M H locs ls hT h hl
    rw [T_X8_divisor_8] at hT
    refine lv_iload hx hb dX8_divisor_8 (lv_at hl 2 rfl) ?_
    refine lv_bipush (v := 64) hx hb dX8_divisor_10 (by decide) ?_
    refine lv_icmp_ge (tgt := 39) hx hb dX8_divisor_12 (by decide) (fun hc1 => ?_) (fun hc1 => ?_)
    · have hT := hT.1 hc1
      refine lv_iload_n hx hb dX8_divisor_39 rfl (lv_at hl 0 rfl) ?_
      exact fx_iret X hr hk h hT dX8_divisor_40
    · have hT := hT.2 hc1
      refine lv_iload hx hb dX8_divisor_15 (lv_at hl 1 rfl) ?_
      refine lv_if_eq (tgt := 39) hx hb dX8_divisor_17 (by decide) (fun hc2 => ?_) (fun hc2 => ?_)
      · have hT := hT.1 hc2
        refine lv_iload_n hx hb dX8_divisor_39 rfl (lv_at hl 0 rfl) ?_
        exact fx_iret X hr hk h hT dX8_divisor_40
      · have hT := hT.2 hc2
        refine lv_iload_n hx hb dX8_divisor_20 rfl (lv_at hl 0 rfl) ?_
        refine lv_iload hx hb dX8_divisor_21 (lv_at hl 1 rfl) ?_
        obtain ⟨hz3, hT⟩ := hT
        refine lv_irem hx hb dX8_divisor_23 hz3 ?_
        refine lv_topi (fun y4 ey4 => ?_)
        have hT := hT y4 ey4
        refine lv_istore (lv' := [(6, .int y4), (3, .int x3), (4, .int x4), (5, .int x5)]) hx hb dX8_divisor_24 hl (by decide) rfl (fun ls hl => ?_)
        refine lv_iload hx hb dX8_divisor_26 (lv_at hl 2 rfl) ?_
        refine lv_istore_n (lv' := [(3, .int x4), (6, .int y4), (4, .int x4), (5, .int x5)]) hx hb dX8_divisor_28 rfl hl (by decide) rfl (fun ls hl => ?_)
        refine lv_iload hx hb dX8_divisor_29 (lv_at hl 1 rfl) ?_
        refine lv_istore (lv' := [(4, .int y4), (3, .int x4), (6, .int y4), (5, .int x5)]) hx hb dX8_divisor_31 hl (by decide) rfl (fun ls hl => ?_)
        obtain ⟨y5, ey5⟩ : ∃ z : Int32, z = x5 + (1 : Int32) := ⟨_, rfl⟩
        have hT := hT y5 ey5
        refine lv_iinc (v := y5) (lv' := [(5, .int y5), (4, .int y4), (3, .int x4), (6, .int y4)]) hx hb dX8_divisor_33 hl (k := 3) rfl (by rw [ey5]; rfl) (by decide) rfl (fun ls hl => ?_)
        refine lv_goto (tgt := 8) hx hb dX8_divisor_36 (by decide) ?_
        exact ih x4 y4 y5 M _ _ ls hT h (lv_sub hl [2, 1, 0] rfl)
def T_X8_divisor (x1 : Int32) (x2 : Int32) (M : Mm) (K : Int32 → Mm → Prop) : Prop := (T_X8_divisor_8 5000 x1 x2 (0 : Int32) M K)
set_option maxHeartbeats 4000000 in
set_option maxRecDepth 100000 in
theorem c_X8_divisor (l : Launch) (G : fx_G) {x1 : Int32} {x2 : Int32} {M : Mm} {K : Int32 → Mm → Prop} (hT : T_X8_divisor x1 x2 M K) : Met l yX8_divisor (fx_ws yX8_divisor cX8_divisor 7 (some .int)) (fx_rm (0)) (va_Pc [.ref (G.2.2.2 + 151), .int x1, .int x2] (fx_P G SH M)) (va_Qi K (fx_R G SH) (fx_A G)) 0 0 (fx_A G) := by
  refine fx_met (own := RX8) (by decide +kernel) rfl (Nat.le_of_ble_eq_true rfl) (fun p e s m below meth c X hr hk h ls hl => ?_)
  obtain ⟨⟨hx, hb, hml, hown, hts⟩, hK, hQ⟩ := id X
  have hl : lv_has ls 7 [(0, .ref (G.2.2.2 + 151)), (1, .int x1), (2, .int x2)] := hl
  unfold T_X8_divisor at hT
  refine lv_iload_n hx hb dX8_divisor_0 rfl (lv_at hl 1 rfl) ?_
  refine lv_istore_n (lv' := [(3, .int x1), (0, .ref (G.2.2.2 + 151)), (1, .int x1), (2, .int x2)]) hx hb dX8_divisor_1 rfl hl (by decide) rfl (fun ls hl => ?_)
  refine lv_iload_n hx hb dX8_divisor_2 rfl (lv_at hl 3 rfl) ?_
  refine lv_istore (lv' := [(4, .int x2), (3, .int x1), (0, .ref (G.2.2.2 + 151)), (1, .int x1), (2, .int x2)]) hx hb dX8_divisor_3 hl (by decide) rfl (fun ls hl => ?_)
  refine lv_iconst (v := 0) hx hb dX8_divisor_5 (by decide) ?_
  refine lv_istore (lv' := [(5, .int (0 : Int32)), (4, .int x2), (3, .int x1), (0, .ref (G.2.2.2 + 151)), (1, .int x1), (2, .int x2)]) hx hb dX8_divisor_6 hl (by decide) rfl (fun ls hl => ?_)
  exact w_X8_divisor_8 X hr hk 5000 x1 x2 (0 : Int32) M _ _ ls hT h (lv_sub hl [2, 1, 0] rfl)
/-! MockParcels$Sums.raidsApart(LMockParcels$Told;)I -/
theorem dX8_raidsApart_0 : decode cX8_raidsApart 0 = .ok (.iconst 0, 1) := by decide +kernel
theorem dX8_raidsApart_1 : decode cX8_raidsApart 1 = .ok (.istore_n 2, 1) := by decide +kernel
theorem dX8_raidsApart_2 : decode cX8_raidsApart 2 = .ok (.iconst 1, 1) := by decide +kernel
theorem dX8_raidsApart_3 : decode cX8_raidsApart 3 = .ok (.istore_n 3, 1) := by decide +kernel
theorem dX8_raidsApart_4 : decode cX8_raidsApart 4 = .ok (.iload_n 3, 1) := by decide +kernel
theorem dX8_raidsApart_5 : decode cX8_raidsApart 5 = .ok (.aload_n 1, 1) := by decide +kernel
theorem dX8_raidsApart_6 : decode cX8_raidsApart 6 = .ok (.getfield 127, 3) := by decide +kernel
theorem dX8_raidsApart_9 : decode cX8_raidsApart 9 = .ok (.if_icmp .ge 37, 3) := by decide +kernel
theorem dX8_raidsApart_12 : decode cX8_raidsApart 12 = .ok (.iload_n 3, 1) := by decide +kernel
theorem dX8_raidsApart_13 : decode cX8_raidsApart 13 = .ok (.bipush 20, 2) := by decide +kernel
theorem dX8_raidsApart_15 : decode cX8_raidsApart 15 = .ok (.if_icmp .ge 31, 3) := by decide +kernel
theorem dX8_raidsApart_18 : decode cX8_raidsApart 18 = .ok (.aload_n 0, 1) := by decide +kernel
theorem dX8_raidsApart_19 : decode cX8_raidsApart 19 = .ok (.iload_n 2, 1) := by decide +kernel
theorem dX8_raidsApart_20 : decode cX8_raidsApart 20 = .ok (.aload_n 1, 1) := by decide +kernel
theorem dX8_raidsApart_21 : decode cX8_raidsApart 21 = .ok (.getfield 130, 3) := by decide +kernel
theorem dX8_raidsApart_24 : decode cX8_raidsApart 24 = .ok (.iload_n 3, 1) := by decide +kernel
theorem dX8_raidsApart_25 : decode cX8_raidsApart 25 = .ok (.iaload, 1) := by decide +kernel
theorem dX8_raidsApart_26 : decode cX8_raidsApart 26 = .ok (.aload_n 1, 1) := by decide +kernel
theorem dX8_raidsApart_27 : decode cX8_raidsApart 27 = .ok (.getfield 130, 3) := by decide +kernel
theorem dX8_raidsApart_30 : decode cX8_raidsApart 30 = .ok (.iconst 0, 1) := by decide +kernel
theorem dX8_raidsApart_31 : decode cX8_raidsApart 31 = .ok (.iaload, 1) := by decide +kernel
theorem dX8_raidsApart_32 : decode cX8_raidsApart 32 = .ok (.isub, 1) := by decide +kernel
theorem dX8_raidsApart_33 : decode cX8_raidsApart 33 = .ok (.invokestatic 133, 3) := by decide +kernel
theorem dX8_raidsApart_36 : decode cX8_raidsApart 36 = .ok (.invokevirtual 136, 3) := by decide +kernel
theorem dX8_raidsApart_39 : decode cX8_raidsApart 39 = .ok (.istore_n 2, 1) := by decide +kernel
theorem dX8_raidsApart_40 : decode cX8_raidsApart 40 = .ok (.iinc 3 1, 3) := by decide +kernel
theorem dX8_raidsApart_43 : decode cX8_raidsApart 43 = .ok (.goto (-39), 3) := by decide +kernel
theorem dX8_raidsApart_46 : decode cX8_raidsApart 46 = .ok (.iload_n 2, 1) := by decide +kernel
theorem dX8_raidsApart_47 : decode cX8_raidsApart 47 = .ok (.ireturn, 1) := by decide +kernel
def T_X8_raidsApart_4 (o1 : Nat) : Nat → Int32 → Int32 → Mm → (Int32 → Mm → Prop) → Prop
  | 0, _, _, _, _ => False
  | n + 1, x2, x3, M, K => (((M o1 13) ≤ x3 → (K x2 M)) ∧ (¬ (M o1 13) ≤ x3 → (((20 : Int32) ≤ x3 → (K x2 M)) ∧ (¬ (20 : Int32) ≤ x3 → (vp_in x3 20 ∧ (T_X8_divisor x2 (if 0 ≤ ((M (rf o1 8) (x3).toNatClampNeg) - (M (rf o1 8) 0)) then ((M (rf o1 8) (x3).toNatClampNeg) - (M (rf o1 8) 0)) else 0 - ((M (rf o1 8) (x3).toNatClampNeg) - (M (rf o1 8) 0))) M (fun r6 M5 => (∀ y7 : Int32, y7 = x3 + (1 : Int32) → (T_X8_raidsApart_4 o1 n r6 y7 M5 K)))))))))
set_option maxHeartbeats 4000000 in
set_option maxRecDepth 100000 in
theorem w_X8_raidsApart_4 {p : Program} {l : Launch} {e : Env} {s : State} {m : MethodId} {args : Array Value} {below : List Frame} {meth : Method} {c : Code} {G : fx_G} {K : Int32 → Mm → Prop} {o1 : Nat} (ho1 : o1 ∈ id_Told) (X : fx_C G p s m c args cX8_raidsApart 4 RX8) (hr : meth.sig.returnType = (some .int)) (hk : meth.locks = false) : ∀ (n : Nat) (x2 : Int32) (x3 : Int32) (M : Mm) (H : Heap) (locs : List Loc) (ls : Array Slot), T_X8_raidsApart_4 o1 n x2 x3 M K → fx_H G SH M s H locs → lv_has ls 4 [(0, .ref (G.2.2.2 + 151)), (1, .ref (G.2.2.2 + o1)), (2, .int x2), (3, .int x3)] → W p l e (fx_rm (1)) s m args below meth c H locs 0 0 (MQ below (va_Qi K (fx_R G SH) (fx_A G)) args s 0 0 (fx_A G)) (F0 m 4 ls []) := by
  obtain ⟨⟨hx, hb, hml, hown, hts⟩, hK, hQ⟩ := id X
  intro n
  induction n with
  | zero =>
    intro x2 x3 M H locs ls hT
    exact hT.elim
  | succ n ih =>
    intro x2 x3 M H locs ls hT h hl
    rw [T_X8_raidsApart_4] at hT
    refine lv_iload_n hx hb dX8_raidsApart_4 rfl (lv_at hl 3 rfl) ?_
    refine lv_aload_n hx hb dX8_raidsApart_5 rfl (lv_at hl 1 rfl) ?_
    refine fx_getI X h (k := o1) (j := 13) (sc_Told o1 ho1) rfl fl_RX8_127 dX8_raidsApart_6 ?_
    refine lv_icmp_ge (tgt := 46) hx hb dX8_raidsApart_9 (by decide) (fun hc1 => ?_) (fun hc1 => ?_)
    · have hT := hT.1 hc1
      refine lv_iload_n hx hb dX8_raidsApart_46 rfl (lv_at hl 2 rfl) ?_
      exact fx_iret X hr hk h hT dX8_raidsApart_47
    · have hT := hT.2 hc1
      refine lv_iload_n hx hb dX8_raidsApart_12 rfl (lv_at hl 3 rfl) ?_
      refine lv_bipush (v := 20) hx hb dX8_raidsApart_13 (by decide) ?_
      refine lv_icmp_ge (tgt := 46) hx hb dX8_raidsApart_15 (by decide) (fun hc2 => ?_) (fun hc2 => ?_)
      · have hT := hT.1 hc2
        refine lv_iload_n hx hb dX8_raidsApart_46 rfl (lv_at hl 2 rfl) ?_
        exact fx_iret X hr hk h hT dX8_raidsApart_47
      · have hT := hT.2 hc2
        refine lv_aload_n hx hb dX8_raidsApart_18 rfl (lv_at hl 0 rfl) ?_
        refine lv_iload_n hx hb dX8_raidsApart_19 rfl (lv_at hl 2 rfl) ?_
        refine lv_aload_n hx hb dX8_raidsApart_20 rfl (lv_at hl 1 rfl) ?_
        refine fx_getR X h (k := o1) (j := 8) (r := (rf o1 8)) (sc_Told o1 ho1) rfl fl_RX8_130 dX8_raidsApart_21 ?_
        refine lv_iload_n hx hb dX8_raidsApart_24 rfl (lv_at hl 3 rfl) ?_
        obtain ⟨hi3, hT⟩ := hT
        refine fx_iald X h (k := (rf o1 8)) (sa_Told_8 o1 ho1) hi3 dX8_raidsApart_25 ?_
        refine lv_aload_n hx hb dX8_raidsApart_26 rfl (lv_at hl 1 rfl) ?_
        refine fx_getR X h (k := o1) (j := 8) (r := (rf o1 8)) (sc_Told o1 ho1) rfl fl_RX8_130 dX8_raidsApart_27 ?_
        refine lv_iconst (v := 0) hx hb dX8_raidsApart_30 (by decide) ?_
        refine fx_iald X h (k := (rf o1 8)) (sa_Told_8 o1 ho1) (by unfold vp_in; decide) dX8_raidsApart_31 ?_
        rw [show ((0 : Int32)).toNatClampNeg = 0 by decide]
        refine lv_isub hx hb dX8_raidsApart_32 ?_
        refine va_mabs hx hb (hml.trans hl.1.symm) hown (hts _ (fx_s5 (List.mem_of_getElem? (i := 223) rfl) rfl)) (hts _ mt_abs_s) (hts _ mt_i) (hts _ mt_abs_c) (Nat.le_of_ble_eq_true rfl) (Nat.le_of_ble_eq_true rfl) (Nat.le_refl _) (Nat.le_refl _) dX8_raidsApart_33 ?_
        refine fx_vi X h ym_X8_divisor yi_X8_divisor ys_X8_divisor (fx_s5 (List.mem_of_getElem? (i := 226) rfl) rfl) sh_151 rfl (c_X8_divisor l G hT) (As := [.int x2, .int (if 0 ≤ ((M (rf o1 8) (x3).toNatClampNeg) - (M (rf o1 8) 0)) then ((M (rf o1 8) (x3).toNatClampNeg) - (M (rf o1 8) 0)) else 0 - ((M (rf o1 8) (x3).toNatClampNeg) - (M (rf o1 8) 0)))]) (rest := []) rfl rfl ⟨Nat.le_of_ble_eq_true rfl, Nat.le_of_ble_eq_true rfl⟩ ⟨Nat.le_refl _, Nat.le_refl _⟩ hl.1 (Nat.le_of_ble_eq_true rfl) dX8_raidsApart_36 (fun r6 M5 H locs hT h => ?_)
        refine lv_istore_n (lv' := [(2, .int r6), (0, .ref (G.2.2.2 + 151)), (1, .ref (G.2.2.2 + o1)), (3, .int x3)]) hx hb dX8_raidsApart_39 rfl hl (by decide) rfl (fun ls hl => ?_)
        obtain ⟨y7, ey7⟩ : ∃ z : Int32, z = x3 + (1 : Int32) := ⟨_, rfl⟩
        have hT := hT y7 ey7
        refine lv_iinc (v := y7) (lv' := [(3, .int y7), (2, .int r6), (0, .ref (G.2.2.2 + 151)), (1, .ref (G.2.2.2 + o1))]) hx hb dX8_raidsApart_40 hl (k := 3) rfl (by rw [ey7]; rfl) (by decide) rfl (fun ls hl => ?_)
        refine lv_goto (tgt := 4) hx hb dX8_raidsApart_43 (by decide) ?_
        exact ih r6 y7 M5 _ _ ls hT h (lv_sub hl [2, 3, 1, 0] rfl)
def T_X8_raidsApart (o1 : Nat) (M : Mm) (K : Int32 → Mm → Prop) : Prop := (T_X8_raidsApart_4 o1 5000 (0 : Int32) (1 : Int32) M K)
set_option maxHeartbeats 4000000 in
set_option maxRecDepth 100000 in
theorem c_X8_raidsApart (l : Launch) (G : fx_G) {o1 : Nat} (ho1 : o1 ∈ id_Told) {M : Mm} {K : Int32 → Mm → Prop} (hT : T_X8_raidsApart o1 M K) : Met l yX8_raidsApart (fx_ws yX8_raidsApart cX8_raidsApart 4 (some .int)) (fx_rm (1)) (va_Pc [.ref (G.2.2.2 + 151), .ref (G.2.2.2 + o1)] (fx_P G SH M)) (va_Qi K (fx_R G SH) (fx_A G)) 0 0 (fx_A G) := by
  refine fx_met (own := RX8) (by decide +kernel) rfl (Nat.le_of_ble_eq_true rfl) (fun p e s m below meth c X hr hk h ls hl => ?_)
  obtain ⟨⟨hx, hb, hml, hown, hts⟩, hK, hQ⟩ := id X
  have hl : lv_has ls 4 [(0, .ref (G.2.2.2 + 151)), (1, .ref (G.2.2.2 + o1))] := hl
  unfold T_X8_raidsApart at hT
  refine lv_iconst (v := 0) hx hb dX8_raidsApart_0 (by decide) ?_
  refine lv_istore_n (lv' := [(2, .int (0 : Int32)), (0, .ref (G.2.2.2 + 151)), (1, .ref (G.2.2.2 + o1))]) hx hb dX8_raidsApart_1 rfl hl (by decide) rfl (fun ls hl => ?_)
  refine lv_iconst (v := 1) hx hb dX8_raidsApart_2 (by decide) ?_
  refine lv_istore_n (lv' := [(3, .int (1 : Int32)), (2, .int (0 : Int32)), (0, .ref (G.2.2.2 + 151)), (1, .ref (G.2.2.2 + o1))]) hx hb dX8_raidsApart_3 rfl hl (by decide) rfl (fun ls hl => ?_)
  exact w_X8_raidsApart_4 ho1 X hr hk 5000 (0 : Int32) (1 : Int32) M _ _ ls hT h (lv_sub hl [2, 3, 1, 0] rfl)
/-! MockParcels$Sums.weighed(III)I -/
theorem dX8_weighed_0 : decode cX8_weighed 0 = .ok (.iload_n 1, 1) := by decide +kernel
theorem dX8_weighed_1 : decode cX8_weighed 1 = .ok (.i2l, 1) := by decide +kernel
theorem dX8_weighed_2 : decode cX8_weighed 2 = .ok (.iload_n 2, 1) := by decide +kernel
theorem dX8_weighed_3 : decode cX8_weighed 3 = .ok (.i2l, 1) := by decide +kernel
theorem dX8_weighed_4 : decode cX8_weighed 4 = .ok (.lmul, 1) := by decide +kernel
theorem dX8_weighed_5 : decode cX8_weighed 5 = .ok (.lstore 4, 2) := by decide +kernel
theorem dX8_weighed_7 : decode cX8_weighed 7 = .ok (.lload 4, 2) := by decide +kernel
theorem dX8_weighed_9 : decode cX8_weighed 9 = .ok (.ldc 142, 2) := by decide +kernel
theorem dX8_weighed_11 : decode cX8_weighed 11 = .ok (.iload_n 1, 1) := by decide +kernel
theorem dX8_weighed_12 : decode cX8_weighed 12 = .ok (.isub, 1) := by decide +kernel
theorem dX8_weighed_13 : decode cX8_weighed 13 = .ok (.i2l, 1) := by decide +kernel
theorem dX8_weighed_14 : decode cX8_weighed 14 = .ok (.iload_n 3, 1) := by decide +kernel
theorem dX8_weighed_15 : decode cX8_weighed 15 = .ok (.i2l, 1) := by decide +kernel
theorem dX8_weighed_16 : decode cX8_weighed 16 = .ok (.lmul, 1) := by decide +kernel
theorem dX8_weighed_17 : decode cX8_weighed 17 = .ok (.ladd, 1) := by decide +kernel
theorem dX8_weighed_18 : decode cX8_weighed 18 = .ok (.lstore 6, 2) := by decide +kernel
theorem dX8_weighed_20 : decode cX8_weighed 20 = .ok (.lload 6, 2) := by decide +kernel
theorem dX8_weighed_22 : decode cX8_weighed 22 = .ok (.lconst 0, 1) := by decide +kernel
theorem dX8_weighed_23 : decode cX8_weighed 23 = .ok (.lcmp, 1) := by decide +kernel
theorem dX8_weighed_24 : decode cX8_weighed 24 = .ok (.ifCond .gt 7, 3) := by decide +kernel
theorem dX8_weighed_27 : decode cX8_weighed 27 = .ok (.iconst 0, 1) := by decide +kernel
theorem dX8_weighed_28 : decode cX8_weighed 28 = .ok (.goto 13, 3) := by decide +kernel
theorem dX8_weighed_31 : decode cX8_weighed 31 = .ok (.lload 4, 2) := by decide +kernel
theorem dX8_weighed_33 : decode cX8_weighed 33 = .ok (.ldc2_w 143, 3) := by decide +kernel
theorem dX8_weighed_36 : decode cX8_weighed 36 = .ok (.lmul, 1) := by decide +kernel
theorem dX8_weighed_37 : decode cX8_weighed 37 = .ok (.lload 6, 2) := by decide +kernel
theorem dX8_weighed_39 : decode cX8_weighed 39 = .ok (.ldiv, 1) := by decide +kernel
theorem dX8_weighed_40 : decode cX8_weighed 40 = .ok (.l2i, 1) := by decide +kernel
theorem dX8_weighed_41 : decode cX8_weighed 41 = .ok (.ireturn, 1) := by decide +kernel
def T_X8_weighed (x1 : Int32) (x2 : Int32) (x3 : Int32) (M : Mm) (K : Int32 → Mm → Prop) : Prop := (∀ y1 : Int64, y1 = ((x1).toInt64 * (x2).toInt64) → (∀ y2 : Int64, y2 = (y1 + ((((1000000 : Int32) - x1)).toInt64 * (x3).toInt64)) → ((0 < (lg_cmp y2 (0 : Int64)) → (¬ y2 = 0 ∧ (K (((y1 * (1000000 : Int64)) / y2)).toInt32 M))) ∧ (¬ 0 < (lg_cmp y2 (0 : Int64)) → (K (0 : Int32) M)))))
set_option maxHeartbeats 4000000 in
set_option maxRecDepth 100000 in
theorem c_X8_weighed (l : Launch) (G : fx_G) {x1 : Int32} {x2 : Int32} {x3 : Int32} {M : Mm} {K : Int32 → Mm → Prop} (hT : T_X8_weighed x1 x2 x3 M K) : Met l yX8_weighed (fx_ws yX8_weighed cX8_weighed 8 (some .int)) (fx_rm (0)) (va_Pc [.ref (G.2.2.2 + 151), .int x1, .int x2, .int x3] (fx_P G SH M)) (va_Qi K (fx_R G SH) (fx_A G)) 0 0 (fx_A G) := by
  refine fx_met (own := RX8) (by decide +kernel) rfl (Nat.le_of_ble_eq_true rfl) (fun p e s m below meth c X hr hk h ls hl => ?_)
  obtain ⟨⟨hx, hb, hml, hown, hts⟩, hK, hQ⟩ := id X
  have hl : lv_has ls 8 [(0, .ref (G.2.2.2 + 151)), (1, .int x1), (2, .int x2), (3, .int x3)] := hl
  unfold T_X8_weighed at hT
  refine lv_iload_n hx hb dX8_weighed_0 rfl (lv_at hl 1 rfl) ?_
  refine lv_i2l hx hb dX8_weighed_1 rfl ?_
  refine lv_iload_n hx hb dX8_weighed_2 rfl (lv_at hl 2 rfl) ?_
  refine lv_i2l hx hb dX8_weighed_3 rfl ?_
  refine lv_lmul hx hb dX8_weighed_4 ?_
  refine lv_topl (fun y1 ey1 => ?_)
  have hT := hT y1 ey1
  refine lv_lstore (lv' := [(4, .long y1), (0, .ref (G.2.2.2 + 151)), (1, .int x1), (2, .int x2), (3, .int x3)]) hx hb dX8_weighed_5 hl (by decide) rfl (fun ls hl => ?_)
  refine lv_lload hx hb dX8_weighed_7 (lv_at hl 0 rfl) ?_
  refine lv_ldc (v := 1000000) hx hb hown (hts _ (fx_s6 (List.mem_of_getElem? (i := 5) rfl) rfl)) dX8_weighed_9 ?_
  refine lv_iload_n hx hb dX8_weighed_11 rfl (lv_at hl 2 rfl) ?_
  refine lv_isub hx hb dX8_weighed_12 ?_
  refine lv_i2l hx hb dX8_weighed_13 rfl ?_
  refine lv_iload_n hx hb dX8_weighed_14 rfl (lv_at hl 4 rfl) ?_
  refine lv_i2l hx hb dX8_weighed_15 rfl ?_
  refine lv_lmul hx hb dX8_weighed_16 ?_
  refine lv_ladd hx hb dX8_weighed_17 ?_
  refine lv_topl (fun y2 ey2 => ?_)
  have hT := hT y2 ey2
  refine lv_lstore (lv' := [(6, .long y2), (4, .long y1), (0, .ref (G.2.2.2 + 151)), (1, .int x1), (2, .int x2), (3, .int x3)]) hx hb dX8_weighed_18 hl (by decide) rfl (fun ls hl => ?_)
  refine lv_lload hx hb dX8_weighed_20 (lv_at hl 0 rfl) ?_
  refine lv_lconst (v := 0) hx hb dX8_weighed_22 (by decide) ?_
  refine W.lcmp hx hb dX8_weighed_23 ?_
  refine lv_if_gt (tgt := 31) hx hb dX8_weighed_24 (by decide) (fun hc3 => ?_) (fun hc3 => ?_)
  · have hT := hT.1 hc3
    refine lv_lload hx hb dX8_weighed_31 (lv_at hl 1 rfl) ?_
    refine lv_ldc2 (v := 1000000) hx hb hown (hts _ (fx_s6 (List.mem_of_getElem? (i := 6) rfl) rfl)) dX8_weighed_33 ?_
    refine lv_lmul hx hb dX8_weighed_36 ?_
    refine lv_lload hx hb dX8_weighed_37 (lv_at hl 0 rfl) ?_
    obtain ⟨hz4, hT⟩ := hT
    refine lv_ldiv hx hb dX8_weighed_39 hz4 ?_
    refine lv_l2i hx hb dX8_weighed_40 rfl ?_
    exact fx_iret X hr hk h hT dX8_weighed_41
  · have hT := hT.2 hc3
    refine lv_iconst (v := 0) hx hb dX8_weighed_27 (by decide) ?_
    refine lv_goto (tgt := 41) hx hb dX8_weighed_28 (by decide) ?_
    exact fx_iret X hr hk h hT dX8_weighed_41
/-! MockParcels$Sums.suspicion(III)I -/
theorem dX8_suspicion_0 : decode cX8_suspicion 0 = .ok (.sipush 1000, 3) := by decide +kernel
theorem dX8_suspicion_3 : decode cX8_suspicion 3 = .ok (.iload_n 1, 1) := by decide +kernel
theorem dX8_suspicion_4 : decode cX8_suspicion 4 = .ok (.imul, 1) := by decide +kernel
theorem dX8_suspicion_5 : decode cX8_suspicion 5 = .ok (.istore 4, 2) := by decide +kernel
theorem dX8_suspicion_7 : decode cX8_suspicion 7 = .ok (.iconst 0, 1) := by decide +kernel
theorem dX8_suspicion_8 : decode cX8_suspicion 8 = .ok (.istore 5, 2) := by decide +kernel
theorem dX8_suspicion_10 : decode cX8_suspicion 10 = .ok (.iload 5, 2) := by decide +kernel
theorem dX8_suspicion_12 : decode cX8_suspicion 12 = .ok (.iload_n 3, 1) := by decide +kernel
theorem dX8_suspicion_13 : decode cX8_suspicion 13 = .ok (.if_icmp .ge 45, 3) := by decide +kernel
theorem dX8_suspicion_16 : decode cX8_suspicion 16 = .ok (.iload 5, 2) := by decide +kernel
theorem dX8_suspicion_18 : decode cX8_suspicion 18 = .ok (.bipush 40, 2) := by decide +kernel
theorem dX8_suspicion_20 : decode cX8_suspicion 20 = .ok (.if_icmp .ge 38, 3) := by decide +kernel
theorem dX8_suspicion_23 : decode cX8_suspicion 23 = .ok (.iload 5, 2) := by decide +kernel
theorem dX8_suspicion_25 : decode cX8_suspicion 25 = .ok (.iload_n 2, 1) := by decide +kernel
theorem dX8_suspicion_26 : decode cX8_suspicion 26 = .ok (.if_icmp .ge 15, 3) := by decide +kernel
theorem dX8_suspicion_29 : decode cX8_suspicion 29 = .ok (.aload_n 0, 1) := by decide +kernel
theorem dX8_suspicion_30 : decode cX8_suspicion 30 = .ok (.iload 4, 2) := by decide +kernel
theorem dX8_suspicion_32 : decode cX8_suspicion 32 = .ok (.bipush 6, 2) := by decide +kernel
theorem dX8_suspicion_34 : decode cX8_suspicion 34 = .ok (.iconst 3, 1) := by decide +kernel
theorem dX8_suspicion_35 : decode cX8_suspicion 35 = .ok (.invokevirtual 139, 3) := by decide +kernel
theorem dX8_suspicion_38 : decode cX8_suspicion 38 = .ok (.goto 12, 3) := by decide +kernel
theorem dX8_suspicion_41 : decode cX8_suspicion 41 = .ok (.aload_n 0, 1) := by decide +kernel
theorem dX8_suspicion_42 : decode cX8_suspicion 42 = .ok (.iload 4, 2) := by decide +kernel
theorem dX8_suspicion_44 : decode cX8_suspicion 44 = .ok (.iconst 4, 1) := by decide +kernel
theorem dX8_suspicion_45 : decode cX8_suspicion 45 = .ok (.bipush 7, 2) := by decide +kernel
theorem dX8_suspicion_47 : decode cX8_suspicion 47 = .ok (.invokevirtual 139, 3) := by decide +kernel
theorem dX8_suspicion_50 : decode cX8_suspicion 50 = .ok (.istore 4, 2) := by decide +kernel
theorem dX8_suspicion_52 : decode cX8_suspicion 52 = .ok (.iinc 5 1, 3) := by decide +kernel
theorem dX8_suspicion_55 : decode cX8_suspicion 55 = .ok (.goto (-45), 3) := by decide +kernel
theorem dX8_suspicion_58 : decode cX8_suspicion 58 = .ok (.iload 4, 2) := by decide +kernel
theorem dX8_suspicion_60 : decode cX8_suspicion 60 = .ok (.ireturn, 1) := by decide +kernel
def T_X8_suspicion_50 (B10 : Int32 → Int32 → Int32 → Int32 → Mm → Prop) (x2 : Int32) (x3 : Int32) (x5 : Int32) (s0 : Int32) (M : Mm) (K : Int32 → Mm → Prop) : Prop := (∀ y1 : Int32, y1 = x5 + (1 : Int32) → (B10 x2 x3 s0 y1 M))
set_option maxHeartbeats 4000000 in
set_option maxRecDepth 100000 in
theorem w_X8_suspicion_50 {p : Program} {l : Launch} {e : Env} {s : State} {m : MethodId} {args : Array Value} {below : List Frame} {meth : Method} {c : Code} {G : fx_G} {K : Int32 → Mm → Prop} {B10 : Int32 → Int32 → Int32 → Int32 → Mm → Prop} (X : fx_C G p s m c args cX8_suspicion 6 RX8) (hr : meth.sig.returnType = (some .int)) (hk : meth.locks = false) (hB10 : ∀ (x2 : Int32) (x3 : Int32) (x4 : Int32) (x5 : Int32) (M : Mm) (H : Heap) (locs : List Loc) (ls : Array Slot), B10 x2 x3 x4 x5 M → fx_H G SH M s H locs → lv_has ls 6 [(0, .ref (G.2.2.2 + 151)), (2, .int x2), (3, .int x3), (4, .int x4), (5, .int x5)] → W p l e (fx_rm (1)) s m args below meth c H locs 0 0 (MQ below (va_Qi K (fx_R G SH) (fx_A G)) args s 0 0 (fx_A G)) (F0 m 10 ls [])) : ∀ (x2 : Int32) (x3 : Int32) (x5 : Int32) (s0 : Int32) (M : Mm) (H : Heap) (locs : List Loc) (ls : Array Slot), T_X8_suspicion_50 B10 x2 x3 x5 s0 M K → fx_H G SH M s H locs → lv_has ls 6 [(0, .ref (G.2.2.2 + 151)), (2, .int x2), (3, .int x3), (5, .int x5)] → W p l e (fx_rm (1)) s m args below meth c H locs 0 0 (MQ below (va_Qi K (fx_R G SH) (fx_A G)) args s 0 0 (fx_A G)) (F0 m 50 ls [.int s0]) := by
  obtain ⟨⟨hx, hb, hml, hown, hts⟩, hK, hQ⟩ := id X
  intro x2 x3 x5 s0 M H locs ls hT h hl
  unfold T_X8_suspicion_50 at hT
  refine lv_istore (lv' := [(4, .int s0), (0, .ref (G.2.2.2 + 151)), (2, .int x2), (3, .int x3), (5, .int x5)]) hx hb dX8_suspicion_50 hl (by decide) rfl (fun ls hl => ?_)
  obtain ⟨y1, ey1⟩ : ∃ z : Int32, z = x5 + (1 : Int32) := ⟨_, rfl⟩
  have hT := hT y1 ey1
  refine lv_iinc (v := y1) (lv' := [(5, .int y1), (4, .int s0), (0, .ref (G.2.2.2 + 151)), (2, .int x2), (3, .int x3)]) hx hb dX8_suspicion_52 hl (k := 4) rfl (by rw [ey1]; rfl) (by decide) rfl (fun ls hl => ?_)
  refine lv_goto (tgt := 10) hx hb dX8_suspicion_55 (by decide) ?_
  exact hB10 x2 x3 s0 y1 M _ _ ls hT h (lv_sub hl [2, 3, 4, 1, 0] rfl)
def T_X8_suspicion_10 : Nat → Int32 → Int32 → Int32 → Int32 → Mm → (Int32 → Mm → Prop) → Prop
  | 0, _, _, _, _, _, _ => False
  | n + 1, x2, x3, x4, x5, M, K => ((x3 ≤ x5 → (K x4 M)) ∧ (¬ x3 ≤ x5 → (((40 : Int32) ≤ x5 → (K x4 M)) ∧ (¬ (40 : Int32) ≤ x5 → ((x2 ≤ x5 → (T_X8_weighed x4 (4 : Int32) (7 : Int32) M (fun r7 M6 => (T_X8_suspicion_50 (fun x2 x3 x4 x5 M => T_X8_suspicion_10 n x2 x3 x4 x5 M K) x2 x3 x5 r7 M6 K)))) ∧ (¬ x2 ≤ x5 → (T_X8_weighed x4 (6 : Int32) (3 : Int32) M (fun r10 M9 => (T_X8_suspicion_50 (fun x2 x3 x4 x5 M => T_X8_suspicion_10 n x2 x3 x4 x5 M K) x2 x3 x5 r10 M9 K)))))))))
set_option maxHeartbeats 4000000 in
set_option maxRecDepth 100000 in
theorem w_X8_suspicion_10 {p : Program} {l : Launch} {e : Env} {s : State} {m : MethodId} {args : Array Value} {below : List Frame} {meth : Method} {c : Code} {G : fx_G} {K : Int32 → Mm → Prop} (X : fx_C G p s m c args cX8_suspicion 6 RX8) (hr : meth.sig.returnType = (some .int)) (hk : meth.locks = false) : ∀ (n : Nat) (x2 : Int32) (x3 : Int32) (x4 : Int32) (x5 : Int32) (M : Mm) (H : Heap) (locs : List Loc) (ls : Array Slot), T_X8_suspicion_10 n x2 x3 x4 x5 M K → fx_H G SH M s H locs → lv_has ls 6 [(0, .ref (G.2.2.2 + 151)), (2, .int x2), (3, .int x3), (4, .int x4), (5, .int x5)] → W p l e (fx_rm (1)) s m args below meth c H locs 0 0 (MQ below (va_Qi K (fx_R G SH) (fx_A G)) args s 0 0 (fx_A G)) (F0 m 10 ls []) := by
  obtain ⟨⟨hx, hb, hml, hown, hts⟩, hK, hQ⟩ := id X
  intro n
  induction n with
  | zero =>
    intro x2 x3 x4 x5 M H locs ls hT
    exact hT.elim
  | succ n ih =>
    intro x2 x3 x4 x5 M H locs ls hT h hl
    rw [T_X8_suspicion_10] at hT
    refine lv_iload hx hb dX8_suspicion_10 (lv_at hl 4 rfl) ?_
    refine lv_iload_n hx hb dX8_suspicion_12 rfl (lv_at hl 2 rfl) ?_
    refine lv_icmp_ge (tgt := 58) hx hb dX8_suspicion_13 (by decide) (fun hc2 => ?_) (fun hc2 => ?_)
    · have hT := hT.1 hc2
      refine lv_iload hx hb dX8_suspicion_58 (lv_at hl 3 rfl) ?_
      exact fx_iret X hr hk h hT dX8_suspicion_60
    · have hT := hT.2 hc2
      refine lv_iload hx hb dX8_suspicion_16 (lv_at hl 4 rfl) ?_
      refine lv_bipush (v := 40) hx hb dX8_suspicion_18 (by decide) ?_
      refine lv_icmp_ge (tgt := 58) hx hb dX8_suspicion_20 (by decide) (fun hc3 => ?_) (fun hc3 => ?_)
      · have hT := hT.1 hc3
        refine lv_iload hx hb dX8_suspicion_58 (lv_at hl 3 rfl) ?_
        exact fx_iret X hr hk h hT dX8_suspicion_60
      · have hT := hT.2 hc3
        refine lv_iload hx hb dX8_suspicion_23 (lv_at hl 4 rfl) ?_
        refine lv_iload_n hx hb dX8_suspicion_25 rfl (lv_at hl 1 rfl) ?_
        refine lv_icmp_ge (tgt := 41) hx hb dX8_suspicion_26 (by decide) (fun hc4 => ?_) (fun hc4 => ?_)
        · have hT := hT.1 hc4
          refine lv_aload_n hx hb dX8_suspicion_41 rfl (lv_at hl 0 rfl) ?_
          refine lv_iload hx hb dX8_suspicion_42 (lv_at hl 3 rfl) ?_
          refine lv_iconst (v := 4) hx hb dX8_suspicion_44 (by decide) ?_
          refine lv_bipush (v := 7) hx hb dX8_suspicion_45 (by decide) ?_
          refine fx_vi X h ym_X8_weighed yi_X8_weighed ys_X8_weighed (fx_s6 (List.mem_of_getElem? (i := 1) rfl) rfl) sh_151 rfl (c_X8_weighed l G hT) (As := [.int x4, .int (4 : Int32), .int (7 : Int32)]) (rest := []) rfl rfl ⟨Nat.le_of_ble_eq_true rfl, Nat.le_of_ble_eq_true rfl⟩ ⟨Nat.le_refl _, Nat.le_refl _⟩ hl.1 (Nat.le_of_ble_eq_true rfl) dX8_suspicion_47 (fun r7 M6 H locs hT h => ?_)
          exact w_X8_suspicion_50 X hr hk (B10 := (fun x2 x3 x4 x5 M => T_X8_suspicion_10 n x2 x3 x4 x5 M K)) ih x2 x3 x5 r7 M6 _ _ ls hT h (lv_sub hl [0, 1, 2, 4] rfl)
        · have hT := hT.2 hc4
          refine lv_aload_n hx hb dX8_suspicion_29 rfl (lv_at hl 0 rfl) ?_
          refine lv_iload hx hb dX8_suspicion_30 (lv_at hl 3 rfl) ?_
          refine lv_bipush (v := 6) hx hb dX8_suspicion_32 (by decide) ?_
          refine lv_iconst (v := 3) hx hb dX8_suspicion_34 (by decide) ?_
          refine fx_vi X h ym_X8_weighed yi_X8_weighed ys_X8_weighed (fx_s6 (List.mem_of_getElem? (i := 1) rfl) rfl) sh_151 rfl (c_X8_weighed l G hT) (As := [.int x4, .int (6 : Int32), .int (3 : Int32)]) (rest := []) rfl rfl ⟨Nat.le_of_ble_eq_true rfl, Nat.le_of_ble_eq_true rfl⟩ ⟨Nat.le_refl _, Nat.le_refl _⟩ hl.1 (Nat.le_of_ble_eq_true rfl) dX8_suspicion_35 (fun r10 M9 H locs hT h => ?_)
          refine lv_goto (tgt := 50) hx hb dX8_suspicion_38 (by decide) ?_
          exact w_X8_suspicion_50 X hr hk (B10 := (fun x2 x3 x4 x5 M => T_X8_suspicion_10 n x2 x3 x4 x5 M K)) ih x2 x3 x5 r10 M9 _ _ ls hT h (lv_sub hl [0, 1, 2, 4] rfl)
def T_X8_suspicion (x1 : Int32) (x2 : Int32) (x3 : Int32) (M : Mm) (K : Int32 → Mm → Prop) : Prop := (∀ y11 : Int32, y11 = ((1000 : Int32) * x1) → (T_X8_suspicion_10 5000 x2 x3 y11 (0 : Int32) M K))
set_option maxHeartbeats 4000000 in
set_option maxRecDepth 100000 in
theorem c_X8_suspicion (l : Launch) (G : fx_G) {x1 : Int32} {x2 : Int32} {x3 : Int32} {M : Mm} {K : Int32 → Mm → Prop} (hT : T_X8_suspicion x1 x2 x3 M K) : Met l yX8_suspicion (fx_ws yX8_suspicion cX8_suspicion 6 (some .int)) (fx_rm (1)) (va_Pc [.ref (G.2.2.2 + 151), .int x1, .int x2, .int x3] (fx_P G SH M)) (va_Qi K (fx_R G SH) (fx_A G)) 0 0 (fx_A G) := by
  refine fx_met (own := RX8) (by decide +kernel) rfl (Nat.le_of_ble_eq_true rfl) (fun p e s m below meth c X hr hk h ls hl => ?_)
  obtain ⟨⟨hx, hb, hml, hown, hts⟩, hK, hQ⟩ := id X
  have hl : lv_has ls 6 [(0, .ref (G.2.2.2 + 151)), (1, .int x1), (2, .int x2), (3, .int x3)] := hl
  unfold T_X8_suspicion at hT
  refine lv_sipush (v := 1000) hx hb dX8_suspicion_0 (by decide) ?_
  refine lv_iload_n hx hb dX8_suspicion_3 rfl (lv_at hl 1 rfl) ?_
  refine lv_imul hx hb dX8_suspicion_4 ?_
  refine lv_topi (fun y11 ey11 => ?_)
  have hT := hT y11 ey11
  refine lv_istore (lv' := [(4, .int y11), (0, .ref (G.2.2.2 + 151)), (1, .int x1), (2, .int x2), (3, .int x3)]) hx hb dX8_suspicion_5 hl (by decide) rfl (fun ls hl => ?_)
  refine lv_iconst (v := 0) hx hb dX8_suspicion_7 (by decide) ?_
  refine lv_istore (lv' := [(5, .int (0 : Int32)), (4, .int y11), (0, .ref (G.2.2.2 + 151)), (1, .int x1), (2, .int x2), (3, .int x3)]) hx hb dX8_suspicion_8 hl (by decide) rfl (fun ls hl => ?_)
  exact w_X8_suspicion_10 X hr hk 5000 x2 x3 y11 (0 : Int32) M _ _ ls hT h (lv_sub hl [2, 4, 5, 1, 0] rfl)
/-! MockParcels$Sums.gap([III)I -/
theorem dX8_gap_0 : decode cX8_gap 0 = .ok (.iconst 0, 1) := by decide +kernel
theorem dX8_gap_1 : decode cX8_gap 1 = .ok (.istore 4, 2) := by decide +kernel
theorem dX8_gap_3 : decode cX8_gap 3 = .ok (.iconst 0, 1) := by decide +kernel
theorem dX8_gap_4 : decode cX8_gap 4 = .ok (.istore 5, 2) := by decide +kernel
theorem dX8_gap_6 : decode cX8_gap 6 = .ok (.iload 5, 2) := by decide +kernel
theorem dX8_gap_8 : decode cX8_gap 8 = .ok (.iload_n 2, 1) := by decide +kernel
theorem dX8_gap_9 : decode cX8_gap 9 = .ok (.if_icmp .ge 43, 3) := by decide +kernel
theorem dX8_gap_12 : decode cX8_gap 12 = .ok (.iload 5, 2) := by decide +kernel
theorem dX8_gap_14 : decode cX8_gap 14 = .ok (.aload_n 1, 1) := by decide +kernel
theorem dX8_gap_15 : decode cX8_gap 15 = .ok (.arraylength, 1) := by decide +kernel
theorem dX8_gap_16 : decode cX8_gap 16 = .ok (.if_icmp .ge 36, 3) := by decide +kernel
theorem dX8_gap_19 : decode cX8_gap 19 = .ok (.iload 4, 2) := by decide +kernel
theorem dX8_gap_21 : decode cX8_gap 21 = .ok (.iload_n 3, 1) := by decide +kernel
theorem dX8_gap_22 : decode cX8_gap 22 = .ok (.iload 5, 2) := by decide +kernel
theorem dX8_gap_24 : decode cX8_gap 24 = .ok (.ishr, 1) := by decide +kernel
theorem dX8_gap_25 : decode cX8_gap 25 = .ok (.iconst 1, 1) := by decide +kernel
theorem dX8_gap_26 : decode cX8_gap 26 = .ok (.iand, 1) := by decide +kernel
theorem dX8_gap_27 : decode cX8_gap 27 = .ok (.iconst 1, 1) := by decide +kernel
theorem dX8_gap_28 : decode cX8_gap 28 = .ok (.if_icmp .ne 10, 3) := by decide +kernel
theorem dX8_gap_31 : decode cX8_gap 31 = .ok (.aload_n 1, 1) := by decide +kernel
theorem dX8_gap_32 : decode cX8_gap 32 = .ok (.iload 5, 2) := by decide +kernel
theorem dX8_gap_34 : decode cX8_gap 34 = .ok (.iaload, 1) := by decide +kernel
theorem dX8_gap_35 : decode cX8_gap 35 = .ok (.goto 8, 3) := by decide +kernel
theorem dX8_gap_38 : decode cX8_gap 38 = .ok (.aload_n 1, 1) := by decide +kernel
theorem dX8_gap_39 : decode cX8_gap 39 = .ok (.iload 5, 2) := by decide +kernel
theorem dX8_gap_41 : decode cX8_gap 41 = .ok (.iaload, 1) := by decide +kernel
theorem dX8_gap_42 : decode cX8_gap 42 = .ok (.ineg, 1) := by decide +kernel
theorem dX8_gap_43 : decode cX8_gap 43 = .ok (.iadd, 1) := by decide +kernel
theorem dX8_gap_44 : decode cX8_gap 44 = .ok (.istore 4, 2) := by decide +kernel
theorem dX8_gap_46 : decode cX8_gap 46 = .ok (.iinc 5 1, 3) := by decide +kernel
theorem dX8_gap_49 : decode cX8_gap 49 = .ok (.goto (-43), 3) := by decide +kernel
theorem dX8_gap_52 : decode cX8_gap 52 = .ok (.iload 4, 2) := by decide +kernel
theorem dX8_gap_54 : decode cX8_gap 54 = .ok (.invokestatic 133, 3) := by decide +kernel
theorem dX8_gap_57 : decode cX8_gap 57 = .ok (.ireturn, 1) := by decide +kernel
def T_X8_gap_52 (a1 : Nat) (x4 : Int32) (M : Mm) (K : Int32 → Mm → Prop) : Prop := (K (if 0 ≤ x4 then x4 else 0 - x4) M)
set_option maxHeartbeats 4000000 in
set_option maxRecDepth 100000 in
theorem w_X8_gap_52 {p : Program} {l : Launch} {e : Env} {s : State} {m : MethodId} {args : Array Value} {below : List Frame} {meth : Method} {c : Code} {G : fx_G} {K : Int32 → Mm → Prop} {a1 : Nat} (ha1 : SH[a1]? = some (.inl (ln a1))) (X : fx_C G p s m c args cX8_gap 6 RX8) (hr : meth.sig.returnType = (some .int)) (hk : meth.locks = false) : ∀ (x4 : Int32) (M : Mm) (H : Heap) (locs : List Loc) (ls : Array Slot), T_X8_gap_52 a1 x4 M K → fx_H G SH M s H locs → lv_has ls 6 [(4, .int x4)] → W p l e (fx_rm (1)) s m args below meth c H locs 0 0 (MQ below (va_Qi K (fx_R G SH) (fx_A G)) args s 0 0 (fx_A G)) (F0 m 52 ls []) := by
  obtain ⟨⟨hx, hb, hml, hown, hts⟩, hK, hQ⟩ := id X
  intro x4 M H locs ls hT h hl
  unfold T_X8_gap_52 at hT
  refine lv_iload hx hb dX8_gap_52 (lv_at hl 0 rfl) ?_
  refine va_mabs hx hb (hml.trans hl.1.symm) hown (hts _ (fx_s5 (List.mem_of_getElem? (i := 223) rfl) rfl)) (hts _ mt_abs_s) (hts _ mt_i) (hts _ mt_abs_c) (Nat.le_of_ble_eq_true rfl) (Nat.le_of_ble_eq_true rfl) (Nat.le_refl _) (Nat.le_refl _) dX8_gap_54 ?_
  exact fx_iret X hr hk h hT dX8_gap_57
def T_X8_gap_43 (B6 : Int32 → Int32 → Int32 → Int32 → Mm → Prop) (a1 : Nat) (x2 : Int32) (x3 : Int32) (x5 : Int32) (s0 : Int32) (s1 : Int32) (M : Mm) (K : Int32 → Mm → Prop) : Prop := (∀ y1 : Int32, y1 = (s0 + s1) → (∀ y2 : Int32, y2 = x5 + (1 : Int32) → (B6 x2 x3 y1 y2 M)))
set_option maxHeartbeats 4000000 in
set_option maxRecDepth 100000 in
theorem w_X8_gap_43 {p : Program} {l : Launch} {e : Env} {s : State} {m : MethodId} {args : Array Value} {below : List Frame} {meth : Method} {c : Code} {G : fx_G} {K : Int32 → Mm → Prop} {B6 : Int32 → Int32 → Int32 → Int32 → Mm → Prop} {a1 : Nat} (ha1 : SH[a1]? = some (.inl (ln a1))) (X : fx_C G p s m c args cX8_gap 6 RX8) (hr : meth.sig.returnType = (some .int)) (hk : meth.locks = false) (hB6 : ∀ (x2 : Int32) (x3 : Int32) (x4 : Int32) (x5 : Int32) (M : Mm) (H : Heap) (locs : List Loc) (ls : Array Slot), B6 x2 x3 x4 x5 M → fx_H G SH M s H locs → lv_has ls 6 [(1, .ref (G.2.2.2 + a1)), (2, .int x2), (3, .int x3), (4, .int x4), (5, .int x5)] → W p l e (fx_rm (1)) s m args below meth c H locs 0 0 (MQ below (va_Qi K (fx_R G SH) (fx_A G)) args s 0 0 (fx_A G)) (F0 m 6 ls [])) : ∀ (x2 : Int32) (x3 : Int32) (x5 : Int32) (s0 : Int32) (s1 : Int32) (M : Mm) (H : Heap) (locs : List Loc) (ls : Array Slot), T_X8_gap_43 B6 a1 x2 x3 x5 s0 s1 M K → fx_H G SH M s H locs → lv_has ls 6 [(1, .ref (G.2.2.2 + a1)), (2, .int x2), (3, .int x3), (5, .int x5)] → W p l e (fx_rm (1)) s m args below meth c H locs 0 0 (MQ below (va_Qi K (fx_R G SH) (fx_A G)) args s 0 0 (fx_A G)) (F0 m 43 ls [.int s1, .int s0]) := by
  obtain ⟨⟨hx, hb, hml, hown, hts⟩, hK, hQ⟩ := id X
  intro x2 x3 x5 s0 s1 M H locs ls hT h hl
  unfold T_X8_gap_43 at hT
  refine lv_iadd hx hb dX8_gap_43 ?_
  refine lv_topi (fun y1 ey1 => ?_)
  have hT := hT y1 ey1
  refine lv_istore (lv' := [(4, .int y1), (1, .ref (G.2.2.2 + a1)), (2, .int x2), (3, .int x3), (5, .int x5)]) hx hb dX8_gap_44 hl (by decide) rfl (fun ls hl => ?_)
  obtain ⟨y2, ey2⟩ : ∃ z : Int32, z = x5 + (1 : Int32) := ⟨_, rfl⟩
  have hT := hT y2 ey2
  refine lv_iinc (v := y2) (lv' := [(5, .int y2), (4, .int y1), (1, .ref (G.2.2.2 + a1)), (2, .int x2), (3, .int x3)]) hx hb dX8_gap_46 hl (k := 4) rfl (by rw [ey2]; rfl) (by decide) rfl (fun ls hl => ?_)
  refine lv_goto (tgt := 6) hx hb dX8_gap_49 (by decide) ?_
  exact hB6 x2 x3 y1 y2 M _ _ ls hT h (lv_sub hl [2, 3, 4, 1, 0] rfl)
def T_X8_gap_6 (a1 : Nat) : Nat → Int32 → Int32 → Int32 → Int32 → Mm → (Int32 → Mm → Prop) → Prop
  | 0, _, _, _, _, _, _ => False
  | n + 1, x2, x3, x4, x5, M, K => ((x2 ≤ x5 → (T_X8_gap_52 a1 x4 M K)) ∧ (¬ x2 ≤ x5 → (((nI (ln a1)) ≤ x5 → (T_X8_gap_52 a1 x4 M K)) ∧ (¬ (nI (ln a1)) ≤ x5 → ((((x3 >>> (x5 &&& 31)) &&& (1 : Int32)) = (1 : Int32) → (vp_in x5 (ln a1) ∧ (T_X8_gap_43 (fun x2 x3 x4 x5 M => T_X8_gap_6 a1 n x2 x3 x4 x5 M K) a1 x2 x3 x5 x4 (M a1 (x5).toNatClampNeg) M K))) ∧ (¬ ((x3 >>> (x5 &&& 31)) &&& (1 : Int32)) = (1 : Int32) → (vp_in x5 (ln a1) ∧ (T_X8_gap_43 (fun x2 x3 x4 x5 M => T_X8_gap_6 a1 n x2 x3 x4 x5 M K) a1 x2 x3 x5 x4 (-(M a1 (x5).toNatClampNeg)) M K))))))))
set_option maxHeartbeats 4000000 in
set_option maxRecDepth 100000 in
theorem w_X8_gap_6 {p : Program} {l : Launch} {e : Env} {s : State} {m : MethodId} {args : Array Value} {below : List Frame} {meth : Method} {c : Code} {G : fx_G} {K : Int32 → Mm → Prop} {a1 : Nat} (ha1 : SH[a1]? = some (.inl (ln a1))) (X : fx_C G p s m c args cX8_gap 6 RX8) (hr : meth.sig.returnType = (some .int)) (hk : meth.locks = false) : ∀ (n : Nat) (x2 : Int32) (x3 : Int32) (x4 : Int32) (x5 : Int32) (M : Mm) (H : Heap) (locs : List Loc) (ls : Array Slot), T_X8_gap_6 a1 n x2 x3 x4 x5 M K → fx_H G SH M s H locs → lv_has ls 6 [(1, .ref (G.2.2.2 + a1)), (2, .int x2), (3, .int x3), (4, .int x4), (5, .int x5)] → W p l e (fx_rm (1)) s m args below meth c H locs 0 0 (MQ below (va_Qi K (fx_R G SH) (fx_A G)) args s 0 0 (fx_A G)) (F0 m 6 ls []) := by
  obtain ⟨⟨hx, hb, hml, hown, hts⟩, hK, hQ⟩ := id X
  intro n
  induction n with
  | zero =>
    intro x2 x3 x4 x5 M H locs ls hT
    exact hT.elim
  | succ n ih =>
    intro x2 x3 x4 x5 M H locs ls hT h hl
    rw [T_X8_gap_6] at hT
    refine lv_iload hx hb dX8_gap_6 (lv_at hl 4 rfl) ?_
    refine lv_iload_n hx hb dX8_gap_8 rfl (lv_at hl 1 rfl) ?_
    refine lv_icmp_ge (tgt := 52) hx hb dX8_gap_9 (by decide) (fun hc3 => ?_) (fun hc3 => ?_)
    · have hT := hT.1 hc3
      exact w_X8_gap_52 ha1 X hr hk x4 M _ _ ls hT h (lv_sub hl [3] rfl)
    · have hT := hT.2 hc3
      refine lv_iload hx hb dX8_gap_12 (lv_at hl 4 rfl) ?_
      refine lv_aload_n hx hb dX8_gap_14 rfl (lv_at hl 0 rfl) ?_
      refine fx_alen X h (k := a1) ha1 dX8_gap_15 ?_
      refine lv_icmp_ge (tgt := 52) hx hb dX8_gap_16 (by decide) (fun hc4 => ?_) (fun hc4 => ?_)
      · have hT := hT.1 hc4
        exact w_X8_gap_52 ha1 X hr hk x4 M _ _ ls hT h (lv_sub hl [3] rfl)
      · have hT := hT.2 hc4
        refine lv_iload hx hb dX8_gap_19 (lv_at hl 3 rfl) ?_
        refine lv_iload_n hx hb dX8_gap_21 rfl (lv_at hl 2 rfl) ?_
        refine lv_iload hx hb dX8_gap_22 (lv_at hl 4 rfl) ?_
        refine lv_ishr hx hb dX8_gap_24 ?_
        refine lv_iconst (v := 1) hx hb dX8_gap_25 (by decide) ?_
        refine lv_iand hx hb dX8_gap_26 ?_
        refine lv_iconst (v := 1) hx hb dX8_gap_27 (by decide) ?_
        refine lv_icmp_ne (tgt := 38) hx hb dX8_gap_28 (by decide) (fun hc5 => ?_) (fun hc5 => ?_)
        · have hT := hT.2 hc5
          refine lv_aload_n hx hb dX8_gap_38 rfl (lv_at hl 0 rfl) ?_
          refine lv_iload hx hb dX8_gap_39 (lv_at hl 4 rfl) ?_
          obtain ⟨hi6, hT⟩ := hT
          refine fx_iald X h (k := a1) ha1 hi6 dX8_gap_41 ?_
          refine lv_ineg hx hb dX8_gap_42 ?_
          exact w_X8_gap_43 ha1 X hr hk (B6 := (fun x2 x3 x4 x5 M => T_X8_gap_6 a1 n x2 x3 x4 x5 M K)) ih x2 x3 x5 x4 (-(M a1 (x5).toNatClampNeg)) M _ _ ls hT h (lv_sub hl [0, 1, 2, 4] rfl)
        · have hT := hT.1 hc5
          refine lv_aload_n hx hb dX8_gap_31 rfl (lv_at hl 0 rfl) ?_
          refine lv_iload hx hb dX8_gap_32 (lv_at hl 4 rfl) ?_
          obtain ⟨hi7, hT⟩ := hT
          refine fx_iald X h (k := a1) ha1 hi7 dX8_gap_34 ?_
          refine lv_goto (tgt := 43) hx hb dX8_gap_35 (by decide) ?_
          exact w_X8_gap_43 ha1 X hr hk (B6 := (fun x2 x3 x4 x5 M => T_X8_gap_6 a1 n x2 x3 x4 x5 M K)) ih x2 x3 x5 x4 (M a1 (x5).toNatClampNeg) M _ _ ls hT h (lv_sub hl [0, 1, 2, 4] rfl)
def T_X8_gap (a1 : Nat) (x2 : Int32) (x3 : Int32) (M : Mm) (K : Int32 → Mm → Prop) : Prop := (T_X8_gap_6 a1 5000 x2 x3 (0 : Int32) (0 : Int32) M K)
set_option maxHeartbeats 4000000 in
set_option maxRecDepth 100000 in
theorem c_X8_gap (l : Launch) (G : fx_G) {a1 : Nat} (ha1 : SH[a1]? = some (.inl (ln a1))) {x2 : Int32} {x3 : Int32} {M : Mm} {K : Int32 → Mm → Prop} (hT : T_X8_gap a1 x2 x3 M K) : Met l yX8_gap (fx_ws yX8_gap cX8_gap 6 (some .int)) (fx_rm (1)) (va_Pc [.ref (G.2.2.2 + 151), .ref (G.2.2.2 + a1), .int x2, .int x3] (fx_P G SH M)) (va_Qi K (fx_R G SH) (fx_A G)) 0 0 (fx_A G) := by
  refine fx_met (own := RX8) (by decide +kernel) rfl (Nat.le_of_ble_eq_true rfl) (fun p e s m below meth c X hr hk h ls hl => ?_)
  obtain ⟨⟨hx, hb, hml, hown, hts⟩, hK, hQ⟩ := id X
  have hl : lv_has ls 6 [(0, .ref (G.2.2.2 + 151)), (1, .ref (G.2.2.2 + a1)), (2, .int x2), (3, .int x3)] := hl
  unfold T_X8_gap at hT
  refine lv_iconst (v := 0) hx hb dX8_gap_0 (by decide) ?_
  refine lv_istore (lv' := [(4, .int (0 : Int32)), (0, .ref (G.2.2.2 + 151)), (1, .ref (G.2.2.2 + a1)), (2, .int x2), (3, .int x3)]) hx hb dX8_gap_1 hl (by decide) rfl (fun ls hl => ?_)
  refine lv_iconst (v := 0) hx hb dX8_gap_3 (by decide) ?_
  refine lv_istore (lv' := [(5, .int (0 : Int32)), (4, .int (0 : Int32)), (0, .ref (G.2.2.2 + 151)), (1, .ref (G.2.2.2 + a1)), (2, .int x2), (3, .int x3)]) hx hb dX8_gap_4 hl (by decide) rfl (fun ls hl => ?_)
  exact w_X8_gap_6 ha1 X hr hk 5000 x2 x3 (0 : Int32) (0 : Int32) M _ _ ls hT h (lv_sub hl [3, 4, 5, 1, 0] rfl)
/-! MockParcels$Sums.nearestSide([II)I -/
theorem dX8_nearestSide_0 : decode cX8_nearestSide 0 = .ok (.iload_n 2, 1) := by decide +kernel
theorem dX8_nearestSide_1 : decode cX8_nearestSide 1 = .ok (.bipush 8, 2) := by decide +kernel
theorem dX8_nearestSide_3 : decode cX8_nearestSide 3 = .ok (.invokestatic 51, 3) := by decide +kernel
theorem dX8_nearestSide_6 : decode cX8_nearestSide 6 = .ok (.istore_n 3, 1) := by decide +kernel
theorem dX8_nearestSide_7 : decode cX8_nearestSide 7 = .ok (.iconst 1, 1) := by decide +kernel
theorem dX8_nearestSide_8 : decode cX8_nearestSide 8 = .ok (.istore 4, 2) := by decide +kernel
theorem dX8_nearestSide_10 : decode cX8_nearestSide 10 = .ok (.iconst 3, 1) := by decide +kernel
theorem dX8_nearestSide_11 : decode cX8_nearestSide 11 = .ok (.istore 5, 2) := by decide +kernel
theorem dX8_nearestSide_13 : decode cX8_nearestSide 13 = .ok (.iload 5, 2) := by decide +kernel
theorem dX8_nearestSide_15 : decode cX8_nearestSide 15 = .ok (.iconst 1, 1) := by decide +kernel
theorem dX8_nearestSide_16 : decode cX8_nearestSide 16 = .ok (.iload_n 3, 1) := by decide +kernel
theorem dX8_nearestSide_17 : decode cX8_nearestSide 17 = .ok (.ishl, 1) := by decide +kernel
theorem dX8_nearestSide_18 : decode cX8_nearestSide 18 = .ok (.iconst 1, 1) := by decide +kernel
theorem dX8_nearestSide_19 : decode cX8_nearestSide 19 = .ok (.isub, 1) := by decide +kernel
theorem dX8_nearestSide_20 : decode cX8_nearestSide 20 = .ok (.if_icmp .ge 32, 3) := by decide +kernel
theorem dX8_nearestSide_23 : decode cX8_nearestSide 23 = .ok (.aload_n 0, 1) := by decide +kernel
theorem dX8_nearestSide_24 : decode cX8_nearestSide 24 = .ok (.aload_n 1, 1) := by decide +kernel
theorem dX8_nearestSide_25 : decode cX8_nearestSide 25 = .ok (.iload_n 3, 1) := by decide +kernel
theorem dX8_nearestSide_26 : decode cX8_nearestSide 26 = .ok (.iload 5, 2) := by decide +kernel
theorem dX8_nearestSide_28 : decode cX8_nearestSide 28 = .ok (.invokevirtual 145, 3) := by decide +kernel
theorem dX8_nearestSide_31 : decode cX8_nearestSide 31 = .ok (.aload_n 0, 1) := by decide +kernel
theorem dX8_nearestSide_32 : decode cX8_nearestSide 32 = .ok (.aload_n 1, 1) := by decide +kernel
theorem dX8_nearestSide_33 : decode cX8_nearestSide 33 = .ok (.iload_n 3, 1) := by decide +kernel
theorem dX8_nearestSide_34 : decode cX8_nearestSide 34 = .ok (.iload 4, 2) := by decide +kernel
theorem dX8_nearestSide_36 : decode cX8_nearestSide 36 = .ok (.invokevirtual 145, 3) := by decide +kernel
theorem dX8_nearestSide_39 : decode cX8_nearestSide 39 = .ok (.if_icmp .ge 7, 3) := by decide +kernel
theorem dX8_nearestSide_42 : decode cX8_nearestSide 42 = .ok (.iload 5, 2) := by decide +kernel
theorem dX8_nearestSide_44 : decode cX8_nearestSide 44 = .ok (.istore 4, 2) := by decide +kernel
theorem dX8_nearestSide_46 : decode cX8_nearestSide 46 = .ok (.iinc 5 2, 3) := by decide +kernel
theorem dX8_nearestSide_49 : decode cX8_nearestSide 49 = .ok (.goto (-36), 3) := by decide +kernel
theorem dX8_nearestSide_52 : decode cX8_nearestSide 52 = .ok (.iload 4, 2) := by decide +kernel
theorem dX8_nearestSide_54 : decode cX8_nearestSide 54 = .ok (.ireturn, 1) := by decide +kernel
def T_X8_nearestSide_46 (B13 : Int32 → Int32 → Int32 → Mm → Prop) (a1 : Nat) (x3 : Int32) (x4 : Int32) (x5 : Int32) (M : Mm) (K : Int32 → Mm → Prop) : Prop := (∀ y1 : Int32, y1 = x5 + (2 : Int32) → (B13 x3 x4 y1 M))
set_option maxHeartbeats 4000000 in
set_option maxRecDepth 100000 in
theorem w_X8_nearestSide_46 {p : Program} {l : Launch} {e : Env} {s : State} {m : MethodId} {args : Array Value} {below : List Frame} {meth : Method} {c : Code} {G : fx_G} {K : Int32 → Mm → Prop} {B13 : Int32 → Int32 → Int32 → Mm → Prop} {a1 : Nat} (ha1 : SH[a1]? = some (.inl (ln a1))) (X : fx_C G p s m c args cX8_nearestSide 6 RX8) (hr : meth.sig.returnType = (some .int)) (hk : meth.locks = false) (hB13 : ∀ (x3 : Int32) (x4 : Int32) (x5 : Int32) (M : Mm) (H : Heap) (locs : List Loc) (ls : Array Slot), B13 x3 x4 x5 M → fx_H G SH M s H locs → lv_has ls 6 [(0, .ref (G.2.2.2 + 151)), (1, .ref (G.2.2.2 + a1)), (3, .int x3), (4, .int x4), (5, .int x5)] → W p l e (fx_rm (2)) s m args below meth c H locs 0 0 (MQ below (va_Qi K (fx_R G SH) (fx_A G)) args s 0 0 (fx_A G)) (F0 m 13 ls [])) : ∀ (x3 : Int32) (x4 : Int32) (x5 : Int32) (M : Mm) (H : Heap) (locs : List Loc) (ls : Array Slot), T_X8_nearestSide_46 B13 a1 x3 x4 x5 M K → fx_H G SH M s H locs → lv_has ls 6 [(0, .ref (G.2.2.2 + 151)), (1, .ref (G.2.2.2 + a1)), (3, .int x3), (4, .int x4), (5, .int x5)] → W p l e (fx_rm (2)) s m args below meth c H locs 0 0 (MQ below (va_Qi K (fx_R G SH) (fx_A G)) args s 0 0 (fx_A G)) (F0 m 46 ls []) := by
  obtain ⟨⟨hx, hb, hml, hown, hts⟩, hK, hQ⟩ := id X
  intro x3 x4 x5 M H locs ls hT h hl
  unfold T_X8_nearestSide_46 at hT
  obtain ⟨y1, ey1⟩ : ∃ z : Int32, z = x5 + (2 : Int32) := ⟨_, rfl⟩
  have hT := hT y1 ey1
  refine lv_iinc (v := y1) (lv' := [(5, .int y1), (0, .ref (G.2.2.2 + 151)), (1, .ref (G.2.2.2 + a1)), (3, .int x3), (4, .int x4)]) hx hb dX8_nearestSide_46 hl (k := 4) rfl (by rw [ey1]; rfl) (by decide) rfl (fun ls hl => ?_)
  refine lv_goto (tgt := 13) hx hb dX8_nearestSide_49 (by decide) ?_
  exact hB13 x3 x4 y1 M _ _ ls hT h (lv_sub hl [1, 2, 3, 4, 0] rfl)
def T_X8_nearestSide_13 (a1 : Nat) : Nat → Int32 → Int32 → Int32 → Mm → (Int32 → Mm → Prop) → Prop
  | 0, _, _, _, _, _ => False
  | n + 1, x3, x4, x5, M, K => (((((1 : Int32) <<< (x3 &&& 31)) - (1 : Int32)) ≤ x5 → (K x4 M)) ∧ (¬ (((1 : Int32) <<< (x3 &&& 31)) - (1 : Int32)) ≤ x5 → (T_X8_gap a1 x3 x5 M (fun r5 M4 => (T_X8_gap a1 x3 x4 M4 (fun r8 M7 => ((r8 ≤ r5 → (T_X8_nearestSide_46 (fun x3 x4 x5 M => T_X8_nearestSide_13 a1 n x3 x4 x5 M K) a1 x3 x4 x5 M7 K)) ∧ (¬ r8 ≤ r5 → (T_X8_nearestSide_46 (fun x3 x4 x5 M => T_X8_nearestSide_13 a1 n x3 x4 x5 M K) a1 x3 x5 x5 M7 K)))))))))
set_option maxHeartbeats 4000000 in
set_option maxRecDepth 100000 in
theorem w_X8_nearestSide_13 {p : Program} {l : Launch} {e : Env} {s : State} {m : MethodId} {args : Array Value} {below : List Frame} {meth : Method} {c : Code} {G : fx_G} {K : Int32 → Mm → Prop} {a1 : Nat} (ha1 : SH[a1]? = some (.inl (ln a1))) (X : fx_C G p s m c args cX8_nearestSide 6 RX8) (hr : meth.sig.returnType = (some .int)) (hk : meth.locks = false) : ∀ (n : Nat) (x3 : Int32) (x4 : Int32) (x5 : Int32) (M : Mm) (H : Heap) (locs : List Loc) (ls : Array Slot), T_X8_nearestSide_13 a1 n x3 x4 x5 M K → fx_H G SH M s H locs → lv_has ls 6 [(0, .ref (G.2.2.2 + 151)), (1, .ref (G.2.2.2 + a1)), (3, .int x3), (4, .int x4), (5, .int x5)] → W p l e (fx_rm (2)) s m args below meth c H locs 0 0 (MQ below (va_Qi K (fx_R G SH) (fx_A G)) args s 0 0 (fx_A G)) (F0 m 13 ls []) := by
  obtain ⟨⟨hx, hb, hml, hown, hts⟩, hK, hQ⟩ := id X
  intro n
  induction n with
  | zero =>
    intro x3 x4 x5 M H locs ls hT
    exact hT.elim
  | succ n ih =>
    intro x3 x4 x5 M H locs ls hT h hl
    rw [T_X8_nearestSide_13] at hT
    refine lv_iload hx hb dX8_nearestSide_13 (lv_at hl 4 rfl) ?_
    refine lv_iconst (v := 1) hx hb dX8_nearestSide_15 (by decide) ?_
    refine lv_iload_n hx hb dX8_nearestSide_16 rfl (lv_at hl 2 rfl) ?_
    refine lv_ishl hx hb dX8_nearestSide_17 ?_
    refine lv_iconst (v := 1) hx hb dX8_nearestSide_18 (by decide) ?_
    refine lv_isub hx hb dX8_nearestSide_19 ?_
    refine lv_icmp_ge (tgt := 52) hx hb dX8_nearestSide_20 (by decide) (fun hc2 => ?_) (fun hc2 => ?_)
    · have hT := hT.1 hc2
      refine lv_iload hx hb dX8_nearestSide_52 (lv_at hl 3 rfl) ?_
      exact fx_iret X hr hk h hT dX8_nearestSide_54
    · have hT := hT.2 hc2
      refine lv_aload_n hx hb dX8_nearestSide_23 rfl (lv_at hl 0 rfl) ?_
      refine lv_aload_n hx hb dX8_nearestSide_24 rfl (lv_at hl 1 rfl) ?_
      refine lv_iload_n hx hb dX8_nearestSide_25 rfl (lv_at hl 2 rfl) ?_
      refine lv_iload hx hb dX8_nearestSide_26 (lv_at hl 4 rfl) ?_
      refine fx_vi X h ym_X8_gap yi_X8_gap ys_X8_gap (fx_s6 (List.mem_of_getElem? (i := 15) rfl) rfl) sh_151 rfl (c_X8_gap l G (ln_of ha1) hT) (As := [.ref (G.2.2.2 + a1), .int x3, .int x5]) (rest := []) rfl rfl ⟨Nat.le_of_ble_eq_true rfl, Nat.le_of_ble_eq_true rfl⟩ ⟨Nat.le_refl _, Nat.le_refl _⟩ hl.1 (Nat.le_of_ble_eq_true rfl) dX8_nearestSide_28 (fun r5 M4 H locs hT h => ?_)
      refine lv_aload_n hx hb dX8_nearestSide_31 rfl (lv_at hl 0 rfl) ?_
      refine lv_aload_n hx hb dX8_nearestSide_32 rfl (lv_at hl 1 rfl) ?_
      refine lv_iload_n hx hb dX8_nearestSide_33 rfl (lv_at hl 2 rfl) ?_
      refine lv_iload hx hb dX8_nearestSide_34 (lv_at hl 3 rfl) ?_
      refine fx_vi X h ym_X8_gap yi_X8_gap ys_X8_gap (fx_s6 (List.mem_of_getElem? (i := 15) rfl) rfl) sh_151 rfl (c_X8_gap l G (ln_of ha1) hT) (As := [.ref (G.2.2.2 + a1), .int x3, .int x4]) (rest := [.int r5]) rfl rfl ⟨Nat.le_of_ble_eq_true rfl, Nat.le_of_ble_eq_true rfl⟩ ⟨Nat.le_refl _, Nat.le_refl _⟩ hl.1 (Nat.le_of_ble_eq_true rfl) dX8_nearestSide_36 (fun r8 M7 H locs hT h => ?_)
      refine lv_icmp_ge (tgt := 46) hx hb dX8_nearestSide_39 (by decide) (fun hc9 => ?_) (fun hc9 => ?_)
      · have hT := hT.1 hc9
        exact w_X8_nearestSide_46 ha1 X hr hk (B13 := (fun x3 x4 x5 M => T_X8_nearestSide_13 a1 n x3 x4 x5 M K)) ih x3 x4 x5 M7 _ _ ls hT h (lv_sub hl [0, 1, 2, 3, 4] rfl)
      · have hT := hT.2 hc9
        refine lv_iload hx hb dX8_nearestSide_42 (lv_at hl 4 rfl) ?_
        refine lv_istore (lv' := [(4, .int x5), (0, .ref (G.2.2.2 + 151)), (1, .ref (G.2.2.2 + a1)), (3, .int x3), (5, .int x5)]) hx hb dX8_nearestSide_44 hl (by decide) rfl (fun ls hl => ?_)
        exact w_X8_nearestSide_46 ha1 X hr hk (B13 := (fun x3 x4 x5 M => T_X8_nearestSide_13 a1 n x3 x4 x5 M K)) ih x3 x5 x5 M7 _ _ ls hT h (lv_sub hl [1, 2, 3, 0, 4] rfl)
def T_X8_nearestSide (a1 : Nat) (x2 : Int32) (M : Mm) (K : Int32 → Mm → Prop) : Prop := (∀ y10 : Int32, y10 = (if (8 : Int32) < x2 then (8 : Int32) else x2) → (T_X8_nearestSide_13 a1 5000 y10 (1 : Int32) (3 : Int32) M K))
set_option maxHeartbeats 4000000 in
set_option maxRecDepth 100000 in
theorem c_X8_nearestSide (l : Launch) (G : fx_G) {a1 : Nat} (ha1 : SH[a1]? = some (.inl (ln a1))) {x2 : Int32} {M : Mm} {K : Int32 → Mm → Prop} (hT : T_X8_nearestSide a1 x2 M K) : Met l yX8_nearestSide (fx_ws yX8_nearestSide cX8_nearestSide 6 (some .int)) (fx_rm (2)) (va_Pc [.ref (G.2.2.2 + 151), .ref (G.2.2.2 + a1), .int x2] (fx_P G SH M)) (va_Qi K (fx_R G SH) (fx_A G)) 0 0 (fx_A G) := by
  refine fx_met (own := RX8) (by decide +kernel) rfl (Nat.le_of_ble_eq_true rfl) (fun p e s m below meth c X hr hk h ls hl => ?_)
  obtain ⟨⟨hx, hb, hml, hown, hts⟩, hK, hQ⟩ := id X
  have hl : lv_has ls 6 [(0, .ref (G.2.2.2 + 151)), (1, .ref (G.2.2.2 + a1)), (2, .int x2)] := hl
  unfold T_X8_nearestSide at hT
  refine lv_iload_n hx hb dX8_nearestSide_0 rfl (lv_at hl 2 rfl) ?_
  refine lv_bipush (v := 8) hx hb dX8_nearestSide_1 (by decide) ?_
  refine va_mmin hx hb (hml.trans hl.1.symm) hown (hts _ (fx_s5 (List.mem_of_getElem? (i := 103) rfl) rfl)) (hts _ mt_min_s) (hts _ mt_i) (hts _ mt_min_c) (Nat.le_of_ble_eq_true rfl) (Nat.le_of_ble_eq_true rfl) (Nat.le_refl _) (Nat.le_refl _) dX8_nearestSide_3 ?_
  refine lv_topi (fun y10 ey10 => ?_)
  have hT := hT y10 ey10
  refine lv_istore_n (lv' := [(3, .int y10), (0, .ref (G.2.2.2 + 151)), (1, .ref (G.2.2.2 + a1)), (2, .int x2)]) hx hb dX8_nearestSide_6 rfl hl (by decide) rfl (fun ls hl => ?_)
  refine lv_iconst (v := 1) hx hb dX8_nearestSide_7 (by decide) ?_
  refine lv_istore (lv' := [(4, .int (1 : Int32)), (3, .int y10), (0, .ref (G.2.2.2 + 151)), (1, .ref (G.2.2.2 + a1)), (2, .int x2)]) hx hb dX8_nearestSide_8 hl (by decide) rfl (fun ls hl => ?_)
  refine lv_iconst (v := 3) hx hb dX8_nearestSide_10 (by decide) ?_
  refine lv_istore (lv' := [(5, .int (3 : Int32)), (4, .int (1 : Int32)), (3, .int y10), (0, .ref (G.2.2.2 + 151)), (1, .ref (G.2.2.2 + a1)), (2, .int x2)]) hx hb dX8_nearestSide_11 hl (by decide) rfl (fun ls hl => ?_)
  exact w_X8_nearestSide_13 ha1 X hr hk 5000 y10 (1 : Int32) (3 : Int32) M _ _ ls hT h (lv_sub hl [3, 4, 2, 1, 0] rfl)
/-! MockParcels$Sums.worth(I)I -/
theorem dX8_worth_0 : decode cX8_worth 0 = .ok (.iload_n 1, 1) := by decide +kernel
theorem dX8_worth_1 : decode cX8_worth 1 = .ok (.ifCond .gt 7, 3) := by decide +kernel
theorem dX8_worth_4 : decode cX8_worth 4 = .ok (.iconst 0, 1) := by decide +kernel
theorem dX8_worth_5 : decode cX8_worth 5 = .ok (.goto 10, 3) := by decide +kernel
theorem dX8_worth_8 : decode cX8_worth 8 = .ok (.iload_n 1, 1) := by decide +kernel
theorem dX8_worth_9 : decode cX8_worth 9 = .ok (.iconst 1, 1) := by decide +kernel
theorem dX8_worth_10 : decode cX8_worth 10 = .ok (.isub, 1) := by decide +kernel
theorem dX8_worth_11 : decode cX8_worth 11 = .ok (.iconst 3, 1) := by decide +kernel
theorem dX8_worth_12 : decode cX8_worth 12 = .ok (.irem, 1) := by decide +kernel
theorem dX8_worth_13 : decode cX8_worth 13 = .ok (.iconst 1, 1) := by decide +kernel
theorem dX8_worth_14 : decode cX8_worth 14 = .ok (.iadd, 1) := by decide +kernel
theorem dX8_worth_15 : decode cX8_worth 15 = .ok (.ireturn, 1) := by decide +kernel
def T_X8_worth (x1 : Int32) (M : Mm) (K : Int32 → Mm → Prop) : Prop := ((0 < x1 → (K (((x1 - (1 : Int32)) - (x1 - (1 : Int32)) / (3 : Int32) * (3 : Int32)) + (1 : Int32)) M)) ∧ (¬ 0 < x1 → (K (0 : Int32) M)))
set_option maxHeartbeats 4000000 in
set_option maxRecDepth 100000 in
theorem c_X8_worth (l : Launch) (G : fx_G) {x1 : Int32} {M : Mm} {K : Int32 → Mm → Prop} (hT : T_X8_worth x1 M K) : Met l yX8_worth (fx_ws yX8_worth cX8_worth 2 (some .int)) (fx_rm (0)) (va_Pc [.ref (G.2.2.2 + 151), .int x1] (fx_P G SH M)) (va_Qi K (fx_R G SH) (fx_A G)) 0 0 (fx_A G) := by
  refine fx_met (own := RX8) (by decide +kernel) rfl (Nat.le_of_ble_eq_true rfl) (fun p e s m below meth c X hr hk h ls hl => ?_)
  obtain ⟨⟨hx, hb, hml, hown, hts⟩, hK, hQ⟩ := id X
  have hl : lv_has ls 2 [(0, .ref (G.2.2.2 + 151)), (1, .int x1)] := hl
  unfold T_X8_worth at hT
  refine lv_iload_n hx hb dX8_worth_0 rfl (lv_at hl 1 rfl) ?_
  refine lv_if_gt (tgt := 8) hx hb dX8_worth_1 (by decide) (fun hc1 => ?_) (fun hc1 => ?_)
  · have hT := hT.1 hc1
    refine lv_iload_n hx hb dX8_worth_8 rfl (lv_at hl 1 rfl) ?_
    refine lv_iconst (v := 1) hx hb dX8_worth_9 (by decide) ?_
    refine lv_isub hx hb dX8_worth_10 ?_
    refine lv_iconst (v := 3) hx hb dX8_worth_11 (by decide) ?_
    refine lv_irem hx hb dX8_worth_12 (by decide) ?_
    refine lv_iconst (v := 1) hx hb dX8_worth_13 (by decide) ?_
    refine lv_iadd hx hb dX8_worth_14 ?_
    exact fx_iret X hr hk h hT dX8_worth_15
  · have hT := hT.2 hc1
    refine lv_iconst (v := 0) hx hb dX8_worth_4 (by decide) ?_
    refine lv_goto (tgt := 15) hx hb dX8_worth_5 (by decide) ?_
    exact fx_iret X hr hk h hT dX8_worth_15
/-! MockParcels$Sums.worthOfAll(LMockParcels$Cast;LMockParcels$Quay;)I -/
theorem dX8_worthOfAll_0 : decode cX8_worthOfAll 0 = .ok (.iconst 0, 1) := by decide +kernel
theorem dX8_worthOfAll_1 : decode cX8_worthOfAll 1 = .ok (.istore_n 3, 1) := by decide +kernel
theorem dX8_worthOfAll_2 : decode cX8_worthOfAll 2 = .ok (.iconst 0, 1) := by decide +kernel
theorem dX8_worthOfAll_3 : decode cX8_worthOfAll 3 = .ok (.istore 4, 2) := by decide +kernel
theorem dX8_worthOfAll_5 : decode cX8_worthOfAll 5 = .ok (.iload 4, 2) := by decide +kernel
theorem dX8_worthOfAll_7 : decode cX8_worthOfAll 7 = .ok (.aload_n 1, 1) := by decide +kernel
theorem dX8_worthOfAll_8 : decode cX8_worthOfAll 8 = .ok (.getfield 149, 3) := by decide +kernel
theorem dX8_worthOfAll_11 : decode cX8_worthOfAll 11 = .ok (.if_icmp .ge 41, 3) := by decide +kernel
theorem dX8_worthOfAll_14 : decode cX8_worthOfAll 14 = .ok (.iload 4, 2) := by decide +kernel
theorem dX8_worthOfAll_16 : decode cX8_worthOfAll 16 = .ok (.bipush 16, 2) := by decide +kernel
theorem dX8_worthOfAll_18 : decode cX8_worthOfAll 18 = .ok (.if_icmp .ge 34, 3) := by decide +kernel
theorem dX8_worthOfAll_21 : decode cX8_worthOfAll 21 = .ok (.aload_n 2, 1) := by decide +kernel
theorem dX8_worthOfAll_22 : decode cX8_worthOfAll 22 = .ok (.getfield 154, 3) := by decide +kernel
theorem dX8_worthOfAll_25 : decode cX8_worthOfAll 25 = .ok (.iload 4, 2) := by decide +kernel
theorem dX8_worthOfAll_27 : decode cX8_worthOfAll 27 = .ok (.iaload, 1) := by decide +kernel
theorem dX8_worthOfAll_28 : decode cX8_worthOfAll 28 = .ok (.iconst (-1), 1) := by decide +kernel
theorem dX8_worthOfAll_29 : decode cX8_worthOfAll 29 = .ok (.if_icmp .ne 17, 3) := by decide +kernel
theorem dX8_worthOfAll_32 : decode cX8_worthOfAll 32 = .ok (.iload_n 3, 1) := by decide +kernel
theorem dX8_worthOfAll_33 : decode cX8_worthOfAll 33 = .ok (.aload_n 0, 1) := by decide +kernel
theorem dX8_worthOfAll_34 : decode cX8_worthOfAll 34 = .ok (.aload_n 1, 1) := by decide +kernel
theorem dX8_worthOfAll_35 : decode cX8_worthOfAll 35 = .ok (.getfield 166, 3) := by decide +kernel
theorem dX8_worthOfAll_38 : decode cX8_worthOfAll 38 = .ok (.iload 4, 2) := by decide +kernel
theorem dX8_worthOfAll_40 : decode cX8_worthOfAll 40 = .ok (.iaload, 1) := by decide +kernel
theorem dX8_worthOfAll_41 : decode cX8_worthOfAll 41 = .ok (.invokevirtual 173, 3) := by decide +kernel
theorem dX8_worthOfAll_44 : decode cX8_worthOfAll 44 = .ok (.ixor, 1) := by decide +kernel
theorem dX8_worthOfAll_45 : decode cX8_worthOfAll 45 = .ok (.istore_n 3, 1) := by decide +kernel
theorem dX8_worthOfAll_46 : decode cX8_worthOfAll 46 = .ok (.iinc 4 1, 3) := by decide +kernel
theorem dX8_worthOfAll_49 : decode cX8_worthOfAll 49 = .ok (.goto (-44), 3) := by decide +kernel
theorem dX8_worthOfAll_52 : decode cX8_worthOfAll 52 = .ok (.iload_n 3, 1) := by decide +kernel
theorem dX8_worthOfAll_53 : decode cX8_worthOfAll 53 = .ok (.ireturn, 1) := by decide +kernel
def T_X8_worthOfAll_46 (B5 : Int32 → Int32 → Mm → Prop) (o1 : Nat) (o2 : Nat) (x3 : Int32) (x4 : Int32) (M : Mm) (K : Int32 → Mm → Prop) : Prop := (∀ y1 : Int32, y1 = x4 + (1 : Int32) → (B5 x3 y1 M))
set_option maxHeartbeats 4000000 in
set_option maxRecDepth 100000 in
theorem w_X8_worthOfAll_46 {p : Program} {l : Launch} {e : Env} {s : State} {m : MethodId} {args : Array Value} {below : List Frame} {meth : Method} {c : Code} {G : fx_G} {K : Int32 → Mm → Prop} {B5 : Int32 → Int32 → Mm → Prop} {o1 : Nat} {o2 : Nat} (ho1 : o1 ∈ id_Cast) (ho2 : o2 ∈ id_Quay) (X : fx_C G p s m c args cX8_worthOfAll 5 RX8) (hr : meth.sig.returnType = (some .int)) (hk : meth.locks = false) (hB5 : ∀ (x3 : Int32) (x4 : Int32) (M : Mm) (H : Heap) (locs : List Loc) (ls : Array Slot), B5 x3 x4 M → fx_H G SH M s H locs → lv_has ls 5 [(0, .ref (G.2.2.2 + 151)), (1, .ref (G.2.2.2 + o1)), (2, .ref (G.2.2.2 + o2)), (3, .int x3), (4, .int x4)] → W p l e (fx_rm (1)) s m args below meth c H locs 0 0 (MQ below (va_Qi K (fx_R G SH) (fx_A G)) args s 0 0 (fx_A G)) (F0 m 5 ls [])) : ∀ (x3 : Int32) (x4 : Int32) (M : Mm) (H : Heap) (locs : List Loc) (ls : Array Slot), T_X8_worthOfAll_46 B5 o1 o2 x3 x4 M K → fx_H G SH M s H locs → lv_has ls 5 [(0, .ref (G.2.2.2 + 151)), (1, .ref (G.2.2.2 + o1)), (2, .ref (G.2.2.2 + o2)), (3, .int x3), (4, .int x4)] → W p l e (fx_rm (1)) s m args below meth c H locs 0 0 (MQ below (va_Qi K (fx_R G SH) (fx_A G)) args s 0 0 (fx_A G)) (F0 m 46 ls []) := by
  obtain ⟨⟨hx, hb, hml, hown, hts⟩, hK, hQ⟩ := id X
  intro x3 x4 M H locs ls hT h hl
  unfold T_X8_worthOfAll_46 at hT
  obtain ⟨y1, ey1⟩ : ∃ z : Int32, z = x4 + (1 : Int32) := ⟨_, rfl⟩
  have hT := hT y1 ey1
  refine lv_iinc (v := y1) (lv' := [(4, .int y1), (0, .ref (G.2.2.2 + 151)), (1, .ref (G.2.2.2 + o1)), (2, .ref (G.2.2.2 + o2)), (3, .int x3)]) hx hb dX8_worthOfAll_46 hl (k := 4) rfl (by rw [ey1]; rfl) (by decide) rfl (fun ls hl => ?_)
  refine lv_goto (tgt := 5) hx hb dX8_worthOfAll_49 (by decide) ?_
  exact hB5 x3 y1 M _ _ ls hT h (lv_sub hl [1, 2, 3, 4, 0] rfl)
def T_X8_worthOfAll_5 (o1 : Nat) (o2 : Nat) : Nat → Int32 → Int32 → Mm → (Int32 → Mm → Prop) → Prop
  | 0, _, _, _, _ => False
  | n + 1, x3, x4, M, K => (((M o1 0) ≤ x4 → (K x3 M)) ∧ (¬ (M o1 0) ≤ x4 → (((16 : Int32) ≤ x4 → (K x3 M)) ∧ (¬ (16 : Int32) ≤ x4 → (vp_in x4 16 ∧ (((M (rf o2 0) (x4).toNatClampNeg) = (-1 : Int32) → (vp_in x4 16 ∧ (T_X8_worth (M (rf o1 4) (x4).toNatClampNeg) M (fun r9 M8 => (∀ y10 : Int32, y10 = (x3 ^^^ r9) → (T_X8_worthOfAll_46 (fun x3 x4 M => T_X8_worthOfAll_5 o1 o2 n x3 x4 M K) o1 o2 y10 x4 M8 K)))))) ∧ (¬ (M (rf o2 0) (x4).toNatClampNeg) = (-1 : Int32) → (T_X8_worthOfAll_46 (fun x3 x4 M => T_X8_worthOfAll_5 o1 o2 n x3 x4 M K) o1 o2 x3 x4 M K))))))))
set_option maxHeartbeats 4000000 in
set_option maxRecDepth 100000 in
theorem w_X8_worthOfAll_5 {p : Program} {l : Launch} {e : Env} {s : State} {m : MethodId} {args : Array Value} {below : List Frame} {meth : Method} {c : Code} {G : fx_G} {K : Int32 → Mm → Prop} {o1 : Nat} {o2 : Nat} (ho1 : o1 ∈ id_Cast) (ho2 : o2 ∈ id_Quay) (X : fx_C G p s m c args cX8_worthOfAll 5 RX8) (hr : meth.sig.returnType = (some .int)) (hk : meth.locks = false) : ∀ (n : Nat) (x3 : Int32) (x4 : Int32) (M : Mm) (H : Heap) (locs : List Loc) (ls : Array Slot), T_X8_worthOfAll_5 o1 o2 n x3 x4 M K → fx_H G SH M s H locs → lv_has ls 5 [(0, .ref (G.2.2.2 + 151)), (1, .ref (G.2.2.2 + o1)), (2, .ref (G.2.2.2 + o2)), (3, .int x3), (4, .int x4)] → W p l e (fx_rm (1)) s m args below meth c H locs 0 0 (MQ below (va_Qi K (fx_R G SH) (fx_A G)) args s 0 0 (fx_A G)) (F0 m 5 ls []) := by
  obtain ⟨⟨hx, hb, hml, hown, hts⟩, hK, hQ⟩ := id X
  intro n
  induction n with
  | zero =>
    intro x3 x4 M H locs ls hT
    exact hT.elim
  | succ n ih =>
    intro x3 x4 M H locs ls hT h hl
    rw [T_X8_worthOfAll_5] at hT
    refine lv_iload hx hb dX8_worthOfAll_5 (lv_at hl 4 rfl) ?_
    refine lv_aload_n hx hb dX8_worthOfAll_7 rfl (lv_at hl 1 rfl) ?_
    refine fx_getI X h (k := o1) (j := 0) (sc_Cast o1 ho1) rfl fl_RX8_149 dX8_worthOfAll_8 ?_
    refine lv_icmp_ge (tgt := 52) hx hb dX8_worthOfAll_11 (by decide) (fun hc2 => ?_) (fun hc2 => ?_)
    · have hT := hT.1 hc2
      refine lv_iload_n hx hb dX8_worthOfAll_52 rfl (lv_at hl 3 rfl) ?_
      exact fx_iret X hr hk h hT dX8_worthOfAll_53
    · have hT := hT.2 hc2
      refine lv_iload hx hb dX8_worthOfAll_14 (lv_at hl 4 rfl) ?_
      refine lv_bipush (v := 16) hx hb dX8_worthOfAll_16 (by decide) ?_
      refine lv_icmp_ge (tgt := 52) hx hb dX8_worthOfAll_18 (by decide) (fun hc3 => ?_) (fun hc3 => ?_)
      · have hT := hT.1 hc3
        refine lv_iload_n hx hb dX8_worthOfAll_52 rfl (lv_at hl 3 rfl) ?_
        exact fx_iret X hr hk h hT dX8_worthOfAll_53
      · have hT := hT.2 hc3
        refine lv_aload_n hx hb dX8_worthOfAll_21 rfl (lv_at hl 2 rfl) ?_
        refine fx_getR X h (k := o2) (j := 0) (r := (rf o2 0)) (sc_Quay o2 ho2) rfl fl_RX8_154 dX8_worthOfAll_22 ?_
        refine lv_iload hx hb dX8_worthOfAll_25 (lv_at hl 4 rfl) ?_
        obtain ⟨hi4, hT⟩ := hT
        refine fx_iald X h (k := (rf o2 0)) (sa_Quay_0 o2 ho2) hi4 dX8_worthOfAll_27 ?_
        refine lv_iconst (v := -1) hx hb dX8_worthOfAll_28 (by decide) ?_
        refine lv_icmp_ne (tgt := 46) hx hb dX8_worthOfAll_29 (by decide) (fun hc5 => ?_) (fun hc5 => ?_)
        · have hT := hT.2 hc5
          exact w_X8_worthOfAll_46 ho1 ho2 X hr hk (B5 := (fun x3 x4 M => T_X8_worthOfAll_5 o1 o2 n x3 x4 M K)) ih x3 x4 M _ _ ls hT h (lv_sub hl [0, 1, 2, 3, 4] rfl)
        · have hT := hT.1 hc5
          refine lv_iload_n hx hb dX8_worthOfAll_32 rfl (lv_at hl 3 rfl) ?_
          refine lv_aload_n hx hb dX8_worthOfAll_33 rfl (lv_at hl 0 rfl) ?_
          refine lv_aload_n hx hb dX8_worthOfAll_34 rfl (lv_at hl 1 rfl) ?_
          refine fx_getR X h (k := o1) (j := 4) (r := (rf o1 4)) (sc_Cast o1 ho1) rfl fl_RX8_166 dX8_worthOfAll_35 ?_
          refine lv_iload hx hb dX8_worthOfAll_38 (lv_at hl 4 rfl) ?_
          obtain ⟨hi6, hT⟩ := hT
          refine fx_iald X h (k := (rf o1 4)) (sa_Cast_4 o1 ho1) hi6 dX8_worthOfAll_40 ?_
          refine fx_vi X h ym_X8_worth yi_X8_worth ys_X8_worth (fx_s6 (List.mem_of_getElem? (i := 37) rfl) rfl) sh_151 rfl (c_X8_worth l G hT) (As := [.int (M (rf o1 4) (x4).toNatClampNeg)]) (rest := [.int x3]) rfl rfl ⟨Nat.le_of_ble_eq_true rfl, Nat.le_of_ble_eq_true rfl⟩ ⟨Nat.le_refl _, Nat.le_refl _⟩ hl.1 (Nat.le_of_ble_eq_true rfl) dX8_worthOfAll_41 (fun r9 M8 H locs hT h => ?_)
          refine lv_ixor hx hb dX8_worthOfAll_44 ?_
          refine lv_topi (fun y10 ey10 => ?_)
          have hT := hT y10 ey10
          refine lv_istore_n (lv' := [(3, .int y10), (0, .ref (G.2.2.2 + 151)), (1, .ref (G.2.2.2 + o1)), (2, .ref (G.2.2.2 + o2)), (4, .int x4)]) hx hb dX8_worthOfAll_45 rfl hl (by decide) rfl (fun ls hl => ?_)
          exact w_X8_worthOfAll_46 ho1 ho2 X hr hk (B5 := (fun x3 x4 M => T_X8_worthOfAll_5 o1 o2 n x3 x4 M K)) ih y10 x4 M8 _ _ ls hT h (lv_sub hl [1, 2, 3, 0, 4] rfl)
def T_X8_worthOfAll (o1 : Nat) (o2 : Nat) (M : Mm) (K : Int32 → Mm → Prop) : Prop := (T_X8_worthOfAll_5 o1 o2 5000 (0 : Int32) (0 : Int32) M K)
set_option maxHeartbeats 4000000 in
set_option maxRecDepth 100000 in
theorem c_X8_worthOfAll (l : Launch) (G : fx_G) {o1 : Nat} {o2 : Nat} (ho1 : o1 ∈ id_Cast) (ho2 : o2 ∈ id_Quay) {M : Mm} {K : Int32 → Mm → Prop} (hT : T_X8_worthOfAll o1 o2 M K) : Met l yX8_worthOfAll (fx_ws yX8_worthOfAll cX8_worthOfAll 5 (some .int)) (fx_rm (1)) (va_Pc [.ref (G.2.2.2 + 151), .ref (G.2.2.2 + o1), .ref (G.2.2.2 + o2)] (fx_P G SH M)) (va_Qi K (fx_R G SH) (fx_A G)) 0 0 (fx_A G) := by
  refine fx_met (own := RX8) (by decide +kernel) rfl (Nat.le_of_ble_eq_true rfl) (fun p e s m below meth c X hr hk h ls hl => ?_)
  obtain ⟨⟨hx, hb, hml, hown, hts⟩, hK, hQ⟩ := id X
  have hl : lv_has ls 5 [(0, .ref (G.2.2.2 + 151)), (1, .ref (G.2.2.2 + o1)), (2, .ref (G.2.2.2 + o2))] := hl
  unfold T_X8_worthOfAll at hT
  refine lv_iconst (v := 0) hx hb dX8_worthOfAll_0 (by decide) ?_
  refine lv_istore_n (lv' := [(3, .int (0 : Int32)), (0, .ref (G.2.2.2 + 151)), (1, .ref (G.2.2.2 + o1)), (2, .ref (G.2.2.2 + o2))]) hx hb dX8_worthOfAll_1 rfl hl (by decide) rfl (fun ls hl => ?_)
  refine lv_iconst (v := 0) hx hb dX8_worthOfAll_2 (by decide) ?_
  refine lv_istore (lv' := [(4, .int (0 : Int32)), (3, .int (0 : Int32)), (0, .ref (G.2.2.2 + 151)), (1, .ref (G.2.2.2 + o1)), (2, .ref (G.2.2.2 + o2))]) hx hb dX8_worthOfAll_3 hl (by decide) rfl (fun ls hl => ?_)
  exact w_X8_worthOfAll_5 ho1 ho2 X hr hk 5000 (0 : Int32) (0 : Int32) M _ _ ls hT h (lv_sub hl [2, 3, 4, 1, 0] rfl)
/-! MockParcels$Sums.winningKnots(LMockParcels$Cast;LMockParcels$Quay;I)I -/
theorem dX8_winningKnots_0 : decode cX8_winningKnots 0 = .ok (.aload_n 1, 1) := by decide +kernel
theorem dX8_winningKnots_1 : decode cX8_winningKnots 1 = .ok (.iload_n 3, 1) := by decide +kernel
theorem dX8_winningKnots_2 : decode cX8_winningKnots 2 = .ok (.invokevirtual 163, 3) := by decide +kernel
theorem dX8_winningKnots_5 : decode cX8_winningKnots 5 = .ok (.ifCond .ne 5, 3) := by decide +kernel
theorem dX8_winningKnots_8 : decode cX8_winningKnots 8 = .ok (.iconst (-1), 1) := by decide +kernel
theorem dX8_winningKnots_9 : decode cX8_winningKnots 9 = .ok (.ireturn, 1) := by decide +kernel
theorem dX8_winningKnots_10 : decode cX8_winningKnots 10 = .ok (.aload_n 1, 1) := by decide +kernel
theorem dX8_winningKnots_11 : decode cX8_winningKnots 11 = .ok (.getfield 166, 3) := by decide +kernel
theorem dX8_winningKnots_14 : decode cX8_winningKnots 14 = .ok (.iload_n 3, 1) := by decide +kernel
theorem dX8_winningKnots_15 : decode cX8_winningKnots 15 = .ok (.iaload, 1) := by decide +kernel
theorem dX8_winningKnots_16 : decode cX8_winningKnots 16 = .ok (.istore 4, 2) := by decide +kernel
theorem dX8_winningKnots_18 : decode cX8_winningKnots 18 = .ok (.aload_n 0, 1) := by decide +kernel
theorem dX8_winningKnots_19 : decode cX8_winningKnots 19 = .ok (.aload_n 1, 1) := by decide +kernel
theorem dX8_winningKnots_20 : decode cX8_winningKnots 20 = .ok (.aload_n 2, 1) := by decide +kernel
theorem dX8_winningKnots_21 : decode cX8_winningKnots 21 = .ok (.invokevirtual 169, 3) := by decide +kernel
theorem dX8_winningKnots_24 : decode cX8_winningKnots 24 = .ok (.aload_n 0, 1) := by decide +kernel
theorem dX8_winningKnots_25 : decode cX8_winningKnots 25 = .ok (.iload 4, 2) := by decide +kernel
theorem dX8_winningKnots_27 : decode cX8_winningKnots 27 = .ok (.invokevirtual 173, 3) := by decide +kernel
theorem dX8_winningKnots_30 : decode cX8_winningKnots 30 = .ok (.ixor, 1) := by decide +kernel
theorem dX8_winningKnots_31 : decode cX8_winningKnots 31 = .ok (.istore 5, 2) := by decide +kernel
theorem dX8_winningKnots_33 : decode cX8_winningKnots 33 = .ok (.iconst 1, 1) := by decide +kernel
theorem dX8_winningKnots_34 : decode cX8_winningKnots 34 = .ok (.istore 6, 2) := by decide +kernel
theorem dX8_winningKnots_36 : decode cX8_winningKnots 36 = .ok (.iload 6, 2) := by decide +kernel
theorem dX8_winningKnots_38 : decode cX8_winningKnots 38 = .ok (.iload 4, 2) := by decide +kernel
theorem dX8_winningKnots_40 : decode cX8_winningKnots 40 = .ok (.if_icmp .gt 39, 3) := by decide +kernel
theorem dX8_winningKnots_43 : decode cX8_winningKnots 43 = .ok (.iload 6, 2) := by decide +kernel
theorem dX8_winningKnots_45 : decode cX8_winningKnots 45 = .ok (.iconst 2, 1) := by decide +kernel
theorem dX8_winningKnots_46 : decode cX8_winningKnots 46 = .ok (.if_icmp .le 10, 3) := by decide +kernel
theorem dX8_winningKnots_49 : decode cX8_winningKnots 49 = .ok (.iload 6, 2) := by decide +kernel
theorem dX8_winningKnots_51 : decode cX8_winningKnots 51 = .ok (.iload 4, 2) := by decide +kernel
theorem dX8_winningKnots_53 : decode cX8_winningKnots 53 = .ok (.if_icmp .ne 20, 3) := by decide +kernel
theorem dX8_winningKnots_56 : decode cX8_winningKnots 56 = .ok (.iload 5, 2) := by decide +kernel
theorem dX8_winningKnots_58 : decode cX8_winningKnots 58 = .ok (.aload_n 0, 1) := by decide +kernel
theorem dX8_winningKnots_59 : decode cX8_winningKnots 59 = .ok (.iload 4, 2) := by decide +kernel
theorem dX8_winningKnots_61 : decode cX8_winningKnots 61 = .ok (.iload 6, 2) := by decide +kernel
theorem dX8_winningKnots_63 : decode cX8_winningKnots 63 = .ok (.isub, 1) := by decide +kernel
theorem dX8_winningKnots_64 : decode cX8_winningKnots 64 = .ok (.invokevirtual 173, 3) := by decide +kernel
theorem dX8_winningKnots_67 : decode cX8_winningKnots 67 = .ok (.if_icmp .ne 6, 3) := by decide +kernel
theorem dX8_winningKnots_70 : decode cX8_winningKnots 70 = .ok (.iload 6, 2) := by decide +kernel
theorem dX8_winningKnots_72 : decode cX8_winningKnots 72 = .ok (.ireturn, 1) := by decide +kernel
theorem dX8_winningKnots_73 : decode cX8_winningKnots 73 = .ok (.iinc 6 1, 3) := by decide +kernel
theorem dX8_winningKnots_76 : decode cX8_winningKnots 76 = .ok (.goto (-40), 3) := by decide +kernel
theorem dX8_winningKnots_79 : decode cX8_winningKnots 79 = .ok (.iconst (-1), 1) := by decide +kernel
theorem dX8_winningKnots_80 : decode cX8_winningKnots 80 = .ok (.ireturn, 1) := by decide +kernel
def T_X8_winningKnots_73 (B36 : Int32 → Int32 → Int32 → Mm → Prop) (o1 : Nat) (o2 : Nat) (x4 : Int32) (x5 : Int32) (x6 : Int32) (M : Mm) (K : Int32 → Mm → Prop) : Prop := (∀ y1 : Int32, y1 = x6 + (1 : Int32) → (B36 x4 x5 y1 M))
set_option maxHeartbeats 4000000 in
set_option maxRecDepth 100000 in
theorem w_X8_winningKnots_73 {p : Program} {l : Launch} {e : Env} {s : State} {m : MethodId} {args : Array Value} {below : List Frame} {meth : Method} {c : Code} {G : fx_G} {K : Int32 → Mm → Prop} {B36 : Int32 → Int32 → Int32 → Mm → Prop} {o1 : Nat} {o2 : Nat} (ho1 : o1 ∈ id_Cast) (ho2 : o2 ∈ id_Quay) (X : fx_C G p s m c args cX8_winningKnots 7 RX8) (hr : meth.sig.returnType = (some .int)) (hk : meth.locks = false) (hB36 : ∀ (x4 : Int32) (x5 : Int32) (x6 : Int32) (M : Mm) (H : Heap) (locs : List Loc) (ls : Array Slot), B36 x4 x5 x6 M → fx_H G SH M s H locs → lv_has ls 7 [(0, .ref (G.2.2.2 + 151)), (4, .int x4), (5, .int x5), (6, .int x6)] → W p l e (fx_rm (2)) s m args below meth c H locs 0 0 (MQ below (va_Qi K (fx_R G SH) (fx_A G)) args s 0 0 (fx_A G)) (F0 m 36 ls [])) : ∀ (x4 : Int32) (x5 : Int32) (x6 : Int32) (M : Mm) (H : Heap) (locs : List Loc) (ls : Array Slot), T_X8_winningKnots_73 B36 o1 o2 x4 x5 x6 M K → fx_H G SH M s H locs → lv_has ls 7 [(0, .ref (G.2.2.2 + 151)), (4, .int x4), (5, .int x5), (6, .int x6)] → W p l e (fx_rm (2)) s m args below meth c H locs 0 0 (MQ below (va_Qi K (fx_R G SH) (fx_A G)) args s 0 0 (fx_A G)) (F0 m 73 ls []) := by
  obtain ⟨⟨hx, hb, hml, hown, hts⟩, hK, hQ⟩ := id X
  intro x4 x5 x6 M H locs ls hT h hl
  unfold T_X8_winningKnots_73 at hT
  obtain ⟨y1, ey1⟩ : ∃ z : Int32, z = x6 + (1 : Int32) := ⟨_, rfl⟩
  have hT := hT y1 ey1
  refine lv_iinc (v := y1) (lv' := [(6, .int y1), (0, .ref (G.2.2.2 + 151)), (4, .int x4), (5, .int x5)]) hx hb dX8_winningKnots_73 hl (k := 3) rfl (by rw [ey1]; rfl) (by decide) rfl (fun ls hl => ?_)
  refine lv_goto (tgt := 36) hx hb dX8_winningKnots_76 (by decide) ?_
  exact hB36 x4 x5 y1 M _ _ ls hT h (lv_sub hl [1, 2, 3, 0] rfl)
def T_X8_winningKnots_56 (B36 : Int32 → Int32 → Int32 → Mm → Prop) (o1 : Nat) (o2 : Nat) (x4 : Int32) (x5 : Int32) (x6 : Int32) (M : Mm) (K : Int32 → Mm → Prop) : Prop := (T_X8_worth (x4 - x6) M (fun r4 M3 => ((x5 = r4 → (K x6 M3)) ∧ (¬ x5 = r4 → (T_X8_winningKnots_73 B36 o1 o2 x4 x5 x6 M3 K)))))
set_option maxHeartbeats 4000000 in
set_option maxRecDepth 100000 in
theorem w_X8_winningKnots_56 {p : Program} {l : Launch} {e : Env} {s : State} {m : MethodId} {args : Array Value} {below : List Frame} {meth : Method} {c : Code} {G : fx_G} {K : Int32 → Mm → Prop} {B36 : Int32 → Int32 → Int32 → Mm → Prop} {o1 : Nat} {o2 : Nat} (ho1 : o1 ∈ id_Cast) (ho2 : o2 ∈ id_Quay) (X : fx_C G p s m c args cX8_winningKnots 7 RX8) (hr : meth.sig.returnType = (some .int)) (hk : meth.locks = false) (hB36 : ∀ (x4 : Int32) (x5 : Int32) (x6 : Int32) (M : Mm) (H : Heap) (locs : List Loc) (ls : Array Slot), B36 x4 x5 x6 M → fx_H G SH M s H locs → lv_has ls 7 [(0, .ref (G.2.2.2 + 151)), (4, .int x4), (5, .int x5), (6, .int x6)] → W p l e (fx_rm (2)) s m args below meth c H locs 0 0 (MQ below (va_Qi K (fx_R G SH) (fx_A G)) args s 0 0 (fx_A G)) (F0 m 36 ls [])) : ∀ (x4 : Int32) (x5 : Int32) (x6 : Int32) (M : Mm) (H : Heap) (locs : List Loc) (ls : Array Slot), T_X8_winningKnots_56 B36 o1 o2 x4 x5 x6 M K → fx_H G SH M s H locs → lv_has ls 7 [(0, .ref (G.2.2.2 + 151)), (4, .int x4), (5, .int x5), (6, .int x6)] → W p l e (fx_rm (2)) s m args below meth c H locs 0 0 (MQ below (va_Qi K (fx_R G SH) (fx_A G)) args s 0 0 (fx_A G)) (F0 m 56 ls []) := by
  obtain ⟨⟨hx, hb, hml, hown, hts⟩, hK, hQ⟩ := id X
  intro x4 x5 x6 M H locs ls hT h hl
  unfold T_X8_winningKnots_56 at hT
  refine lv_iload hx hb dX8_winningKnots_56 (lv_at hl 2 rfl) ?_
  refine lv_aload_n hx hb dX8_winningKnots_58 rfl (lv_at hl 0 rfl) ?_
  refine lv_iload hx hb dX8_winningKnots_59 (lv_at hl 1 rfl) ?_
  refine lv_iload hx hb dX8_winningKnots_61 (lv_at hl 3 rfl) ?_
  refine lv_isub hx hb dX8_winningKnots_63 ?_
  refine fx_vi X h ym_X8_worth yi_X8_worth ys_X8_worth (fx_s6 (List.mem_of_getElem? (i := 37) rfl) rfl) sh_151 rfl (c_X8_worth l G hT) (As := [.int (x4 - x6)]) (rest := [.int x5]) rfl rfl ⟨Nat.le_of_ble_eq_true rfl, Nat.le_of_ble_eq_true rfl⟩ ⟨Nat.le_refl _, Nat.le_refl _⟩ hl.1 (Nat.le_of_ble_eq_true rfl) dX8_winningKnots_64 (fun r4 M3 H locs hT h => ?_)
  refine lv_icmp_ne (tgt := 73) hx hb dX8_winningKnots_67 (by decide) (fun hc5 => ?_) (fun hc5 => ?_)
  · have hT := hT.2 hc5
    exact w_X8_winningKnots_73 ho1 ho2 X hr hk (B36 := B36) hB36 x4 x5 x6 M3 _ _ ls hT h (lv_sub hl [0, 1, 2, 3] rfl)
  · have hT := hT.1 hc5
    refine lv_iload hx hb dX8_winningKnots_70 (lv_at hl 3 rfl) ?_
    exact fx_iret X hr hk h hT dX8_winningKnots_72
def T_X8_winningKnots_36 (o1 : Nat) (o2 : Nat) : Nat → Int32 → Int32 → Int32 → Mm → (Int32 → Mm → Prop) → Prop
  | 0, _, _, _, _, _ => False
  | n + 1, x4, x5, x6, M, K => ((x4 < x6 → (K (-1 : Int32) M)) ∧ (¬ x4 < x6 → ((x6 ≤ (2 : Int32) → (T_X8_winningKnots_56 (fun x4 x5 x6 M => T_X8_winningKnots_36 o1 o2 n x4 x5 x6 M K) o1 o2 x4 x5 x6 M K)) ∧ (¬ x6 ≤ (2 : Int32) → ((x6 = x4 → (T_X8_winningKnots_56 (fun x4 x5 x6 M => T_X8_winningKnots_36 o1 o2 n x4 x5 x6 M K) o1 o2 x4 x5 x6 M K)) ∧ (¬ x6 = x4 → (T_X8_winningKnots_73 (fun x4 x5 x6 M => T_X8_winningKnots_36 o1 o2 n x4 x5 x6 M K) o1 o2 x4 x5 x6 M K)))))))
set_option maxHeartbeats 4000000 in
set_option maxRecDepth 100000 in
theorem w_X8_winningKnots_36 {p : Program} {l : Launch} {e : Env} {s : State} {m : MethodId} {args : Array Value} {below : List Frame} {meth : Method} {c : Code} {G : fx_G} {K : Int32 → Mm → Prop} {o1 : Nat} {o2 : Nat} (ho1 : o1 ∈ id_Cast) (ho2 : o2 ∈ id_Quay) (X : fx_C G p s m c args cX8_winningKnots 7 RX8) (hr : meth.sig.returnType = (some .int)) (hk : meth.locks = false) : ∀ (n : Nat) (x4 : Int32) (x5 : Int32) (x6 : Int32) (M : Mm) (H : Heap) (locs : List Loc) (ls : Array Slot), T_X8_winningKnots_36 o1 o2 n x4 x5 x6 M K → fx_H G SH M s H locs → lv_has ls 7 [(0, .ref (G.2.2.2 + 151)), (4, .int x4), (5, .int x5), (6, .int x6)] → W p l e (fx_rm (2)) s m args below meth c H locs 0 0 (MQ below (va_Qi K (fx_R G SH) (fx_A G)) args s 0 0 (fx_A G)) (F0 m 36 ls []) := by
  obtain ⟨⟨hx, hb, hml, hown, hts⟩, hK, hQ⟩ := id X
  intro n
  induction n with
  | zero =>
    intro x4 x5 x6 M H locs ls hT
    exact hT.elim
  | succ n ih =>
    intro x4 x5 x6 M H locs ls hT h hl
    rw [T_X8_winningKnots_36] at hT
    refine lv_iload hx hb dX8_winningKnots_36 (lv_at hl 3 rfl) ?_
    refine lv_iload hx hb dX8_winningKnots_38 (lv_at hl 1 rfl) ?_
    refine lv_icmp_gt (tgt := 79) hx hb dX8_winningKnots_40 (by decide) (fun hc6 => ?_) (fun hc6 => ?_)
    · have hT := hT.1 hc6
      refine lv_iconst (v := -1) hx hb dX8_winningKnots_79 (by decide) ?_
      exact fx_iret X hr hk h hT dX8_winningKnots_80
    · have hT := hT.2 hc6
      refine lv_iload hx hb dX8_winningKnots_43 (lv_at hl 3 rfl) ?_
      refine lv_iconst (v := 2) hx hb dX8_winningKnots_45 (by decide) ?_
      refine lv_icmp_le (tgt := 56) hx hb dX8_winningKnots_46 (by decide) (fun hc7 => ?_) (fun hc7 => ?_)
      · have hT := hT.1 hc7
        exact w_X8_winningKnots_56 ho1 ho2 X hr hk (B36 := (fun x4 x5 x6 M => T_X8_winningKnots_36 o1 o2 n x4 x5 x6 M K)) ih x4 x5 x6 M _ _ ls hT h (lv_sub hl [0, 1, 2, 3] rfl)
      · have hT := hT.2 hc7
        refine lv_iload hx hb dX8_winningKnots_49 (lv_at hl 3 rfl) ?_
        refine lv_iload hx hb dX8_winningKnots_51 (lv_at hl 1 rfl) ?_
        refine lv_icmp_ne (tgt := 73) hx hb dX8_winningKnots_53 (by decide) (fun hc8 => ?_) (fun hc8 => ?_)
        · have hT := hT.2 hc8
          exact w_X8_winningKnots_73 ho1 ho2 X hr hk (B36 := (fun x4 x5 x6 M => T_X8_winningKnots_36 o1 o2 n x4 x5 x6 M K)) ih x4 x5 x6 M _ _ ls hT h (lv_sub hl [0, 1, 2, 3] rfl)
        · have hT := hT.1 hc8
          exact w_X8_winningKnots_56 ho1 ho2 X hr hk (B36 := (fun x4 x5 x6 M => T_X8_winningKnots_36 o1 o2 n x4 x5 x6 M K)) ih x4 x5 x6 M _ _ ls hT h (lv_sub hl [0, 1, 2, 3] rfl)
def T_X8_winningKnots (o1 : Nat) (o2 : Nat) (x3 : Int32) (M : Mm) (K : Int32 → Mm → Prop) : Prop := (T_X1_hasParcel o1 x3 M (fun r11 M10 => ((r11 = 0 → (K (-1 : Int32) M10)) ∧ (¬ r11 = 0 → (vp_in x3 16 ∧ (∀ y14 : Int32, y14 = (M10 (rf o1 4) (x3).toNatClampNeg) → (T_X8_worthOfAll o1 o2 M10 (fun r17 M16 => (T_X8_worth y14 M16 (fun r20 M19 => (∀ y21 : Int32, y21 = (r17 ^^^ r20) → (T_X8_winningKnots_36 o1 o2 5000 y14 y21 (1 : Int32) M19 K))))))))))))
set_option maxHeartbeats 4000000 in
set_option maxRecDepth 100000 in
theorem c_X8_winningKnots (l : Launch) (G : fx_G) {o1 : Nat} {o2 : Nat} (ho1 : o1 ∈ id_Cast) (ho2 : o2 ∈ id_Quay) {x3 : Int32} {M : Mm} {K : Int32 → Mm → Prop} (hT : T_X8_winningKnots o1 o2 x3 M K) : Met l yX8_winningKnots (fx_ws yX8_winningKnots cX8_winningKnots 7 (some .int)) (fx_rm (2)) (va_Pc [.ref (G.2.2.2 + 151), .ref (G.2.2.2 + o1), .ref (G.2.2.2 + o2), .int x3] (fx_P G SH M)) (va_Qi K (fx_R G SH) (fx_A G)) 0 0 (fx_A G) := by
  refine fx_met (own := RX8) (by decide +kernel) rfl (Nat.le_of_ble_eq_true rfl) (fun p e s m below meth c X hr hk h ls hl => ?_)
  obtain ⟨⟨hx, hb, hml, hown, hts⟩, hK, hQ⟩ := id X
  have hl : lv_has ls 7 [(0, .ref (G.2.2.2 + 151)), (1, .ref (G.2.2.2 + o1)), (2, .ref (G.2.2.2 + o2)), (3, .int x3)] := hl
  unfold T_X8_winningKnots at hT
  refine lv_aload_n hx hb dX8_winningKnots_0 rfl (lv_at hl 1 rfl) ?_
  refine lv_iload_n hx hb dX8_winningKnots_1 rfl (lv_at hl 3 rfl) ?_
  refine fx_vi X h ym_X1_hasParcel yi_X1_hasParcel ys_X1_hasParcel (fx_s6 (List.mem_of_getElem? (i := 32) rfl) rfl) (sc_Cast o1 ho1) rfl (c_X1_hasParcel l G ho1 hT) (As := [.int x3]) (rest := []) rfl rfl ⟨Nat.le_of_ble_eq_true rfl, Nat.le_of_ble_eq_true rfl⟩ ⟨Nat.le_refl _, Nat.le_refl _⟩ hl.1 (Nat.le_of_ble_eq_true rfl) dX8_winningKnots_2 (fun r11 M10 H locs hT h => ?_)
  refine lv_if_ne (tgt := 10) hx hb dX8_winningKnots_5 (by decide) (fun hc12 => ?_) (fun hc12 => ?_)
  · have hT := hT.2 hc12
    refine lv_aload_n hx hb dX8_winningKnots_10 rfl (lv_at hl 1 rfl) ?_
    refine fx_getR X h (k := o1) (j := 4) (r := (rf o1 4)) (sc_Cast o1 ho1) rfl fl_RX8_166 dX8_winningKnots_11 ?_
    refine lv_iload_n hx hb dX8_winningKnots_14 rfl (lv_at hl 3 rfl) ?_
    obtain ⟨hi13, hT⟩ := hT
    refine fx_iald X h (k := (rf o1 4)) (sa_Cast_4 o1 ho1) hi13 dX8_winningKnots_15 ?_
    refine lv_topi (fun y14 ey14 => ?_)
    have hT := hT y14 ey14
    refine lv_istore (lv' := [(4, .int y14), (0, .ref (G.2.2.2 + 151)), (1, .ref (G.2.2.2 + o1)), (2, .ref (G.2.2.2 + o2)), (3, .int x3)]) hx hb dX8_winningKnots_16 hl (by decide) rfl (fun ls hl => ?_)
    refine lv_aload_n hx hb dX8_winningKnots_18 rfl (lv_at hl 1 rfl) ?_
    refine lv_aload_n hx hb dX8_winningKnots_19 rfl (lv_at hl 2 rfl) ?_
    refine lv_aload_n hx hb dX8_winningKnots_20 rfl (lv_at hl 3 rfl) ?_
    refine fx_vi X h ym_X8_worthOfAll yi_X8_worthOfAll ys_X8_worthOfAll (fx_s6 (List.mem_of_getElem? (i := 33) rfl) rfl) sh_151 rfl (c_X8_worthOfAll l G ho1 ho2 hT) (As := [.ref (G.2.2.2 + o1), .ref (G.2.2.2 + o2)]) (rest := []) rfl rfl ⟨Nat.le_of_ble_eq_true rfl, Nat.le_of_ble_eq_true rfl⟩ ⟨Nat.le_refl _, Nat.le_refl _⟩ hl.1 (Nat.le_of_ble_eq_true rfl) dX8_winningKnots_21 (fun r17 M16 H locs hT h => ?_)
    refine lv_aload_n hx hb dX8_winningKnots_24 rfl (lv_at hl 1 rfl) ?_
    refine lv_iload hx hb dX8_winningKnots_25 (lv_at hl 0 rfl) ?_
    refine fx_vi X h ym_X8_worth yi_X8_worth ys_X8_worth (fx_s6 (List.mem_of_getElem? (i := 37) rfl) rfl) sh_151 rfl (c_X8_worth l G hT) (As := [.int y14]) (rest := [.int r17]) rfl rfl ⟨Nat.le_of_ble_eq_true rfl, Nat.le_of_ble_eq_true rfl⟩ ⟨Nat.le_refl _, Nat.le_refl _⟩ hl.1 (Nat.le_of_ble_eq_true rfl) dX8_winningKnots_27 (fun r20 M19 H locs hT h => ?_)
    refine lv_ixor hx hb dX8_winningKnots_30 ?_
    refine lv_topi (fun y21 ey21 => ?_)
    have hT := hT y21 ey21
    refine lv_istore (lv' := [(5, .int y21), (4, .int y14), (0, .ref (G.2.2.2 + 151)), (1, .ref (G.2.2.2 + o1)), (2, .ref (G.2.2.2 + o2)), (3, .int x3)]) hx hb dX8_winningKnots_31 hl (by decide) rfl (fun ls hl => ?_)
    refine lv_iconst (v := 1) hx hb dX8_winningKnots_33 (by decide) ?_
    refine lv_istore (lv' := [(6, .int (1 : Int32)), (5, .int y21), (4, .int y14), (0, .ref (G.2.2.2 + 151)), (1, .ref (G.2.2.2 + o1)), (2, .ref (G.2.2.2 + o2)), (3, .int x3)]) hx hb dX8_winningKnots_34 hl (by decide) rfl (fun ls hl => ?_)
    exact w_X8_winningKnots_36 ho1 ho2 X hr hk 5000 y14 y21 (1 : Int32) M19 _ _ ls hT h (lv_sub hl [3, 2, 1, 0] rfl)
  · have hT := hT.1 hc12
    refine lv_iconst (v := -1) hx hb dX8_winningKnots_8 (by decide) ?_
    exact fx_iret X hr hk h hT dX8_winningKnots_9
/-! MockParcels$Sums.winningParcel(LMockParcels$Cast;LMockParcels$Quay;)I -/
theorem dX8_winningParcel_0 : decode cX8_winningParcel 0 = .ok (.iconst 0, 1) := by decide +kernel
theorem dX8_winningParcel_1 : decode cX8_winningParcel 1 = .ok (.istore_n 3, 1) := by decide +kernel
theorem dX8_winningParcel_2 : decode cX8_winningParcel 2 = .ok (.iload_n 3, 1) := by decide +kernel
theorem dX8_winningParcel_3 : decode cX8_winningParcel 3 = .ok (.aload_n 1, 1) := by decide +kernel
theorem dX8_winningParcel_4 : decode cX8_winningParcel 4 = .ok (.getfield 149, 3) := by decide +kernel
theorem dX8_winningParcel_7 : decode cX8_winningParcel 7 = .ok (.if_icmp .ge 38, 3) := by decide +kernel
theorem dX8_winningParcel_10 : decode cX8_winningParcel 10 = .ok (.iload_n 3, 1) := by decide +kernel
theorem dX8_winningParcel_11 : decode cX8_winningParcel 11 = .ok (.bipush 16, 2) := by decide +kernel
theorem dX8_winningParcel_13 : decode cX8_winningParcel 13 = .ok (.if_icmp .ge 32, 3) := by decide +kernel
theorem dX8_winningParcel_16 : decode cX8_winningParcel 16 = .ok (.aload_n 2, 1) := by decide +kernel
theorem dX8_winningParcel_17 : decode cX8_winningParcel 17 = .ok (.getfield 154, 3) := by decide +kernel
theorem dX8_winningParcel_20 : decode cX8_winningParcel 20 = .ok (.iload_n 3, 1) := by decide +kernel
theorem dX8_winningParcel_21 : decode cX8_winningParcel 21 = .ok (.iaload, 1) := by decide +kernel
theorem dX8_winningParcel_22 : decode cX8_winningParcel 22 = .ok (.iconst (-1), 1) := by decide +kernel
theorem dX8_winningParcel_23 : decode cX8_winningParcel 23 = .ok (.if_icmp .ne 16, 3) := by decide +kernel
theorem dX8_winningParcel_26 : decode cX8_winningParcel 26 = .ok (.aload_n 0, 1) := by decide +kernel
theorem dX8_winningParcel_27 : decode cX8_winningParcel 27 = .ok (.aload_n 1, 1) := by decide +kernel
theorem dX8_winningParcel_28 : decode cX8_winningParcel 28 = .ok (.aload_n 2, 1) := by decide +kernel
theorem dX8_winningParcel_29 : decode cX8_winningParcel 29 = .ok (.iload_n 3, 1) := by decide +kernel
theorem dX8_winningParcel_30 : decode cX8_winningParcel 30 = .ok (.invokevirtual 159, 3) := by decide +kernel
theorem dX8_winningParcel_33 : decode cX8_winningParcel 33 = .ok (.iconst (-1), 1) := by decide +kernel
theorem dX8_winningParcel_34 : decode cX8_winningParcel 34 = .ok (.if_icmp .eq 5, 3) := by decide +kernel
theorem dX8_winningParcel_37 : decode cX8_winningParcel 37 = .ok (.iload_n 3, 1) := by decide +kernel
theorem dX8_winningParcel_38 : decode cX8_winningParcel 38 = .ok (.ireturn, 1) := by decide +kernel
theorem dX8_winningParcel_39 : decode cX8_winningParcel 39 = .ok (.iinc 3 1, 3) := by decide +kernel
theorem dX8_winningParcel_42 : decode cX8_winningParcel 42 = .ok (.goto (-40), 3) := by decide +kernel
theorem dX8_winningParcel_45 : decode cX8_winningParcel 45 = .ok (.iconst (-1), 1) := by decide +kernel
theorem dX8_winningParcel_46 : decode cX8_winningParcel 46 = .ok (.ireturn, 1) := by decide +kernel
def T_X8_winningParcel_39 (B2 : Int32 → Mm → Prop) (o1 : Nat) (o2 : Nat) (x3 : Int32) (M : Mm) (K : Int32 → Mm → Prop) : Prop := (∀ y1 : Int32, y1 = x3 + (1 : Int32) → (B2 y1 M))
set_option maxHeartbeats 4000000 in
set_option maxRecDepth 100000 in
theorem w_X8_winningParcel_39 {p : Program} {l : Launch} {e : Env} {s : State} {m : MethodId} {args : Array Value} {below : List Frame} {meth : Method} {c : Code} {G : fx_G} {K : Int32 → Mm → Prop} {B2 : Int32 → Mm → Prop} {o1 : Nat} {o2 : Nat} (ho1 : o1 ∈ id_Cast) (ho2 : o2 ∈ id_Quay) (X : fx_C G p s m c args cX8_winningParcel 4 RX8) (hr : meth.sig.returnType = (some .int)) (hk : meth.locks = false) (hB2 : ∀ (x3 : Int32) (M : Mm) (H : Heap) (locs : List Loc) (ls : Array Slot), B2 x3 M → fx_H G SH M s H locs → lv_has ls 4 [(0, .ref (G.2.2.2 + 151)), (1, .ref (G.2.2.2 + o1)), (2, .ref (G.2.2.2 + o2)), (3, .int x3)] → W p l e (fx_rm (3)) s m args below meth c H locs 0 0 (MQ below (va_Qi K (fx_R G SH) (fx_A G)) args s 0 0 (fx_A G)) (F0 m 2 ls [])) : ∀ (x3 : Int32) (M : Mm) (H : Heap) (locs : List Loc) (ls : Array Slot), T_X8_winningParcel_39 B2 o1 o2 x3 M K → fx_H G SH M s H locs → lv_has ls 4 [(0, .ref (G.2.2.2 + 151)), (1, .ref (G.2.2.2 + o1)), (2, .ref (G.2.2.2 + o2)), (3, .int x3)] → W p l e (fx_rm (3)) s m args below meth c H locs 0 0 (MQ below (va_Qi K (fx_R G SH) (fx_A G)) args s 0 0 (fx_A G)) (F0 m 39 ls []) := by
  obtain ⟨⟨hx, hb, hml, hown, hts⟩, hK, hQ⟩ := id X
  intro x3 M H locs ls hT h hl
  unfold T_X8_winningParcel_39 at hT
  obtain ⟨y1, ey1⟩ : ∃ z : Int32, z = x3 + (1 : Int32) := ⟨_, rfl⟩
  have hT := hT y1 ey1
  refine lv_iinc (v := y1) (lv' := [(3, .int y1), (0, .ref (G.2.2.2 + 151)), (1, .ref (G.2.2.2 + o1)), (2, .ref (G.2.2.2 + o2))]) hx hb dX8_winningParcel_39 hl (k := 3) rfl (by rw [ey1]; rfl) (by decide) rfl (fun ls hl => ?_)
  refine lv_goto (tgt := 2) hx hb dX8_winningParcel_42 (by decide) ?_
  exact hB2 y1 M _ _ ls hT h (lv_sub hl [1, 2, 3, 0] rfl)
def T_X8_winningParcel_2 (o1 : Nat) (o2 : Nat) : Nat → Int32 → Mm → (Int32 → Mm → Prop) → Prop
  | 0, _, _, _ => False
  | n + 1, x3, M, K => (((M o1 0) ≤ x3 → (K (-1 : Int32) M)) ∧ (¬ (M o1 0) ≤ x3 → (((16 : Int32) ≤ x3 → (K (-1 : Int32) M)) ∧ (¬ (16 : Int32) ≤ x3 → (vp_in x3 16 ∧ (((M (rf o2 0) (x3).toNatClampNeg) = (-1 : Int32) → (T_X8_winningKnots o1 o2 x3 M (fun r8 M7 => ((r8 = (-1 : Int32) → (T_X8_winningParcel_39 (fun x3 M => T_X8_winningParcel_2 o1 o2 n x3 M K) o1 o2 x3 M7 K)) ∧ (¬ r8 = (-1 : Int32) → (K x3 M7)))))) ∧ (¬ (M (rf o2 0) (x3).toNatClampNeg) = (-1 : Int32) → (T_X8_winningParcel_39 (fun x3 M => T_X8_winningParcel_2 o1 o2 n x3 M K) o1 o2 x3 M K))))))))
set_option maxHeartbeats 4000000 in
set_option maxRecDepth 100000 in
theorem w_X8_winningParcel_2 {p : Program} {l : Launch} {e : Env} {s : State} {m : MethodId} {args : Array Value} {below : List Frame} {meth : Method} {c : Code} {G : fx_G} {K : Int32 → Mm → Prop} {o1 : Nat} {o2 : Nat} (ho1 : o1 ∈ id_Cast) (ho2 : o2 ∈ id_Quay) (X : fx_C G p s m c args cX8_winningParcel 4 RX8) (hr : meth.sig.returnType = (some .int)) (hk : meth.locks = false) : ∀ (n : Nat) (x3 : Int32) (M : Mm) (H : Heap) (locs : List Loc) (ls : Array Slot), T_X8_winningParcel_2 o1 o2 n x3 M K → fx_H G SH M s H locs → lv_has ls 4 [(0, .ref (G.2.2.2 + 151)), (1, .ref (G.2.2.2 + o1)), (2, .ref (G.2.2.2 + o2)), (3, .int x3)] → W p l e (fx_rm (3)) s m args below meth c H locs 0 0 (MQ below (va_Qi K (fx_R G SH) (fx_A G)) args s 0 0 (fx_A G)) (F0 m 2 ls []) := by
  obtain ⟨⟨hx, hb, hml, hown, hts⟩, hK, hQ⟩ := id X
  intro n
  induction n with
  | zero =>
    intro x3 M H locs ls hT
    exact hT.elim
  | succ n ih =>
    intro x3 M H locs ls hT h hl
    rw [T_X8_winningParcel_2] at hT
    refine lv_iload_n hx hb dX8_winningParcel_2 rfl (lv_at hl 3 rfl) ?_
    refine lv_aload_n hx hb dX8_winningParcel_3 rfl (lv_at hl 1 rfl) ?_
    refine fx_getI X h (k := o1) (j := 0) (sc_Cast o1 ho1) rfl fl_RX8_149 dX8_winningParcel_4 ?_
    refine lv_icmp_ge (tgt := 45) hx hb dX8_winningParcel_7 (by decide) (fun hc2 => ?_) (fun hc2 => ?_)
    · have hT := hT.1 hc2
      refine lv_iconst (v := -1) hx hb dX8_winningParcel_45 (by decide) ?_
      exact fx_iret X hr hk h hT dX8_winningParcel_46
    · have hT := hT.2 hc2
      refine lv_iload_n hx hb dX8_winningParcel_10 rfl (lv_at hl 3 rfl) ?_
      refine lv_bipush (v := 16) hx hb dX8_winningParcel_11 (by decide) ?_
      refine lv_icmp_ge (tgt := 45) hx hb dX8_winningParcel_13 (by decide) (fun hc3 => ?_) (fun hc3 => ?_)
      · have hT := hT.1 hc3
        refine lv_iconst (v := -1) hx hb dX8_winningParcel_45 (by decide) ?_
        exact fx_iret X hr hk h hT dX8_winningParcel_46
      · have hT := hT.2 hc3
        refine lv_aload_n hx hb dX8_winningParcel_16 rfl (lv_at hl 2 rfl) ?_
        refine fx_getR X h (k := o2) (j := 0) (r := (rf o2 0)) (sc_Quay o2 ho2) rfl fl_RX8_154 dX8_winningParcel_17 ?_
        refine lv_iload_n hx hb dX8_winningParcel_20 rfl (lv_at hl 3 rfl) ?_
        obtain ⟨hi4, hT⟩ := hT
        refine fx_iald X h (k := (rf o2 0)) (sa_Quay_0 o2 ho2) hi4 dX8_winningParcel_21 ?_
        refine lv_iconst (v := -1) hx hb dX8_winningParcel_22 (by decide) ?_
        refine lv_icmp_ne (tgt := 39) hx hb dX8_winningParcel_23 (by decide) (fun hc5 => ?_) (fun hc5 => ?_)
        · have hT := hT.2 hc5
          exact w_X8_winningParcel_39 ho1 ho2 X hr hk (B2 := (fun x3 M => T_X8_winningParcel_2 o1 o2 n x3 M K)) ih x3 M _ _ ls hT h (lv_sub hl [0, 1, 2, 3] rfl)
        · have hT := hT.1 hc5
          refine lv_aload_n hx hb dX8_winningParcel_26 rfl (lv_at hl 0 rfl) ?_
          refine lv_aload_n hx hb dX8_winningParcel_27 rfl (lv_at hl 1 rfl) ?_
          refine lv_aload_n hx hb dX8_winningParcel_28 rfl (lv_at hl 2 rfl) ?_
          refine lv_iload_n hx hb dX8_winningParcel_29 rfl (lv_at hl 3 rfl) ?_
          refine fx_vi X h ym_X8_winningKnots yi_X8_winningKnots ys_X8_winningKnots (fx_s6 (List.mem_of_getElem? (i := 28) rfl) rfl) sh_151 rfl (c_X8_winningKnots l G ho1 ho2 hT) (As := [.ref (G.2.2.2 + o1), .ref (G.2.2.2 + o2), .int x3]) (rest := []) rfl rfl ⟨Nat.le_of_ble_eq_true rfl, Nat.le_of_ble_eq_true rfl⟩ ⟨Nat.le_refl _, Nat.le_refl _⟩ hl.1 (Nat.le_of_ble_eq_true rfl) dX8_winningParcel_30 (fun r8 M7 H locs hT h => ?_)
          refine lv_iconst (v := -1) hx hb dX8_winningParcel_33 (by decide) ?_
          refine lv_icmp_eq (tgt := 39) hx hb dX8_winningParcel_34 (by decide) (fun hc9 => ?_) (fun hc9 => ?_)
          · have hT := hT.1 hc9
            exact w_X8_winningParcel_39 ho1 ho2 X hr hk (B2 := (fun x3 M => T_X8_winningParcel_2 o1 o2 n x3 M K)) ih x3 M7 _ _ ls hT h (lv_sub hl [0, 1, 2, 3] rfl)
          · have hT := hT.2 hc9
            refine lv_iload_n hx hb dX8_winningParcel_37 rfl (lv_at hl 3 rfl) ?_
            exact fx_iret X hr hk h hT dX8_winningParcel_38
def T_X8_winningParcel (o1 : Nat) (o2 : Nat) (M : Mm) (K : Int32 → Mm → Prop) : Prop := (T_X8_winningParcel_2 o1 o2 5000 (0 : Int32) M K)
set_option maxHeartbeats 4000000 in
set_option maxRecDepth 100000 in
theorem c_X8_winningParcel (l : Launch) (G : fx_G) {o1 : Nat} {o2 : Nat} (ho1 : o1 ∈ id_Cast) (ho2 : o2 ∈ id_Quay) {M : Mm} {K : Int32 → Mm → Prop} (hT : T_X8_winningParcel o1 o2 M K) : Met l yX8_winningParcel (fx_ws yX8_winningParcel cX8_winningParcel 4 (some .int)) (fx_rm (3)) (va_Pc [.ref (G.2.2.2 + 151), .ref (G.2.2.2 + o1), .ref (G.2.2.2 + o2)] (fx_P G SH M)) (va_Qi K (fx_R G SH) (fx_A G)) 0 0 (fx_A G) := by
  refine fx_met (own := RX8) (by decide +kernel) rfl (Nat.le_of_ble_eq_true rfl) (fun p e s m below meth c X hr hk h ls hl => ?_)
  obtain ⟨⟨hx, hb, hml, hown, hts⟩, hK, hQ⟩ := id X
  have hl : lv_has ls 4 [(0, .ref (G.2.2.2 + 151)), (1, .ref (G.2.2.2 + o1)), (2, .ref (G.2.2.2 + o2))] := hl
  unfold T_X8_winningParcel at hT
  refine lv_iconst (v := 0) hx hb dX8_winningParcel_0 (by decide) ?_
  refine lv_istore_n (lv' := [(3, .int (0 : Int32)), (0, .ref (G.2.2.2 + 151)), (1, .ref (G.2.2.2 + o1)), (2, .ref (G.2.2.2 + o2))]) hx hb dX8_winningParcel_1 rfl hl (by decide) rfl (fun ls hl => ?_)
  exact w_X8_winningParcel_2 ho1 ho2 X hr hk 5000 (0 : Int32) M _ _ ls hT h (lv_sub hl [1, 2, 3, 0] rfl)
