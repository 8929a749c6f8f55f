/-! MockParcels$Parser.parseEither(I)Z -/
theorem dX3_parseEither_0 : decode cX3_parseEither 0 = .ok (.iconst 0, 1) := by decide +kernel
theorem dX3_parseEither_1 : decode cX3_parseEither 1 = .ok (.istore_n 2, 1) := by decide +kernel
theorem dX3_parseEither_2 : decode cX3_parseEither 2 = .ok (.iload_n 2, 1) := by decide +kernel
theorem dX3_parseEither_3 : decode cX3_parseEither 3 = .ok (.sipush 400, 3) := by decide +kernel
theorem dX3_parseEither_6 : decode cX3_parseEither 6 = .ok (.if_icmp .gt 112, 3) := by decide +kernel
theorem dX3_parseEither_9 : decode cX3_parseEither 9 = .ok (.aload_n 0, 1) := by decide +kernel
theorem dX3_parseEither_10 : decode cX3_parseEither 10 = .ok (.iload_n 1, 1) := by decide +kernel
theorem dX3_parseEither_11 : decode cX3_parseEither 11 = .ok (.invokevirtual 115, 3) := by decide +kernel
theorem dX3_parseEither_14 : decode cX3_parseEither 14 = .ok (.ifCond .ne 5, 3) := by decide +kernel
theorem dX3_parseEither_17 : decode cX3_parseEither 17 = .ok (.iconst 0, 1) := by decide +kernel
theorem dX3_parseEither_18 : decode cX3_parseEither 18 = .ok (.ireturn, 1) := by decide +kernel
theorem dX3_parseEither_19 : decode cX3_parseEither 19 = .ok (.iconst 0, 1) := by decide +kernel
theorem dX3_parseEither_20 : decode cX3_parseEither 20 = .ok (.istore_n 3, 1) := by decide +kernel
theorem dX3_parseEither_21 : decode cX3_parseEither 21 = .ok (.iload_n 3, 1) := by decide +kernel
theorem dX3_parseEither_22 : decode cX3_parseEither 22 = .ok (.sipush 400, 3) := by decide +kernel
theorem dX3_parseEither_25 : decode cX3_parseEither 25 = .ok (.if_icmp .ge 50, 3) := by decide +kernel
theorem dX3_parseEither_28 : decode cX3_parseEither 28 = .ok (.aload_n 0, 1) := by decide +kernel
theorem dX3_parseEither_29 : decode cX3_parseEither 29 = .ok (.getfield 32, 3) := by decide +kernel
theorem dX3_parseEither_32 : decode cX3_parseEither 32 = .ok (.getfield 44, 3) := by decide +kernel
theorem dX3_parseEither_35 : decode cX3_parseEither 35 = .ok (.sipush 261, 3) := by decide +kernel
theorem dX3_parseEither_38 : decode cX3_parseEither 38 = .ok (.if_icmp .ne 37, 3) := by decide +kernel
theorem dX3_parseEither_41 : decode cX3_parseEither 41 = .ok (.aload_n 0, 1) := by decide +kernel
theorem dX3_parseEither_42 : decode cX3_parseEither 42 = .ok (.getfield 32, 3) := by decide +kernel
theorem dX3_parseEither_45 : decode cX3_parseEither 45 = .ok (.invokevirtual 77, 3) := by decide +kernel
theorem dX3_parseEither_48 : decode cX3_parseEither 48 = .ok (.aload_n 0, 1) := by decide +kernel
theorem dX3_parseEither_49 : decode cX3_parseEither 49 = .ok (.iload_n 1, 1) := by decide +kernel
theorem dX3_parseEither_50 : decode cX3_parseEither 50 = .ok (.invokevirtual 115, 3) := by decide +kernel
theorem dX3_parseEither_53 : decode cX3_parseEither 53 = .ok (.ifCond .ne 5, 3) := by decide +kernel
theorem dX3_parseEither_56 : decode cX3_parseEither 56 = .ok (.iconst 0, 1) := by decide +kernel
theorem dX3_parseEither_57 : decode cX3_parseEither 57 = .ok (.ireturn, 1) := by decide +kernel
theorem dX3_parseEither_58 : decode cX3_parseEither 58 = .ok (.aload_n 0, 1) := by decide +kernel
theorem dX3_parseEither_59 : decode cX3_parseEither 59 = .ok (.getfield 12, 3) := by decide +kernel
theorem dX3_parseEither_62 : decode cX3_parseEither 62 = .ok (.sipush 20261, 3) := by decide +kernel
theorem dX3_parseEither_65 : decode cX3_parseEither 65 = .ok (.invokevirtual 118, 3) := by decide +kernel
theorem dX3_parseEither_68 : decode cX3_parseEither 68 = .ok (.pop, 1) := by decide +kernel
theorem dX3_parseEither_69 : decode cX3_parseEither 69 = .ok (.iinc 3 1, 3) := by decide +kernel
theorem dX3_parseEither_72 : decode cX3_parseEither 72 = .ok (.goto (-51), 3) := by decide +kernel
theorem dX3_parseEither_75 : decode cX3_parseEither 75 = .ok (.iload_n 2, 1) := by decide +kernel
theorem dX3_parseEither_76 : decode cX3_parseEither 76 = .ok (.ifCond .le 14, 3) := by decide +kernel
theorem dX3_parseEither_79 : decode cX3_parseEither 79 = .ok (.aload_n 0, 1) := by decide +kernel
theorem dX3_parseEither_80 : decode cX3_parseEither 80 = .ok (.getfield 12, 3) := by decide +kernel
theorem dX3_parseEither_83 : decode cX3_parseEither 83 = .ok (.sipush 20260, 3) := by decide +kernel
theorem dX3_parseEither_86 : decode cX3_parseEither 86 = .ok (.invokevirtual 118, 3) := by decide +kernel
theorem dX3_parseEither_89 : decode cX3_parseEither 89 = .ok (.pop, 1) := by decide +kernel
theorem dX3_parseEither_90 : decode cX3_parseEither 90 = .ok (.aload_n 0, 1) := by decide +kernel
theorem dX3_parseEither_91 : decode cX3_parseEither 91 = .ok (.getfield 32, 3) := by decide +kernel
theorem dX3_parseEither_94 : decode cX3_parseEither 94 = .ok (.getfield 44, 3) := by decide +kernel
theorem dX3_parseEither_97 : decode cX3_parseEither 97 = .ok (.sipush 260, 3) := by decide +kernel
theorem dX3_parseEither_100 : decode cX3_parseEither 100 = .ok (.if_icmp .eq 5, 3) := by decide +kernel
theorem dX3_parseEither_103 : decode cX3_parseEither 103 = .ok (.iconst 1, 1) := by decide +kernel
theorem dX3_parseEither_104 : decode cX3_parseEither 104 = .ok (.ireturn, 1) := by decide +kernel
theorem dX3_parseEither_105 : decode cX3_parseEither 105 = .ok (.aload_n 0, 1) := by decide +kernel
theorem dX3_parseEither_106 : decode cX3_parseEither 106 = .ok (.getfield 32, 3) := by decide +kernel
theorem dX3_parseEither_109 : decode cX3_parseEither 109 = .ok (.invokevirtual 77, 3) := by decide +kernel
theorem dX3_parseEither_112 : decode cX3_parseEither 112 = .ok (.iinc 2 1, 3) := by decide +kernel
theorem dX3_parseEither_115 : decode cX3_parseEither 115 = .ok (.goto (-113), 3) := by decide +kernel
theorem dX3_parseEither_118 : decode cX3_parseEither 118 = .ok (.iconst 0, 1) := by decide +kernel
theorem dX3_parseEither_119 : decode cX3_parseEither 119 = .ok (.ireturn, 1) := by decide +kernel
/-! MockParcels$Parser.parseCase(I)Z -/
theorem dX3_parseCase_0 : decode cX3_parseCase 0 = .ok (.aload_n 0, 1) := by decide +kernel
theorem dX3_parseCase_1 : decode cX3_parseCase 1 = .ok (.getfield 32, 3) := by decide +kernel
theorem dX3_parseCase_4 : decode cX3_parseCase 4 = .ok (.getfield 44, 3) := by decide +kernel
theorem dX3_parseCase_7 : decode cX3_parseCase 7 = .ok (.istore_n 2, 1) := by decide +kernel
theorem dX3_parseCase_8 : decode cX3_parseCase 8 = .ok (.iload_n 2, 1) := by decide +kernel
theorem dX3_parseCase_9 : decode cX3_parseCase 9 = .ok (.sipush 262, 3) := by decide +kernel
theorem dX3_parseCase_12 : decode cX3_parseCase 12 = .ok (.if_icmp .eq 88, 3) := by decide +kernel
theorem dX3_parseCase_15 : decode cX3_parseCase 15 = .ok (.iload_n 2, 1) := by decide +kernel
theorem dX3_parseCase_16 : decode cX3_parseCase 16 = .ok (.bipush 40, 2) := by decide +kernel
theorem dX3_parseCase_18 : decode cX3_parseCase 18 = .ok (.if_icmp .eq 82, 3) := by decide +kernel
theorem dX3_parseCase_21 : decode cX3_parseCase 21 = .ok (.aload_n 0, 1) := by decide +kernel
theorem dX3_parseCase_22 : decode cX3_parseCase 22 = .ok (.invokevirtual 103, 3) := by decide +kernel
theorem dX3_parseCase_25 : decode cX3_parseCase 25 = .ok (.ifCond .ne 5, 3) := by decide +kernel
theorem dX3_parseCase_28 : decode cX3_parseCase 28 = .ok (.iconst 0, 1) := by decide +kernel
theorem dX3_parseCase_29 : decode cX3_parseCase 29 = .ok (.ireturn, 1) := by decide +kernel
theorem dX3_parseCase_30 : decode cX3_parseCase 30 = .ok (.aload_n 0, 1) := by decide +kernel
theorem dX3_parseCase_31 : decode cX3_parseCase 31 = .ok (.getfield 32, 3) := by decide +kernel
theorem dX3_parseCase_34 : decode cX3_parseCase 34 = .ok (.getfield 44, 3) := by decide +kernel
theorem dX3_parseCase_37 : decode cX3_parseCase 37 = .ok (.istore_n 3, 1) := by decide +kernel
theorem dX3_parseCase_38 : decode cX3_parseCase 38 = .ok (.iload_n 3, 1) := by decide +kernel
theorem dX3_parseCase_39 : decode cX3_parseCase 39 = .ok (.bipush 60, 2) := by decide +kernel
theorem dX3_parseCase_41 : decode cX3_parseCase 41 = .ok (.if_icmp .eq 24, 3) := by decide +kernel
theorem dX3_parseCase_44 : decode cX3_parseCase 44 = .ok (.iload_n 3, 1) := by decide +kernel
theorem dX3_parseCase_45 : decode cX3_parseCase 45 = .ok (.bipush 61, 2) := by decide +kernel
theorem dX3_parseCase_47 : decode cX3_parseCase 47 = .ok (.if_icmp .eq 18, 3) := by decide +kernel
theorem dX3_parseCase_50 : decode cX3_parseCase 50 = .ok (.iload_n 3, 1) := by decide +kernel
theorem dX3_parseCase_51 : decode cX3_parseCase 51 = .ok (.bipush 62, 2) := by decide +kernel
theorem dX3_parseCase_53 : decode cX3_parseCase 53 = .ok (.if_icmp .eq 12, 3) := by decide +kernel
theorem dX3_parseCase_56 : decode cX3_parseCase 56 = .ok (.aload_n 0, 1) := by decide +kernel
theorem dX3_parseCase_57 : decode cX3_parseCase 57 = .ok (.getfield 32, 3) := by decide +kernel
theorem dX3_parseCase_60 : decode cX3_parseCase 60 = .ok (.iconst 1, 1) := by decide +kernel
theorem dX3_parseCase_61 : decode cX3_parseCase 61 = .ok (.invokevirtual 70, 3) := by decide +kernel
theorem dX3_parseCase_64 : decode cX3_parseCase 64 = .ok (.ireturn, 1) := by decide +kernel
theorem dX3_parseCase_65 : decode cX3_parseCase 65 = .ok (.aload_n 0, 1) := by decide +kernel
theorem dX3_parseCase_66 : decode cX3_parseCase 66 = .ok (.getfield 32, 3) := by decide +kernel
theorem dX3_parseCase_69 : decode cX3_parseCase 69 = .ok (.invokevirtual 77, 3) := by decide +kernel
theorem dX3_parseCase_72 : decode cX3_parseCase 72 = .ok (.aload_n 0, 1) := by decide +kernel
theorem dX3_parseCase_73 : decode cX3_parseCase 73 = .ok (.invokevirtual 103, 3) := by decide +kernel
theorem dX3_parseCase_76 : decode cX3_parseCase 76 = .ok (.ifCond .eq 22, 3) := by decide +kernel
theorem dX3_parseCase_79 : decode cX3_parseCase 79 = .ok (.aload_n 0, 1) := by decide +kernel
theorem dX3_parseCase_80 : decode cX3_parseCase 80 = .ok (.getfield 12, 3) := by decide +kernel
theorem dX3_parseCase_83 : decode cX3_parseCase 83 = .ok (.sipush 20000, 3) := by decide +kernel
theorem dX3_parseCase_86 : decode cX3_parseCase 86 = .ok (.iload_n 3, 1) := by decide +kernel
theorem dX3_parseCase_87 : decode cX3_parseCase 87 = .ok (.iadd, 1) := by decide +kernel
theorem dX3_parseCase_88 : decode cX3_parseCase 88 = .ok (.invokevirtual 118, 3) := by decide +kernel
theorem dX3_parseCase_91 : decode cX3_parseCase 91 = .ok (.ifCond .eq 7, 3) := by decide +kernel
theorem dX3_parseCase_94 : decode cX3_parseCase 94 = .ok (.iconst 1, 1) := by decide +kernel
theorem dX3_parseCase_95 : decode cX3_parseCase 95 = .ok (.goto 4, 3) := by decide +kernel
theorem dX3_parseCase_98 : decode cX3_parseCase 98 = .ok (.iconst 0, 1) := by decide +kernel
theorem dX3_parseCase_99 : decode cX3_parseCase 99 = .ok (.ireturn, 1) := by decide +kernel
theorem dX3_parseCase_100 : decode cX3_parseCase 100 = .ok (.iload_n 1, 1) := by decide +kernel
theorem dX3_parseCase_101 : decode cX3_parseCase 101 = .ok (.bipush 8, 2) := by decide +kernel
theorem dX3_parseCase_103 : decode cX3_parseCase 103 = .ok (.if_icmp .lt 12, 3) := by decide +kernel
theorem dX3_parseCase_106 : decode cX3_parseCase 106 = .ok (.aload_n 0, 1) := by decide +kernel
theorem dX3_parseCase_107 : decode cX3_parseCase 107 = .ok (.getfield 32, 3) := by decide +kernel
theorem dX3_parseCase_110 : decode cX3_parseCase 110 = .ok (.iconst 3, 1) := by decide +kernel
theorem dX3_parseCase_111 : decode cX3_parseCase 111 = .ok (.invokevirtual 70, 3) := by decide +kernel
theorem dX3_parseCase_114 : decode cX3_parseCase 114 = .ok (.ireturn, 1) := by decide +kernel
theorem dX3_parseCase_115 : decode cX3_parseCase 115 = .ok (.aload_n 0, 1) := by decide +kernel
theorem dX3_parseCase_116 : decode cX3_parseCase 116 = .ok (.getfield 32, 3) := by decide +kernel
theorem dX3_parseCase_119 : decode cX3_parseCase 119 = .ok (.invokevirtual 77, 3) := by decide +kernel
theorem dX3_parseCase_122 : decode cX3_parseCase 122 = .ok (.iload_n 2, 1) := by decide +kernel
theorem dX3_parseCase_123 : decode cX3_parseCase 123 = .ok (.bipush 40, 2) := by decide +kernel
theorem dX3_parseCase_125 : decode cX3_parseCase 125 = .ok (.if_icmp .ne 31, 3) := by decide +kernel
theorem dX3_parseCase_128 : decode cX3_parseCase 128 = .ok (.aload_n 0, 1) := by decide +kernel
theorem dX3_parseCase_129 : decode cX3_parseCase 129 = .ok (.iload_n 1, 1) := by decide +kernel
theorem dX3_parseCase_130 : decode cX3_parseCase 130 = .ok (.iconst 1, 1) := by decide +kernel
theorem dX3_parseCase_131 : decode cX3_parseCase 131 = .ok (.iadd, 1) := by decide +kernel
theorem dX3_parseCase_132 : decode cX3_parseCase 132 = .ok (.invokevirtual 109, 3) := by decide +kernel
theorem dX3_parseCase_135 : decode cX3_parseCase 135 = .ok (.ifCond .eq 19, 3) := by decide +kernel
theorem dX3_parseCase_138 : decode cX3_parseCase 138 = .ok (.aload_n 0, 1) := by decide +kernel
theorem dX3_parseCase_139 : decode cX3_parseCase 139 = .ok (.getfield 32, 3) := by decide +kernel
theorem dX3_parseCase_142 : decode cX3_parseCase 142 = .ok (.bipush 41, 2) := by decide +kernel
theorem dX3_parseCase_144 : decode cX3_parseCase 144 = .ok (.invokevirtual 84, 3) := by decide +kernel
theorem dX3_parseCase_147 : decode cX3_parseCase 147 = .ok (.ifCond .eq 7, 3) := by decide +kernel
theorem dX3_parseCase_150 : decode cX3_parseCase 150 = .ok (.iconst 1, 1) := by decide +kernel
theorem dX3_parseCase_151 : decode cX3_parseCase 151 = .ok (.goto 4, 3) := by decide +kernel
theorem dX3_parseCase_154 : decode cX3_parseCase 154 = .ok (.iconst 0, 1) := by decide +kernel
theorem dX3_parseCase_155 : decode cX3_parseCase 155 = .ok (.ireturn, 1) := by decide +kernel
theorem dX3_parseCase_156 : decode cX3_parseCase 156 = .ok (.aload_n 0, 1) := by decide +kernel
theorem dX3_parseCase_157 : decode cX3_parseCase 157 = .ok (.iload_n 1, 1) := by decide +kernel
theorem dX3_parseCase_158 : decode cX3_parseCase 158 = .ok (.iconst 1, 1) := by decide +kernel
theorem dX3_parseCase_159 : decode cX3_parseCase 159 = .ok (.iadd, 1) := by decide +kernel
theorem dX3_parseCase_160 : decode cX3_parseCase 160 = .ok (.invokevirtual 115, 3) := by decide +kernel
theorem dX3_parseCase_163 : decode cX3_parseCase 163 = .ok (.ifCond .eq 20, 3) := by decide +kernel
theorem dX3_parseCase_166 : decode cX3_parseCase 166 = .ok (.aload_n 0, 1) := by decide +kernel
theorem dX3_parseCase_167 : decode cX3_parseCase 167 = .ok (.getfield 12, 3) := by decide +kernel
theorem dX3_parseCase_170 : decode cX3_parseCase 170 = .ok (.sipush 20262, 3) := by decide +kernel
theorem dX3_parseCase_173 : decode cX3_parseCase 173 = .ok (.invokevirtual 118, 3) := by decide +kernel
theorem dX3_parseCase_176 : decode cX3_parseCase 176 = .ok (.ifCond .eq 7, 3) := by decide +kernel
theorem dX3_parseCase_179 : decode cX3_parseCase 179 = .ok (.iconst 1, 1) := by decide +kernel
theorem dX3_parseCase_180 : decode cX3_parseCase 180 = .ok (.goto 4, 3) := by decide +kernel
theorem dX3_parseCase_183 : decode cX3_parseCase 183 = .ok (.iconst 0, 1) := by decide +kernel
theorem dX3_parseCase_184 : decode cX3_parseCase 184 = .ok (.ireturn, 1) := by decide +kernel
def T_X3_parseEither_90 (B2 : Int32 → Int32 → Mm → Prop) (PC : Int32 → Mm → (Int32 → Mm → Prop) → Prop) (x1 : Int32) (x2 : Int32) (M : Mm) (K : Int32 → Mm → Prop) : Prop := (((M 132 6) = (260 : Int32) → (T_X7_step M (fun M3 => (∀ y4 : Int32, y4 = x2 + (1 : Int32) → (B2 x1 y4 M3))))) ∧ (¬ (M 132 6) = (260 : Int32) → (K (1 : Int32) M)))
set_option maxHeartbeats 4000000 in
set_option maxRecDepth 100000 in
theorem w_X3_parseEither_90 {p : Program} {l : Launch} {e : Env} {s : State} {m : MethodId} {args : Array Value} {below : List Frame} {meth : Method} {c : Code} {G : fx_G} {K : Int32 → Mm → Prop} {B2 : Int32 → Int32 → Mm → Prop} {PC : Int32 → Mm → (Int32 → Mm → Prop) → Prop} {D : Nat} (hPC : ∀ {x1 : Int32} {M : Mm} {K : Int32 → Mm → Prop}, PC x1 M K → Met l yX3_parseCase (fx_ws yX3_parseCase cX3_parseCase 4 (some .boolean)) (fx_rm D) (va_Pc [.ref (G.2.2.2 + 136), .int x1] (fx_P G SH M)) (va_Qi K (fx_R G SH) (fx_A G)) 0 0 (fx_A G)) (hD : 2 ≤ D) (X : fx_C G p s m c args cX3_parseEither 4 RX3) (hr : meth.sig.returnType = (some .boolean)) (hk : meth.locks = false) (hB2 : ∀ (x1 : Int32) (x2 : Int32) (M : Mm) (H : Heap) (locs : List Loc) (ls : Array Slot), B2 x1 x2 M → fx_H G SH M s H locs → lv_has ls 4 [(0, .ref (G.2.2.2 + 136)), (1, .int x1), (2, .int x2)] → W p l e (fx_rm (D + 1)) s m args below meth c H locs 0 0 (MQ below (va_Qi K (fx_R G SH) (fx_A G)) args s 0 0 (fx_A G)) (F0 m 2 ls [])) : ∀ (x1 : Int32) (x2 : Int32) (M : Mm) (H : Heap) (locs : List Loc) (ls : Array Slot), T_X3_parseEither_90 B2 PC x1 x2 M K → fx_H G SH M s H locs → lv_has ls 4 [(0, .ref (G.2.2.2 + 136)), (1, .int x1), (2, .int x2)] → W p l e (fx_rm (D + 1)) s m args below meth c H locs 0 0 (MQ below (va_Qi K (fx_R G SH) (fx_A G)) args s 0 0 (fx_A G)) (F0 m 90 ls []) := by
  obtain ⟨⟨hx, hb, hml, hown, hts⟩, hK, hQ⟩ := id X
  intro x1 x2 M H locs ls hT h hl
  unfold T_X3_parseEither_90 at hT
  refine lv_aload_n hx hb dX3_parseEither_90 rfl (lv_at hl 0 rfl) ?_
  refine fx_getR X h (k := 136) (j := 2) (r := 132) sh_136 rfl fl_RX3_32 dX3_parseEither_91 ?_
  refine fx_getI X h (k := 132) (j := 6) sh_132 rfl fl_RX3_44 dX3_parseEither_94 ?_
  refine lv_sipush (v := 260) hx hb dX3_parseEither_97 (by decide) ?_
  refine lv_icmp_eq (tgt := 105) hx hb dX3_parseEither_100 (by decide) (fun hc1 => ?_) (fun hc1 => ?_)
  · have hT := hT.1 hc1
    refine lv_aload_n hx hb dX3_parseEither_105 rfl (lv_at hl 0 rfl) ?_
    refine fx_getR X h (k := 136) (j := 2) (r := 132) sh_136 rfl fl_RX3_32 dX3_parseEither_106 ?_
    refine fx_vv X h ym_X7_step yi_X7_step ys_X7_step (fx_s4 (List.mem_of_getElem? (i := 177) rfl) rfl) sh_132 rfl (c_X7_step l G hT) (As := []) (rest := []) rfl rfl ⟨by simp only [fx_rm]; omega, by simp only [fx_rm]; omega⟩ ⟨Nat.le_refl _, Nat.le_refl _⟩ hl.1 (Nat.le_of_ble_eq_true rfl) dX3_parseEither_109 (fun M3 H locs hT h => ?_)
    obtain ⟨y4, ey4⟩ : ∃ z : Int32, z = x2 + (1 : Int32) := ⟨_, rfl⟩
    have hT := hT y4 ey4
    refine lv_iinc (v := y4) (lv' := [(2, .int y4), (0, .ref (G.2.2.2 + 136)), (1, .int x1)]) hx hb dX3_parseEither_112 hl (k := 2) rfl (by rw [ey4]; rfl) (by decide) rfl (fun ls hl => ?_)
    refine lv_goto (tgt := 2) hx hb dX3_parseEither_115 (by decide) ?_
    exact hB2 x1 y4 M3 _ _ ls hT h (lv_sub hl [1, 2, 0] rfl)
  · have hT := hT.2 hc1
    refine lv_iconst (v := 1) hx hb dX3_parseEither_103 (by decide) ?_
    exact fx_zret X hr hk h (Or.inr rfl) hT dX3_parseEither_104
def T_X3_parseEither_75 (B2 : Int32 → Int32 → Mm → Prop) (PC : Int32 → Mm → (Int32 → Mm → Prop) → Prop) (x1 : Int32) (x2 : Int32) (M : Mm) (K : Int32 → Mm → Prop) : Prop := ((x2 ≤ 0 → (T_X3_parseEither_90 B2 PC x1 x2 M K)) ∧ (¬ x2 ≤ 0 → (T_X2_add 137 (20260 : Int32) M (fun r8 M7 => (T_X3_parseEither_90 B2 PC x1 x2 M7 K)))))
set_option maxHeartbeats 4000000 in
set_option maxRecDepth 100000 in
theorem w_X3_parseEither_75 {p : Program} {l : Launch} {e : Env} {s : State} {m : MethodId} {args : Array Value} {below : List Frame} {meth : Method} {c : Code} {G : fx_G} {K : Int32 → Mm → Prop} {B2 : Int32 → Int32 → Mm → Prop} {PC : Int32 → Mm → (Int32 → Mm → Prop) → Prop} {D : Nat} (hPC : ∀ {x1 : Int32} {M : Mm} {K : Int32 → Mm → Prop}, PC x1 M K → Met l yX3_parseCase (fx_ws yX3_parseCase cX3_parseCase 4 (some .boolean)) (fx_rm D) (va_Pc [.ref (G.2.2.2 + 136), .int x1] (fx_P G SH M)) (va_Qi K (fx_R G SH) (fx_A G)) 0 0 (fx_A G)) (hD : 2 ≤ D) (X : fx_C G p s m c args cX3_parseEither 4 RX3) (hr : meth.sig.returnType = (some .boolean)) (hk : meth.locks = false) (hB2 : ∀ (x1 : Int32) (x2 : Int32) (M : Mm) (H : Heap) (locs : List Loc) (ls : Array Slot), B2 x1 x2 M → fx_H G SH M s H locs → lv_has ls 4 [(0, .ref (G.2.2.2 + 136)), (1, .int x1), (2, .int x2)] → W p l e (fx_rm (D + 1)) s m args below meth c H locs 0 0 (MQ below (va_Qi K (fx_R G SH) (fx_A G)) args s 0 0 (fx_A G)) (F0 m 2 ls [])) : ∀ (x1 : Int32) (x2 : Int32) (M : Mm) (H : Heap) (locs : List Loc) (ls : Array Slot), T_X3_parseEither_75 B2 PC x1 x2 M K → fx_H G SH M s H locs → lv_has ls 4 [(0, .ref (G.2.2.2 + 136)), (1, .int x1), (2, .int x2)] → W p l e (fx_rm (D + 1)) s m args below meth c H locs 0 0 (MQ below (va_Qi K (fx_R G SH) (fx_A G)) args s 0 0 (fx_A G)) (F0 m 75 ls []) := by
  obtain ⟨⟨hx, hb, hml, hown, hts⟩, hK, hQ⟩ := id X
  intro x1 x2 M H locs ls hT h hl
  unfold T_X3_parseEither_75 at hT
  refine lv_iload_n hx hb dX3_parseEither_75 rfl (lv_at hl 2 rfl) ?_
  refine lv_if_le (tgt := 90) hx hb dX3_parseEither_76 (by decide) (fun hc5 => ?_) (fun hc5 => ?_)
  · have hT := hT.1 hc5
    exact w_X3_parseEither_90 hPC hD X hr hk (B2 := B2) hB2 x1 x2 M _ _ ls hT h (lv_sub hl [0, 1, 2] rfl)
  · have hT := hT.2 hc5
    refine lv_aload_n hx hb dX3_parseEither_79 rfl (lv_at hl 0 rfl) ?_
    refine fx_getR X h (k := 136) (j := 0) (r := 137) sh_136 rfl fl_RX3_12 dX3_parseEither_80 ?_
    refine lv_sipush (v := 20260) hx hb dX3_parseEither_83 (by decide) ?_
    refine fx_vi X h ym_X2_add yi_X2_add ys_X2_add (fx_s4 (List.mem_of_getElem? (i := 189) rfl) rfl) sh_137 rfl (c_X2_add l G (by decide) hT) (As := [.int (20260 : Int32)]) (rest := []) rfl rfl ⟨by simp only [fx_rm]; omega, by simp only [fx_rm]; omega⟩ ⟨Nat.le_refl _, Nat.le_refl _⟩ hl.1 (Nat.le_of_ble_eq_true rfl) dX3_parseEither_86 (fun r8 M7 H locs hT h => ?_)
    refine lv_pop hx hb dX3_parseEither_89 rfl ?_
    exact w_X3_parseEither_90 hPC hD X hr hk (B2 := B2) hB2 x1 x2 M7 _ _ ls hT h (lv_sub hl [0, 1, 2] rfl)
def T_X3_parseEither_21 (B2 : Int32 → Int32 → Mm → Prop) (PC : Int32 → Mm → (Int32 → Mm → Prop) → Prop) : Nat → Int32 → Int32 → Int32 → Mm → (Int32 → Mm → Prop) → Prop
  | 0, _, _, _, _, _ => False
  | n + 1, x1, x2, x3, M, K => (((400 : Int32) ≤ x3 → (T_X3_parseEither_75 B2 PC x1 x2 M K)) ∧ (¬ (400 : Int32) ≤ x3 → (((M 132 6) = (261 : Int32) → (T_X7_step M (fun M12 => (PC x1 M12 (fun r15 M14 => ((r15 = 0 → (K (0 : Int32) M14)) ∧ (¬ r15 = 0 → (T_X2_add 137 (20261 : Int32) M14 (fun r19 M18 => (∀ y20 : Int32, y20 = x3 + (1 : Int32) → (T_X3_parseEither_21 B2 PC n x1 x2 y20 M18 K))))))))))) ∧ (¬ (M 132 6) = (261 : Int32) → (T_X3_parseEither_75 B2 PC x1 x2 M K)))))
set_option maxHeartbeats 4000000 in
set_option maxRecDepth 100000 in
theorem w_X3_parseEither_21 {p : Program} {l : Launch} {e : Env} {s : State} {m : MethodId} {args : Array Value} {below : List Frame} {meth : Method} {c : Code} {G : fx_G} {K : Int32 → Mm → Prop} {B2 : Int32 → Int32 → Mm → Prop} {PC : Int32 → Mm → (Int32 → Mm → Prop) → Prop} {D : Nat} (hPC : ∀ {x1 : Int32} {M : Mm} {K : Int32 → Mm → Prop}, PC x1 M K → Met l yX3_parseCase (fx_ws yX3_parseCase cX3_parseCase 4 (some .boolean)) (fx_rm D) (va_Pc [.ref (G.2.2.2 + 136), .int x1] (fx_P G SH M)) (va_Qi K (fx_R G SH) (fx_A G)) 0 0 (fx_A G)) (hD : 2 ≤ D) (X : fx_C G p s m c args cX3_parseEither 4 RX3) (hr : meth.sig.returnType = (some .boolean)) (hk : meth.locks = false) (hB2 : ∀ (x1 : Int32) (x2 : Int32) (M : Mm) (H : Heap) (locs : List Loc) (ls : Array Slot), B2 x1 x2 M → fx_H G SH M s H locs → lv_has ls 4 [(0, .ref (G.2.2.2 + 136)), (1, .int x1), (2, .int x2)] → W p l e (fx_rm (D + 1)) s m args below meth c H locs 0 0 (MQ below (va_Qi K (fx_R G SH) (fx_A G)) args s 0 0 (fx_A G)) (F0 m 2 ls [])) : ∀ (n : Nat) (x1 : Int32) (x2 : Int32) (x3 : Int32) (M : Mm) (H : Heap) (locs : List Loc) (ls : Array Slot), T_X3_parseEither_21 B2 PC n x1 x2 x3 M K → fx_H G SH M s H locs → lv_has ls 4 [(0, .ref (G.2.2.2 + 136)), (1, .int x1), (2, .int x2), (3, .int x3)] → W p l e (fx_rm (D + 1)) s m args below meth c H locs 0 0 (MQ below (va_Qi K (fx_R G SH) (fx_A G)) args s 0 0 (fx_A G)) (F0 m 21 ls []) := by
  obtain ⟨⟨hx, hb, hml, hown, hts⟩, hK, hQ⟩ := id X
  intro n
  induction n with
  | zero =>
    intro x1 x2 x3 M H locs ls hT
    exact hT.elim
  | succ n ih =>
    intro x1 x2 x3 M H locs ls hT h hl
    rw [T_X3_parseEither_21] at hT
    refine lv_iload_n hx hb dX3_parseEither_21 rfl (lv_at hl 3 rfl) ?_
    refine lv_sipush (v := 400) hx hb dX3_parseEither_22 (by decide) ?_
    refine lv_icmp_ge (tgt := 75) hx hb dX3_parseEither_25 (by decide) (fun hc9 => ?_) (fun hc9 => ?_)
    · have hT := hT.1 hc9
      exact w_X3_parseEither_75 hPC hD X hr hk (B2 := B2) hB2 x1 x2 M _ _ ls hT h (lv_sub hl [0, 1, 2] rfl)
    · have hT := hT.2 hc9
      refine lv_aload_n hx hb dX3_parseEither_28 rfl (lv_at hl 0 rfl) ?_
      refine fx_getR X h (k := 136) (j := 2) (r := 132) sh_136 rfl fl_RX3_32 dX3_parseEither_29 ?_
      refine fx_getI X h (k := 132) (j := 6) sh_132 rfl fl_RX3_44 dX3_parseEither_32 ?_
      refine lv_sipush (v := 261) hx hb dX3_parseEither_35 (by decide) ?_
      refine lv_icmp_ne (tgt := 75) hx hb dX3_parseEither_38 (by decide) (fun hc10 => ?_) (fun hc10 => ?_)
      · have hT := hT.2 hc10
        exact w_X3_parseEither_75 hPC hD X hr hk (B2 := B2) hB2 x1 x2 M _ _ ls hT h (lv_sub hl [0, 1, 2] rfl)
      · have hT := hT.1 hc10
        refine lv_aload_n hx hb dX3_parseEither_41 rfl (lv_at hl 0 rfl) ?_
        refine fx_getR X h (k := 136) (j := 2) (r := 132) sh_136 rfl fl_RX3_32 dX3_parseEither_42 ?_
        refine fx_vv X h ym_X7_step yi_X7_step ys_X7_step (fx_s4 (List.mem_of_getElem? (i := 177) rfl) rfl) sh_132 rfl (c_X7_step l G hT) (As := []) (rest := []) rfl rfl ⟨by simp only [fx_rm]; omega, by simp only [fx_rm]; omega⟩ ⟨Nat.le_refl _, Nat.le_refl _⟩ hl.1 (Nat.le_of_ble_eq_true rfl) dX3_parseEither_45 (fun M12 H locs hT h => ?_)
        refine lv_aload_n hx hb dX3_parseEither_48 rfl (lv_at hl 0 rfl) ?_
        refine lv_iload_n hx hb dX3_parseEither_49 rfl (lv_at hl 1 rfl) ?_
        refine fx_vi X h ym_X3_parseCase yi_X3_parseCase ys_X3_parseCase (fx_s4 (List.mem_of_getElem? (i := 197) rfl) rfl) sh_136 rfl (hPC hT) (As := [.int x1]) (rest := []) rfl rfl ⟨by simp only [fx_rm]; omega, by simp only [fx_rm]; omega⟩ ⟨Nat.le_refl _, Nat.le_refl _⟩ hl.1 (Nat.le_of_ble_eq_true rfl) dX3_parseEither_50 (fun r15 M14 H locs hT h => ?_)
        refine lv_if_ne (tgt := 58) hx hb dX3_parseEither_53 (by decide) (fun hc16 => ?_) (fun hc16 => ?_)
        · have hT := hT.2 hc16
          refine lv_aload_n hx hb dX3_parseEither_58 rfl (lv_at hl 0 rfl) ?_
          refine fx_getR X h (k := 136) (j := 0) (r := 137) sh_136 rfl fl_RX3_12 dX3_parseEither_59 ?_
          refine lv_sipush (v := 20261) hx hb dX3_parseEither_62 (by decide) ?_
          refine fx_vi X h ym_X2_add yi_X2_add ys_X2_add (fx_s4 (List.mem_of_getElem? (i := 189) rfl) rfl) sh_137 rfl (c_X2_add l G (by decide) hT) (As := [.int (20261 : Int32)]) (rest := []) rfl rfl ⟨by simp only [fx_rm]; omega, by simp only [fx_rm]; omega⟩ ⟨Nat.le_refl _, Nat.le_refl _⟩ hl.1 (Nat.le_of_ble_eq_true rfl) dX3_parseEither_65 (fun r19 M18 H locs hT h => ?_)
          refine lv_pop hx hb dX3_parseEither_68 rfl ?_
          obtain ⟨y20, ey20⟩ : ∃ z : Int32, z = x3 + (1 : Int32) := ⟨_, rfl⟩
          have hT := hT y20 ey20
          refine lv_iinc (v := y20) (lv' := [(3, .int y20), (0, .ref (G.2.2.2 + 136)), (1, .int x1), (2, .int x2)]) hx hb dX3_parseEither_69 hl (k := 3) rfl (by rw [ey20]; rfl) (by decide) rfl (fun ls hl => ?_)
          refine lv_goto (tgt := 21) hx hb dX3_parseEither_72 (by decide) ?_
          exact ih x1 x2 y20 M18 _ _ ls hT h (lv_sub hl [1, 2, 3, 0] rfl)
        · have hT := hT.1 hc16
          refine lv_iconst (v := 0) hx hb dX3_parseEither_56 (by decide) ?_
          exact fx_zret X hr hk h (Or.inl rfl) hT dX3_parseEither_57
def T_X3_parseEither_2 (PC : Int32 → Mm → (Int32 → Mm → Prop) → Prop) : Nat → Int32 → Int32 → Mm → (Int32 → Mm → Prop) → Prop
  | 0, _, _, _, _ => False
  | n + 1, x1, x2, M, K => (((400 : Int32) < x2 → (K (0 : Int32) M)) ∧ (¬ (400 : Int32) < x2 → (PC x1 M (fun r24 M23 => ((r24 = 0 → (K (0 : Int32) M23)) ∧ (¬ r24 = 0 → (T_X3_parseEither_21 (fun x1 x2 M => T_X3_parseEither_2 PC n x1 x2 M K) PC 5000 x1 x2 (0 : Int32) M23 K)))))))
set_option maxHeartbeats 4000000 in
set_option maxRecDepth 100000 in
theorem w_X3_parseEither_2 {p : Program} {l : Launch} {e : Env} {s : State} {m : MethodId} {args : Array Value} {below : List Frame} {meth : Method} {c : Code} {G : fx_G} {K : Int32 → Mm → Prop} {PC : Int32 → Mm → (Int32 → Mm → Prop) → Prop} {D : Nat} (hPC : ∀ {x1 : Int32} {M : Mm} {K : Int32 → Mm → Prop}, PC x1 M K → Met l yX3_parseCase (fx_ws yX3_parseCase cX3_parseCase 4 (some .boolean)) (fx_rm D) (va_Pc [.ref (G.2.2.2 + 136), .int x1] (fx_P G SH M)) (va_Qi K (fx_R G SH) (fx_A G)) 0 0 (fx_A G)) (hD : 2 ≤ D) (X : fx_C G p s m c args cX3_parseEither 4 RX3) (hr : meth.sig.returnType = (some .boolean)) (hk : meth.locks = false) : ∀ (n : Nat) (x1 : Int32) (x2 : Int32) (M : Mm) (H : Heap) (locs : List Loc) (ls : Array Slot), T_X3_parseEither_2 PC n x1 x2 M K → fx_H G SH M s H locs → lv_has ls 4 [(0, .ref (G.2.2.2 + 136)), (1, .int x1), (2, .int x2)] → W p l e (fx_rm (D + 1)) s m args below meth c H locs 0 0 (MQ below (va_Qi K (fx_R G SH) (fx_A G)) args s 0 0 (fx_A G)) (F0 m 2 ls []) := by
  obtain ⟨⟨hx, hb, hml, hown, hts⟩, hK, hQ⟩ := id X
  intro n
  induction n with
  | zero =>
    intro x1 x2 M H locs ls hT
    exact hT.elim
  | succ n ih =>
    intro x1 x2 M H locs ls hT h hl
    rw [T_X3_parseEither_2] at hT
    refine lv_iload_n hx hb dX3_parseEither_2 rfl (lv_at hl 2 rfl) ?_
    refine lv_sipush (v := 400) hx hb dX3_parseEither_3 (by decide) ?_
    refine lv_icmp_gt (tgt := 118) hx hb dX3_parseEither_6 (by decide) (fun hc21 => ?_) (fun hc21 => ?_)
    · have hT := hT.1 hc21
      refine lv_iconst (v := 0) hx hb dX3_parseEither_118 (by decide) ?_
      exact fx_zret X hr hk h (Or.inl rfl) hT dX3_parseEither_119
    · have hT := hT.2 hc21
      refine lv_aload_n hx hb dX3_parseEither_9 rfl (lv_at hl 0 rfl) ?_
      refine lv_iload_n hx hb dX3_parseEither_10 rfl (lv_at hl 1 rfl) ?_
      refine fx_vi X h ym_X3_parseCase yi_X3_parseCase ys_X3_parseCase (fx_s4 (List.mem_of_getElem? (i := 197) rfl) rfl) sh_136 rfl (hPC hT) (As := [.int x1]) (rest := []) rfl rfl ⟨by simp only [fx_rm]; omega, by simp only [fx_rm]; omega⟩ ⟨Nat.le_refl _, Nat.le_refl _⟩ hl.1 (Nat.le_of_ble_eq_true rfl) dX3_parseEither_11 (fun r24 M23 H locs hT h => ?_)
      refine lv_if_ne (tgt := 19) hx hb dX3_parseEither_14 (by decide) (fun hc25 => ?_) (fun hc25 => ?_)
      · have hT := hT.2 hc25
        refine lv_iconst (v := 0) hx hb dX3_parseEither_19 (by decide) ?_
        refine lv_istore_n (lv' := [(3, .int (0 : Int32)), (0, .ref (G.2.2.2 + 136)), (1, .int x1), (2, .int x2)]) hx hb dX3_parseEither_20 rfl hl (by decide) rfl (fun ls hl => ?_)
        exact w_X3_parseEither_21 hPC hD X hr hk (B2 := (fun x1 x2 M => T_X3_parseEither_2 PC n x1 x2 M K)) ih 5000 x1 x2 (0 : Int32) M23 _ _ ls hT h (lv_sub hl [1, 2, 3, 0] rfl)
      · have hT := hT.1 hc25
        refine lv_iconst (v := 0) hx hb dX3_parseEither_17 (by decide) ?_
        exact fx_zret X hr hk h (Or.inl rfl) hT dX3_parseEither_18
def T_X3_parseEither (PC : Int32 → Mm → (Int32 → Mm → Prop) → Prop) (x1 : Int32) (M : Mm) (K : Int32 → Mm → Prop) : Prop := (T_X3_parseEither_2 PC 5000 x1 (0 : Int32) M K)
set_option maxHeartbeats 4000000 in
set_option maxRecDepth 100000 in
theorem c_X3_parseEither (l : Launch) (G : fx_G) {PC : Int32 → Mm → (Int32 → Mm → Prop) → Prop} {D : Nat} (hPC : ∀ {x1 : Int32} {M : Mm} {K : Int32 → Mm → Prop}, PC x1 M K → Met l yX3_parseCase (fx_ws yX3_parseCase cX3_parseCase 4 (some .boolean)) (fx_rm D) (va_Pc [.ref (G.2.2.2 + 136), .int x1] (fx_P G SH M)) (va_Qi K (fx_R G SH) (fx_A G)) 0 0 (fx_A G)) (hD : 2 ≤ D) {x1 : Int32} {M : Mm} {K : Int32 → Mm → Prop} (hT : T_X3_parseEither PC x1 M K) : Met l yX3_parseEither (fx_ws yX3_parseEither cX3_parseEither 4 (some .boolean)) (fx_rm (D + 1)) (va_Pc [.ref (G.2.2.2 + 136), .int x1] (fx_P G SH M)) (va_Qi K (fx_R G SH) (fx_A G)) 0 0 (fx_A G) := by
  refine fx_met (own := RX3) (by decide +kernel) rfl (Nat.le_of_ble_eq_true rfl) (fun p e s m below meth c X hr hk h ls hl => ?_)
  obtain ⟨⟨hx, hb, hml, hown, hts⟩, hK, hQ⟩ := id X
  have hl : lv_has ls 4 [(0, .ref (G.2.2.2 + 136)), (1, .int x1)] := hl
  unfold T_X3_parseEither at hT
  refine lv_iconst (v := 0) hx hb dX3_parseEither_0 (by decide) ?_
  refine lv_istore_n (lv' := [(2, .int (0 : Int32)), (0, .ref (G.2.2.2 + 136)), (1, .int x1)]) hx hb dX3_parseEither_1 rfl hl (by decide) rfl (fun ls hl => ?_)
  exact w_X3_parseEither_2 hPC hD X hr hk 5000 x1 (0 : Int32) M _ _ ls hT h (lv_sub hl [1, 2, 0] rfl)
def T_X3_parseCaseB_100 (PC : Int32 → Mm → (Int32 → Mm → Prop) → Prop) (x1 : Int32) (x2 : Int32) (M : Mm) (K : Int32 → Mm → Prop) : Prop := ((x1 < (8 : Int32) → (T_X7_step M (fun M3 => ((x2 = (40 : Int32) → (T_X3_parseEither PC (x1 + (1 : Int32)) M3 (fun r15 M14 => ((r15 = 0 → (K (0 : Int32) M14)) ∧ (¬ r15 = 0 → (T_X7_take (41 : Int32) M14 (fun r19 M18 => ((r19 = 0 → (K (0 : Int32) M18)) ∧ (¬ r19 = 0 → (K (1 : Int32) M18)))))))))) ∧ (¬ x2 = (40 : Int32) → (PC (x1 + (1 : Int32)) M3 (fun r7 M6 => ((r7 = 0 → (K (0 : Int32) M6)) ∧ (¬ r7 = 0 → (T_X2_add 137 (20262 : Int32) M6 (fun r11 M10 => ((r11 = 0 → (K (0 : Int32) M10)) ∧ (¬ r11 = 0 → (K (1 : Int32) M10)))))))))))))) ∧ (¬ x1 < (8 : Int32) → (T_X7_refuse (3 : Int32) M (fun r23 M22 => ((r23 = 0 ∨ r23 = 1) ∧ K r23 M22)))))
set_option maxHeartbeats 4000000 in
set_option maxRecDepth 100000 in
theorem w_X3_parseCaseB_100 {p : Program} {l : Launch} {e : Env} {s : State} {m : MethodId} {args : Array Value} {below : List Frame} {meth : Method} {c : Code} {G : fx_G} {K : Int32 → Mm → Prop} {PC : Int32 → Mm → (Int32 → Mm → Prop) → Prop} {D : Nat} (hPC : ∀ {x1 : Int32} {M : Mm} {K : Int32 → Mm → Prop}, PC x1 M K → Met l yX3_parseCase (fx_ws yX3_parseCase cX3_parseCase 4 (some .boolean)) (fx_rm D) (va_Pc [.ref (G.2.2.2 + 136), .int x1] (fx_P G SH M)) (va_Qi K (fx_R G SH) (fx_A G)) 0 0 (fx_A G)) (hD : 2 ≤ D) (X : fx_C G p s m c args cX3_parseCase 4 RX3) (hr : meth.sig.returnType = (some .boolean)) (hk : meth.locks = false) : ∀ (x1 : Int32) (x2 : Int32) (M : Mm) (H : Heap) (locs : List Loc) (ls : Array Slot), T_X3_parseCaseB_100 PC x1 x2 M K → fx_H G SH M s H locs → lv_has ls 4 [(0, .ref (G.2.2.2 + 136)), (1, .int x1), (2, .int x2)] → W p l e (fx_rm (D + 2)) s m args below meth c H locs 0 0 (MQ below (va_Qi K (fx_R G SH) (fx_A G)) args s 0 0 (fx_A G)) (F0 m 100 ls []) := by
  obtain ⟨⟨hx, hb, hml, hown, hts⟩, hK, hQ⟩ := id X
  intro x1 x2 M H locs ls hT h hl
  unfold T_X3_parseCaseB_100 at hT
  refine lv_iload_n hx hb dX3_parseCase_100 rfl (lv_at hl 1 rfl) ?_
  refine lv_bipush (v := 8) hx hb dX3_parseCase_101 (by decide) ?_
  refine lv_icmp_lt (tgt := 115) hx hb dX3_parseCase_103 (by decide) (fun hc1 => ?_) (fun hc1 => ?_)
  · have hT := hT.1 hc1
    refine lv_aload_n hx hb dX3_parseCase_115 rfl (lv_at hl 0 rfl) ?_
    refine fx_getR X h (k := 136) (j := 2) (r := 132) sh_136 rfl fl_RX3_32 dX3_parseCase_116 ?_
    refine fx_vv X h ym_X7_step yi_X7_step ys_X7_step (fx_s4 (List.mem_of_getElem? (i := 177) rfl) rfl) sh_132 rfl (c_X7_step l G hT) (As := []) (rest := []) rfl rfl ⟨by simp only [fx_rm]; omega, by simp only [fx_rm]; omega⟩ ⟨Nat.le_refl _, Nat.le_refl _⟩ hl.1 (Nat.le_of_ble_eq_true rfl) dX3_parseCase_119 (fun M3 H locs hT h => ?_)
    refine lv_iload_n hx hb dX3_parseCase_122 rfl (lv_at hl 2 rfl) ?_
    refine lv_bipush (v := 40) hx hb dX3_parseCase_123 (by decide) ?_
    refine lv_icmp_ne (tgt := 156) hx hb dX3_parseCase_125 (by decide) (fun hc4 => ?_) (fun hc4 => ?_)
    · have hT := hT.2 hc4
      refine lv_aload_n hx hb dX3_parseCase_156 rfl (lv_at hl 0 rfl) ?_
      refine lv_iload_n hx hb dX3_parseCase_157 rfl (lv_at hl 1 rfl) ?_
      refine lv_iconst (v := 1) hx hb dX3_parseCase_158 (by decide) ?_
      refine lv_iadd hx hb dX3_parseCase_159 ?_
      refine fx_vi X h ym_X3_parseCase yi_X3_parseCase ys_X3_parseCase (fx_s4 (List.mem_of_getElem? (i := 197) rfl) rfl) sh_136 rfl (hPC hT) (As := [.int (x1 + (1 : Int32))]) (rest := []) rfl rfl ⟨by simp only [fx_rm]; omega, by simp only [fx_rm]; omega⟩ ⟨Nat.le_refl _, Nat.le_refl _⟩ hl.1 (Nat.le_of_ble_eq_true rfl) dX3_parseCase_160 (fun r7 M6 H locs hT h => ?_)
      refine lv_if_eq (tgt := 183) hx hb dX3_parseCase_163 (by decide) (fun hc8 => ?_) (fun hc8 => ?_)
      · have hT := hT.1 hc8
        refine lv_iconst (v := 0) hx hb dX3_parseCase_183 (by decide) ?_
        exact fx_zret X hr hk h (Or.inl rfl) hT dX3_parseCase_184
      · have hT := hT.2 hc8
        refine lv_aload_n hx hb dX3_parseCase_166 rfl (lv_at hl 0 rfl) ?_
        refine fx_getR X h (k := 136) (j := 0) (r := 137) sh_136 rfl fl_RX3_12 dX3_parseCase_167 ?_
        refine lv_sipush (v := 20262) hx hb dX3_parseCase_170 (by decide) ?_
        refine fx_vi X h ym_X2_add yi_X2_add ys_X2_add (fx_s4 (List.mem_of_getElem? (i := 189) rfl) rfl) sh_137 rfl (c_X2_add l G (by decide) hT) (As := [.int (20262 : Int32)]) (rest := []) rfl rfl ⟨by simp only [fx_rm]; omega, by simp only [fx_rm]; omega⟩ ⟨Nat.le_refl _, Nat.le_refl _⟩ hl.1 (Nat.le_of_ble_eq_true rfl) dX3_parseCase_173 (fun r11 M10 H locs hT h => ?_)
        refine lv_if_eq (tgt := 183) hx hb dX3_parseCase_176 (by decide) (fun hc12 => ?_) (fun hc12 => ?_)
        · have hT := hT.1 hc12
          refine lv_iconst (v := 0) hx hb dX3_parseCase_183 (by decide) ?_
          exact fx_zret X hr hk h (Or.inl rfl) hT dX3_parseCase_184
        · have hT := hT.2 hc12
          refine lv_iconst (v := 1) hx hb dX3_parseCase_179 (by decide) ?_
          refine lv_goto (tgt := 184) hx hb dX3_parseCase_180 (by decide) ?_
          exact fx_zret X hr hk h (Or.inr rfl) hT dX3_parseCase_184
    · have hT := hT.1 hc4
      refine lv_aload_n hx hb dX3_parseCase_128 rfl (lv_at hl 0 rfl) ?_
      refine lv_iload_n hx hb dX3_parseCase_129 rfl (lv_at hl 1 rfl) ?_
      refine lv_iconst (v := 1) hx hb dX3_parseCase_130 (by decide) ?_
      refine lv_iadd hx hb dX3_parseCase_131 ?_
      refine fx_vi X h ym_X3_parseEither yi_X3_parseEither ys_X3_parseEither (fx_s4 (List.mem_of_getElem? (i := 193) rfl) rfl) sh_136 rfl (c_X3_parseEither l G hPC hD hT) (As := [.int (x1 + (1 : Int32))]) (rest := []) rfl rfl ⟨by simp only [fx_rm]; omega, by simp only [fx_rm]; omega⟩ ⟨Nat.le_refl _, Nat.le_refl _⟩ hl.1 (Nat.le_of_ble_eq_true rfl) dX3_parseCase_132 (fun r15 M14 H locs hT h => ?_)
      refine lv_if_eq (tgt := 154) hx hb dX3_parseCase_135 (by decide) (fun hc16 => ?_) (fun hc16 => ?_)
      · have hT := hT.1 hc16
        refine lv_iconst (v := 0) hx hb dX3_parseCase_154 (by decide) ?_
        exact fx_zret X hr hk h (Or.inl rfl) hT dX3_parseCase_155
      · have hT := hT.2 hc16
        refine lv_aload_n hx hb dX3_parseCase_138 rfl (lv_at hl 0 rfl) ?_
        refine fx_getR X h (k := 136) (j := 2) (r := 132) sh_136 rfl fl_RX3_32 dX3_parseCase_139 ?_
        refine lv_bipush (v := 41) hx hb dX3_parseCase_142 (by decide) ?_
        refine fx_vi X h ym_X7_take yi_X7_take ys_X7_take (fx_s4 (List.mem_of_getElem? (i := 201) rfl) rfl) sh_132 rfl (c_X7_take l G hT) (As := [.int (41 : Int32)]) (rest := []) rfl rfl ⟨by simp only [fx_rm]; omega, by simp only [fx_rm]; omega⟩ ⟨Nat.le_refl _, Nat.le_refl _⟩ hl.1 (Nat.le_of_ble_eq_true rfl) dX3_parseCase_144 (fun r19 M18 H locs hT h => ?_)
        refine lv_if_eq (tgt := 154) hx hb dX3_parseCase_147 (by decide) (fun hc20 => ?_) (fun hc20 => ?_)
        · have hT := hT.1 hc20
          refine lv_iconst (v := 0) hx hb dX3_parseCase_154 (by decide) ?_
          exact fx_zret X hr hk h (Or.inl rfl) hT dX3_parseCase_155
        · have hT := hT.2 hc20
          refine lv_iconst (v := 1) hx hb dX3_parseCase_150 (by decide) ?_
          refine lv_goto (tgt := 155) hx hb dX3_parseCase_151 (by decide) ?_
          exact fx_zret X hr hk h (Or.inr rfl) hT dX3_parseCase_155
  · have hT := hT.2 hc1
    refine lv_aload_n hx hb dX3_parseCase_106 rfl (lv_at hl 0 rfl) ?_
    refine fx_getR X h (k := 136) (j := 2) (r := 132) sh_136 rfl fl_RX3_32 dX3_parseCase_107 ?_
    refine lv_iconst (v := 3) hx hb dX3_parseCase_110 (by decide) ?_
    refine fx_vi X h ym_X7_refuse yi_X7_refuse ys_X7_refuse (fx_s4 (List.mem_of_getElem? (i := 169) rfl) rfl) sh_132 rfl (c_X7_refuse l G hT) (As := [.int (3 : Int32)]) (rest := []) rfl rfl ⟨by simp only [fx_rm]; omega, by simp only [fx_rm]; omega⟩ ⟨Nat.le_refl _, Nat.le_refl _⟩ hl.1 (Nat.le_of_ble_eq_true rfl) dX3_parseCase_111 (fun r23 M22 H locs hT h => ?_)
    exact fx_zret X hr hk h hT.1 hT.2 dX3_parseCase_114
def T_X3_parseCaseB_65 (PC : Int32 → Mm → (Int32 → Mm → Prop) → Prop) (x3 : Int32) (M : Mm) (K : Int32 → Mm → Prop) : Prop := (T_X7_step M (fun M25 => (T_X3_parseSum M25 (fun r28 M27 => ((r28 = 0 → (K (0 : Int32) M27)) ∧ (¬ r28 = 0 → (T_X2_add 137 ((20000 : Int32) + x3) M27 (fun r32 M31 => ((r32 = 0 → (K (0 : Int32) M31)) ∧ (¬ r32 = 0 → (K (1 : Int32) M31)))))))))))
set_option maxHeartbeats 4000000 in
set_option maxRecDepth 100000 in
theorem w_X3_parseCaseB_65 {p : Program} {l : Launch} {e : Env} {s : State} {m : MethodId} {args : Array Value} {below : List Frame} {meth : Method} {c : Code} {G : fx_G} {K : Int32 → Mm → Prop} {PC : Int32 → Mm → (Int32 → Mm → Prop) → Prop} {D : Nat} (hPC : ∀ {x1 : Int32} {M : Mm} {K : Int32 → Mm → Prop}, PC x1 M K → Met l yX3_parseCase (fx_ws yX3_parseCase cX3_parseCase 4 (some .boolean)) (fx_rm D) (va_Pc [.ref (G.2.2.2 + 136), .int x1] (fx_P G SH M)) (va_Qi K (fx_R G SH) (fx_A G)) 0 0 (fx_A G)) (hD : 2 ≤ D) (X : fx_C G p s m c args cX3_parseCase 4 RX3) (hr : meth.sig.returnType = (some .boolean)) (hk : meth.locks = false) : ∀ (x3 : Int32) (M : Mm) (H : Heap) (locs : List Loc) (ls : Array Slot), T_X3_parseCaseB_65 PC x3 M K → fx_H G SH M s H locs → lv_has ls 4 [(0, .ref (G.2.2.2 + 136)), (3, .int x3)] → W p l e (fx_rm (D + 2)) s m args below meth c H locs 0 0 (MQ below (va_Qi K (fx_R G SH) (fx_A G)) args s 0 0 (fx_A G)) (F0 m 65 ls []) := by
  obtain ⟨⟨hx, hb, hml, hown, hts⟩, hK, hQ⟩ := id X
  intro x3 M H locs ls hT h hl
  unfold T_X3_parseCaseB_65 at hT
  refine lv_aload_n hx hb dX3_parseCase_65 rfl (lv_at hl 0 rfl) ?_
  refine fx_getR X h (k := 136) (j := 2) (r := 132) sh_136 rfl fl_RX3_32 dX3_parseCase_66 ?_
  refine fx_vv X h ym_X7_step yi_X7_step ys_X7_step (fx_s4 (List.mem_of_getElem? (i := 177) rfl) rfl) sh_132 rfl (c_X7_step l G hT) (As := []) (rest := []) rfl rfl ⟨by simp only [fx_rm]; omega, by simp only [fx_rm]; omega⟩ ⟨Nat.le_refl _, Nat.le_refl _⟩ hl.1 (Nat.le_of_ble_eq_true rfl) dX3_parseCase_69 (fun M25 H locs hT h => ?_)
  refine lv_aload_n hx hb dX3_parseCase_72 rfl (lv_at hl 0 rfl) ?_
  refine fx_vi X h ym_X3_parseSum yi_X3_parseSum ys_X3_parseSum (fx_s4 (List.mem_of_getElem? (i := 181) rfl) rfl) sh_136 rfl (c_X3_parseSum l G hT) (As := []) (rest := []) rfl rfl ⟨by simp only [fx_rm]; omega, by simp only [fx_rm]; omega⟩ ⟨Nat.le_refl _, Nat.le_refl _⟩ hl.1 (Nat.le_of_ble_eq_true rfl) dX3_parseCase_73 (fun r28 M27 H locs hT h => ?_)
  refine lv_if_eq (tgt := 98) hx hb dX3_parseCase_76 (by decide) (fun hc29 => ?_) (fun hc29 => ?_)
  · have hT := hT.1 hc29
    refine lv_iconst (v := 0) hx hb dX3_parseCase_98 (by decide) ?_
    exact fx_zret X hr hk h (Or.inl rfl) hT dX3_parseCase_99
  · have hT := hT.2 hc29
    refine lv_aload_n hx hb dX3_parseCase_79 rfl (lv_at hl 0 rfl) ?_
    refine fx_getR X h (k := 136) (j := 0) (r := 137) sh_136 rfl fl_RX3_12 dX3_parseCase_80 ?_
    refine lv_sipush (v := 20000) hx hb dX3_parseCase_83 (by decide) ?_
    refine lv_iload_n hx hb dX3_parseCase_86 rfl (lv_at hl 1 rfl) ?_
    refine lv_iadd hx hb dX3_parseCase_87 ?_
    refine fx_vi X h ym_X2_add yi_X2_add ys_X2_add (fx_s4 (List.mem_of_getElem? (i := 189) rfl) rfl) sh_137 rfl (c_X2_add l G (by decide) hT) (As := [.int ((20000 : Int32) + x3)]) (rest := []) rfl rfl ⟨by simp only [fx_rm]; omega, by simp only [fx_rm]; omega⟩ ⟨Nat.le_refl _, Nat.le_refl _⟩ hl.1 (Nat.le_of_ble_eq_true rfl) dX3_parseCase_88 (fun r32 M31 H locs hT h => ?_)
    refine lv_if_eq (tgt := 98) hx hb dX3_parseCase_91 (by decide) (fun hc33 => ?_) (fun hc33 => ?_)
    · have hT := hT.1 hc33
      refine lv_iconst (v := 0) hx hb dX3_parseCase_98 (by decide) ?_
      exact fx_zret X hr hk h (Or.inl rfl) hT dX3_parseCase_99
    · have hT := hT.2 hc33
      refine lv_iconst (v := 1) hx hb dX3_parseCase_94 (by decide) ?_
      refine lv_goto (tgt := 99) hx hb dX3_parseCase_95 (by decide) ?_
      exact fx_zret X hr hk h (Or.inr rfl) hT dX3_parseCase_99
def T_X3_parseCaseB (PC : Int32 → Mm → (Int32 → Mm → Prop) → Prop) (x1 : Int32) (M : Mm) (K : Int32 → Mm → Prop) : Prop := (∀ y34 : Int32, y34 = (M 132 6) → ((y34 = (262 : Int32) → (T_X3_parseCaseB_100 PC x1 y34 M K)) ∧ (¬ y34 = (262 : Int32) → ((y34 = (40 : Int32) → (T_X3_parseCaseB_100 PC x1 y34 M K)) ∧ (¬ y34 = (40 : Int32) → (T_X3_parseSum M (fun r39 M38 => ((r39 = 0 → (K (0 : Int32) M38)) ∧ (¬ r39 = 0 → (∀ y41 : Int32, y41 = (M38 132 6) → ((y41 = (60 : Int32) → (T_X3_parseCaseB_65 PC y41 M38 K)) ∧ (¬ y41 = (60 : Int32) → ((y41 = (61 : Int32) → (T_X3_parseCaseB_65 PC y41 M38 K)) ∧ (¬ y41 = (61 : Int32) → ((y41 = (62 : Int32) → (T_X3_parseCaseB_65 PC y41 M38 K)) ∧ (¬ y41 = (62 : Int32) → (T_X7_refuse (1 : Int32) M38 (fun r47 M46 => ((r47 = 0 ∨ r47 = 1) ∧ K r47 M46)))))))))))))))))))
set_option maxHeartbeats 4000000 in
set_option maxRecDepth 100000 in
theorem c_X3_parseCaseB (l : Launch) (G : fx_G) {PC : Int32 → Mm → (Int32 → Mm → Prop) → Prop} {D : Nat} (hPC : ∀ {x1 : Int32} {M : Mm} {K : Int32 → Mm → Prop}, PC x1 M K → Met l yX3_parseCase (fx_ws yX3_parseCase cX3_parseCase 4 (some .boolean)) (fx_rm D) (va_Pc [.ref (G.2.2.2 + 136), .int x1] (fx_P G SH M)) (va_Qi K (fx_R G SH) (fx_A G)) 0 0 (fx_A G)) (hD : 2 ≤ D) {x1 : Int32} {M : Mm} {K : Int32 → Mm → Prop} (hT : T_X3_parseCaseB PC x1 M K) : Met l yX3_parseCase (fx_ws yX3_parseCase cX3_parseCase 4 (some .boolean)) (fx_rm (D + 2)) (va_Pc [.ref (G.2.2.2 + 136), .int x1] (fx_P G SH M)) (va_Qi K (fx_R G SH) (fx_A G)) 0 0 (fx_A G) := by
  refine fx_met (own := RX3) (by decide +kernel) rfl (Nat.le_of_ble_eq_true rfl) (fun p e s m below meth c X hr hk h ls hl => ?_)
  obtain ⟨⟨hx, hb, hml, hown, hts⟩, hK, hQ⟩ := id X
  have hl : lv_has ls 4 [(0, .ref (G.2.2.2 + 136)), (1, .int x1)] := hl
  unfold T_X3_parseCaseB at hT
  refine lv_aload_n hx hb dX3_parseCase_0 rfl (lv_at hl 0 rfl) ?_
  refine fx_getR X h (k := 136) (j := 2) (r := 132) sh_136 rfl fl_RX3_32 dX3_parseCase_1 ?_
  refine fx_getI X h (k := 132) (j := 6) sh_132 rfl fl_RX3_44 dX3_parseCase_4 ?_
  refine lv_topi (fun y34 ey34 => ?_)
  have hT := hT y34 ey34
  refine lv_istore_n (lv' := [(2, .int y34), (0, .ref (G.2.2.2 + 136)), (1, .int x1)]) hx hb dX3_parseCase_7 rfl hl (by decide) rfl (fun ls hl => ?_)
  refine lv_iload_n hx hb dX3_parseCase_8 rfl (lv_at hl 0 rfl) ?_
  refine lv_sipush (v := 262) hx hb dX3_parseCase_9 (by decide) ?_
  refine lv_icmp_eq (tgt := 100) hx hb dX3_parseCase_12 (by decide) (fun hc35 => ?_) (fun hc35 => ?_)
  · have hT := hT.1 hc35
    exact w_X3_parseCaseB_100 hPC hD X hr hk x1 y34 M _ _ ls hT h (lv_sub hl [1, 2, 0] rfl)
  · have hT := hT.2 hc35
    refine lv_iload_n hx hb dX3_parseCase_15 rfl (lv_at hl 0 rfl) ?_
    refine lv_bipush (v := 40) hx hb dX3_parseCase_16 (by decide) ?_
    refine lv_icmp_eq (tgt := 100) hx hb dX3_parseCase_18 (by decide) (fun hc36 => ?_) (fun hc36 => ?_)
    · have hT := hT.1 hc36
      exact w_X3_parseCaseB_100 hPC hD X hr hk x1 y34 M _ _ ls hT h (lv_sub hl [1, 2, 0] rfl)
    · have hT := hT.2 hc36
      refine lv_aload_n hx hb dX3_parseCase_21 rfl (lv_at hl 1 rfl) ?_
      refine fx_vi X h ym_X3_parseSum yi_X3_parseSum ys_X3_parseSum (fx_s4 (List.mem_of_getElem? (i := 181) rfl) rfl) sh_136 rfl (c_X3_parseSum l G hT) (As := []) (rest := []) rfl rfl ⟨by simp only [fx_rm]; omega, by simp only [fx_rm]; omega⟩ ⟨Nat.le_refl _, Nat.le_refl _⟩ hl.1 (Nat.le_of_ble_eq_true rfl) dX3_parseCase_22 (fun r39 M38 H locs hT h => ?_)
      refine lv_if_ne (tgt := 30) hx hb dX3_parseCase_25 (by decide) (fun hc40 => ?_) (fun hc40 => ?_)
      · have hT := hT.2 hc40
        refine lv_aload_n hx hb dX3_parseCase_30 rfl (lv_at hl 1 rfl) ?_
        refine fx_getR X h (k := 136) (j := 2) (r := 132) sh_136 rfl fl_RX3_32 dX3_parseCase_31 ?_
        refine fx_getI X h (k := 132) (j := 6) sh_132 rfl fl_RX3_44 dX3_parseCase_34 ?_
        refine lv_topi (fun y41 ey41 => ?_)
        have hT := hT y41 ey41
        refine lv_istore_n (lv' := [(3, .int y41), (2, .int y34), (0, .ref (G.2.2.2 + 136)), (1, .int x1)]) hx hb dX3_parseCase_37 rfl hl (by decide) rfl (fun ls hl => ?_)
        refine lv_iload_n hx hb dX3_parseCase_38 rfl (lv_at hl 0 rfl) ?_
        refine lv_bipush (v := 60) hx hb dX3_parseCase_39 (by decide) ?_
        refine lv_icmp_eq (tgt := 65) hx hb dX3_parseCase_41 (by decide) (fun hc42 => ?_) (fun hc42 => ?_)
        · have hT := hT.1 hc42
          exact w_X3_parseCaseB_65 hPC hD X hr hk y41 M38 _ _ ls hT h (lv_sub hl [2, 0] rfl)
        · have hT := hT.2 hc42
          refine lv_iload_n hx hb dX3_parseCase_44 rfl (lv_at hl 0 rfl) ?_
          refine lv_bipush (v := 61) hx hb dX3_parseCase_45 (by decide) ?_
          refine lv_icmp_eq (tgt := 65) hx hb dX3_parseCase_47 (by decide) (fun hc43 => ?_) (fun hc43 => ?_)
          · have hT := hT.1 hc43
            exact w_X3_parseCaseB_65 hPC hD X hr hk y41 M38 _ _ ls hT h (lv_sub hl [2, 0] rfl)
          · have hT := hT.2 hc43
            refine lv_iload_n hx hb dX3_parseCase_50 rfl (lv_at hl 0 rfl) ?_
            refine lv_bipush (v := 62) hx hb dX3_parseCase_51 (by decide) ?_
            refine lv_icmp_eq (tgt := 65) hx hb dX3_parseCase_53 (by decide) (fun hc44 => ?_) (fun hc44 => ?_)
            · have hT := hT.1 hc44
              exact w_X3_parseCaseB_65 hPC hD X hr hk y41 M38 _ _ ls hT h (lv_sub hl [2, 0] rfl)
            · have hT := hT.2 hc44
              refine lv_aload_n hx hb dX3_parseCase_56 rfl (lv_at hl 2 rfl) ?_
              refine fx_getR X h (k := 136) (j := 2) (r := 132) sh_136 rfl fl_RX3_32 dX3_parseCase_57 ?_
              refine lv_iconst (v := 1) hx hb dX3_parseCase_60 (by decide) ?_
              refine fx_vi X h ym_X7_refuse yi_X7_refuse ys_X7_refuse (fx_s4 (List.mem_of_getElem? (i := 169) rfl) rfl) sh_132 rfl (c_X7_refuse l G hT) (As := [.int (1 : Int32)]) (rest := []) rfl rfl ⟨by simp only [fx_rm]; omega, by simp only [fx_rm]; omega⟩ ⟨Nat.le_refl _, Nat.le_refl _⟩ hl.1 (Nat.le_of_ble_eq_true rfl) dX3_parseCase_61 (fun r47 M46 H locs hT h => ?_)
              exact fx_zret X hr hk h hT.1 hT.2 dX3_parseCase_64
      · have hT := hT.1 hc40
        refine lv_iconst (v := 0) hx hb dX3_parseCase_28 (by decide) ?_
        exact fx_zret X hr hk h (Or.inl rfl) hT dX3_parseCase_29
def T_X3_parseCase : Nat → Int32 → Mm → (Int32 → Mm → Prop) → Prop
  | 0, _, _, _ => False
  | f + 1, x1, M, K => T_X3_parseCaseB (T_X3_parseCase f) x1 M K
theorem c_X3_parseCase (l : Launch) (G : fx_G) : ∀ (f : Nat) {x1 : Int32} {M : Mm} {K : Int32 → Mm → Prop}, T_X3_parseCase f x1 M K → Met l yX3_parseCase (fx_ws yX3_parseCase cX3_parseCase 4 (some .boolean)) (fx_rm (2 + 2 * f)) (va_Pc [.ref (G.2.2.2 + 136), .int x1] (fx_P G SH M)) (va_Qi K (fx_R G SH) (fx_A G)) 0 0 (fx_A G)
  | 0, _, _, _, hT => hT.elim
  | f + 1, _, _, _, hT => c_X3_parseCaseB l G (D := 2 + 2 * f) (c_X3_parseCase l G f) (Nat.le_add_right _ _) hT
def T_X3_parseEither0 (x1 : Int32) (M : Mm) (K : Int32 → Mm → Prop) : Prop := T_X3_parseEither (T_X3_parseCase 10) x1 M K
theorem c_X3_parseEither0 (l : Launch) (G : fx_G) {x1 : Int32} {M : Mm} {K : Int32 → Mm → Prop} (hT : T_X3_parseEither0 x1 M K) : Met l yX3_parseEither (fx_ws yX3_parseEither cX3_parseEither 4 (some .boolean)) (fx_rm 23) (va_Pc [.ref (G.2.2.2 + 136), .int x1] (fx_P G SH M)) (va_Qi K (fx_R G SH) (fx_A G)) 0 0 (fx_A G) := c_X3_parseEither l G (D := 2 + 2 * 10) (c_X3_parseCase l G 10) (Nat.le_add_right _ _) hT
