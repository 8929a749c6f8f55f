/-! MockParcelsModel.readAny()I -/
theorem dX12_readAny_0 : decode cX12_readAny 0 = .ok (.iconst 0, 1) := by decide +kernel
theorem dX12_readAny_1 : decode cX12_readAny 1 = .ok (.istore_n 1, 1) := by decide +kernel
theorem dX12_readAny_2 : decode cX12_readAny 2 = .ok (.aload_n 0, 1) := by decide +kernel
theorem dX12_readAny_3 : decode cX12_readAny 3 = .ok (.iconst 0, 1) := by decide +kernel
theorem dX12_readAny_4 : decode cX12_readAny 4 = .ok (.putfield 241, 3) := by decide +kernel
theorem dX12_readAny_7 : decode cX12_readAny 7 = .ok (.iconst 1, 1) := by decide +kernel
theorem dX12_readAny_8 : decode cX12_readAny 8 = .ok (.istore_n 2, 1) := by decide +kernel
theorem dX12_readAny_9 : decode cX12_readAny 9 = .ok (.iload_n 2, 1) := by decide +kernel
theorem dX12_readAny_10 : decode cX12_readAny 10 = .ok (.ifCond .eq 99, 3) := by decide +kernel
theorem dX12_readAny_13 : decode cX12_readAny 13 = .ok (.aload_n 0, 1) := by decide +kernel
theorem dX12_readAny_14 : decode cX12_readAny 14 = .ok (.bipush 6, 2) := by decide +kernel
theorem dX12_readAny_16 : decode cX12_readAny 16 = .ok (.invokevirtual 247, 3) := by decide +kernel
theorem dX12_readAny_19 : decode cX12_readAny 19 = .ok (.istore_n 3, 1) := by decide +kernel
theorem dX12_readAny_20 : decode cX12_readAny 20 = .ok (.iload_n 3, 1) := by decide +kernel
theorem dX12_readAny_21 : decode cX12_readAny 21 = .ok (.ifCond .ne 12, 3) := by decide +kernel
theorem dX12_readAny_24 : decode cX12_readAny 24 = .ok (.aload_n 0, 1) := by decide +kernel
theorem dX12_readAny_25 : decode cX12_readAny 25 = .ok (.bipush 40, 2) := by decide +kernel
theorem dX12_readAny_27 : decode cX12_readAny 27 = .ok (.invokevirtual 232, 3) := by decide +kernel
theorem dX12_readAny_30 : decode cX12_readAny 30 = .ok (.ifCond .eq 58, 3) := by decide +kernel
theorem dX12_readAny_33 : decode cX12_readAny 33 = .ok (.aload_n 0, 1) := by decide +kernel
theorem dX12_readAny_34 : decode cX12_readAny 34 = .ok (.getfield 244, 3) := by decide +kernel
theorem dX12_readAny_37 : decode cX12_readAny 37 = .ok (.bipush 8, 2) := by decide +kernel
theorem dX12_readAny_39 : decode cX12_readAny 39 = .ok (.if_icmp .ne 9, 3) := by decide +kernel
theorem dX12_readAny_42 : decode cX12_readAny 42 = .ok (.aload_n 0, 1) := by decide +kernel
theorem dX12_readAny_43 : decode cX12_readAny 43 = .ok (.iconst 3, 1) := by decide +kernel
theorem dX12_readAny_44 : decode cX12_readAny 44 = .ok (.invokevirtual 218, 3) := by decide +kernel
theorem dX12_readAny_47 : decode cX12_readAny 47 = .ok (.ireturn, 1) := by decide +kernel
theorem dX12_readAny_48 : decode cX12_readAny 48 = .ok (.aload_n 0, 1) := by decide +kernel
theorem dX12_readAny_49 : decode cX12_readAny 49 = .ok (.aload_n 0, 1) := by decide +kernel
theorem dX12_readAny_50 : decode cX12_readAny 50 = .ok (.getfield 244, 3) := by decide +kernel
theorem dX12_readAny_53 : decode cX12_readAny 53 = .ok (.iconst 1, 1) := by decide +kernel
theorem dX12_readAny_54 : decode cX12_readAny 54 = .ok (.iadd, 1) := by decide +kernel
theorem dX12_readAny_55 : decode cX12_readAny 55 = .ok (.putfield 244, 3) := by decide +kernel
theorem dX12_readAny_58 : decode cX12_readAny 58 = .ok (.iload_n 3, 1) := by decide +kernel
theorem dX12_readAny_59 : decode cX12_readAny 59 = .ok (.ifCond .ne 7, 3) := by decide +kernel
theorem dX12_readAny_62 : decode cX12_readAny 62 = .ok (.iload_n 1, 1) := by decide +kernel
theorem dX12_readAny_63 : decode cX12_readAny 63 = .ok (.iconst 1, 1) := by decide +kernel
theorem dX12_readAny_64 : decode cX12_readAny 64 = .ok (.iadd, 1) := by decide +kernel
theorem dX12_readAny_65 : decode cX12_readAny 65 = .ok (.istore_n 1, 1) := by decide +kernel
theorem dX12_readAny_66 : decode cX12_readAny 66 = .ok (.aload_n 0, 1) := by decide +kernel
theorem dX12_readAny_67 : decode cX12_readAny 67 = .ok (.iload_n 3, 1) := by decide +kernel
theorem dX12_readAny_68 : decode cX12_readAny 68 = .ok (.ifCond .eq 8, 3) := by decide +kernel
theorem dX12_readAny_71 : decode cX12_readAny 71 = .ok (.bipush 9, 2) := by decide +kernel
theorem dX12_readAny_73 : decode cX12_readAny 73 = .ok (.goto 5, 3) := by decide +kernel
theorem dX12_readAny_76 : decode cX12_readAny 76 = .ok (.bipush 12, 2) := by decide +kernel
theorem dX12_readAny_78 : decode cX12_readAny 78 = .ok (.invokevirtual 250, 3) := by decide +kernel
theorem dX12_readAny_81 : decode cX12_readAny 81 = .ok (.aload_n 0, 1) := by decide +kernel
theorem dX12_readAny_82 : decode cX12_readAny 82 = .ok (.invokevirtual 225, 3) := by decide +kernel
theorem dX12_readAny_85 : decode cX12_readAny 85 = .ok (.goto (-76), 3) := by decide +kernel
theorem dX12_readAny_88 : decode cX12_readAny 88 = .ok (.aload_n 0, 1) := by decide +kernel
theorem dX12_readAny_89 : decode cX12_readAny 89 = .ok (.invokevirtual 253, 3) := by decide +kernel
theorem dX12_readAny_92 : decode cX12_readAny 92 = .ok (.iconst (-1), 1) := by decide +kernel
theorem dX12_readAny_93 : decode cX12_readAny 93 = .ok (.if_icmp .ne 5, 3) := by decide +kernel
theorem dX12_readAny_96 : decode cX12_readAny 96 = .ok (.iconst (-1), 1) := by decide +kernel
theorem dX12_readAny_97 : decode cX12_readAny 97 = .ok (.ireturn, 1) := by decide +kernel
theorem dX12_readAny_98 : decode cX12_readAny 98 = .ok (.aload_n 0, 1) := by decide +kernel
theorem dX12_readAny_99 : decode cX12_readAny 99 = .ok (.bipush 9, 2) := by decide +kernel
theorem dX12_readAny_101 : decode cX12_readAny 101 = .ok (.invokevirtual 256, 3) := by decide +kernel
theorem dX12_readAny_104 : decode cX12_readAny 104 = .ok (.iconst 0, 1) := by decide +kernel
theorem dX12_readAny_105 : decode cX12_readAny 105 = .ok (.istore_n 2, 1) := by decide +kernel
theorem dX12_readAny_106 : decode cX12_readAny 106 = .ok (.goto (-97), 3) := by decide +kernel
theorem dX12_readAny_109 : decode cX12_readAny 109 = .ok (.aload_n 0, 1) := by decide +kernel
theorem dX12_readAny_110 : decode cX12_readAny 110 = .ok (.iconst 5, 1) := by decide +kernel
theorem dX12_readAny_111 : decode cX12_readAny 111 = .ok (.invokevirtual 247, 3) := by decide +kernel
theorem dX12_readAny_114 : decode cX12_readAny 114 = .ok (.ifCond .eq 24, 3) := by decide +kernel
theorem dX12_readAny_117 : decode cX12_readAny 117 = .ok (.aload_n 0, 1) := by decide +kernel
theorem dX12_readAny_118 : decode cX12_readAny 118 = .ok (.bipush 10, 2) := by decide +kernel
theorem dX12_readAny_120 : decode cX12_readAny 120 = .ok (.invokevirtual 256, 3) := by decide +kernel
theorem dX12_readAny_123 : decode cX12_readAny 123 = .ok (.aload_n 0, 1) := by decide +kernel
theorem dX12_readAny_124 : decode cX12_readAny 124 = .ok (.bipush 10, 2) := by decide +kernel
theorem dX12_readAny_126 : decode cX12_readAny 126 = .ok (.invokevirtual 250, 3) := by decide +kernel
theorem dX12_readAny_129 : decode cX12_readAny 129 = .ok (.aload_n 0, 1) := by decide +kernel
theorem dX12_readAny_130 : decode cX12_readAny 130 = .ok (.invokevirtual 225, 3) := by decide +kernel
theorem dX12_readAny_133 : decode cX12_readAny 133 = .ok (.iconst 1, 1) := by decide +kernel
theorem dX12_readAny_134 : decode cX12_readAny 134 = .ok (.istore_n 2, 1) := by decide +kernel
theorem dX12_readAny_135 : decode cX12_readAny 135 = .ok (.goto (-126), 3) := by decide +kernel
theorem dX12_readAny_138 : decode cX12_readAny 138 = .ok (.aload_n 0, 1) := by decide +kernel
theorem dX12_readAny_139 : decode cX12_readAny 139 = .ok (.iconst 4, 1) := by decide +kernel
theorem dX12_readAny_140 : decode cX12_readAny 140 = .ok (.invokevirtual 247, 3) := by decide +kernel
theorem dX12_readAny_143 : decode cX12_readAny 143 = .ok (.ifCond .eq 30, 3) := by decide +kernel
theorem dX12_readAny_146 : decode cX12_readAny 146 = .ok (.aload_n 0, 1) := by decide +kernel
theorem dX12_readAny_147 : decode cX12_readAny 147 = .ok (.bipush 10, 2) := by decide +kernel
theorem dX12_readAny_149 : decode cX12_readAny 149 = .ok (.invokevirtual 256, 3) := by decide +kernel
theorem dX12_readAny_152 : decode cX12_readAny 152 = .ok (.aload_n 0, 1) := by decide +kernel
theorem dX12_readAny_153 : decode cX12_readAny 153 = .ok (.bipush 11, 2) := by decide +kernel
theorem dX12_readAny_155 : decode cX12_readAny 155 = .ok (.invokevirtual 256, 3) := by decide +kernel
theorem dX12_readAny_158 : decode cX12_readAny 158 = .ok (.aload_n 0, 1) := by decide +kernel
theorem dX12_readAny_159 : decode cX12_readAny 159 = .ok (.bipush 11, 2) := by decide +kernel
theorem dX12_readAny_161 : decode cX12_readAny 161 = .ok (.invokevirtual 250, 3) := by decide +kernel
theorem dX12_readAny_164 : decode cX12_readAny 164 = .ok (.aload_n 0, 1) := by decide +kernel
theorem dX12_readAny_165 : decode cX12_readAny 165 = .ok (.invokevirtual 225, 3) := by decide +kernel
theorem dX12_readAny_168 : decode cX12_readAny 168 = .ok (.iconst 1, 1) := by decide +kernel
theorem dX12_readAny_169 : decode cX12_readAny 169 = .ok (.istore_n 2, 1) := by decide +kernel
theorem dX12_readAny_170 : decode cX12_readAny 170 = .ok (.goto (-161), 3) := by decide +kernel
theorem dX12_readAny_173 : decode cX12_readAny 173 = .ok (.aload_n 0, 1) := by decide +kernel
theorem dX12_readAny_174 : decode cX12_readAny 174 = .ok (.bipush 10, 2) := by decide +kernel
theorem dX12_readAny_176 : decode cX12_readAny 176 = .ok (.invokevirtual 256, 3) := by decide +kernel
theorem dX12_readAny_179 : decode cX12_readAny 179 = .ok (.aload_n 0, 1) := by decide +kernel
theorem dX12_readAny_180 : decode cX12_readAny 180 = .ok (.bipush 11, 2) := by decide +kernel
theorem dX12_readAny_182 : decode cX12_readAny 182 = .ok (.invokevirtual 256, 3) := by decide +kernel
theorem dX12_readAny_185 : decode cX12_readAny 185 = .ok (.iload_n 1, 1) := by decide +kernel
theorem dX12_readAny_186 : decode cX12_readAny 186 = .ok (.ifCond .ne 5, 3) := by decide +kernel
theorem dX12_readAny_189 : decode cX12_readAny 189 = .ok (.iconst 0, 1) := by decide +kernel
theorem dX12_readAny_190 : decode cX12_readAny 190 = .ok (.ireturn, 1) := by decide +kernel
theorem dX12_readAny_191 : decode cX12_readAny 191 = .ok (.aload_n 0, 1) := by decide +kernel
theorem dX12_readAny_192 : decode cX12_readAny 192 = .ok (.bipush 41, 2) := by decide +kernel
theorem dX12_readAny_194 : decode cX12_readAny 194 = .ok (.invokevirtual 232, 3) := by decide +kernel
theorem dX12_readAny_197 : decode cX12_readAny 197 = .ok (.ifCond .ne 9, 3) := by decide +kernel
theorem dX12_readAny_200 : decode cX12_readAny 200 = .ok (.aload_n 0, 1) := by decide +kernel
theorem dX12_readAny_201 : decode cX12_readAny 201 = .ok (.iconst 1, 1) := by decide +kernel
theorem dX12_readAny_202 : decode cX12_readAny 202 = .ok (.invokevirtual 218, 3) := by decide +kernel
theorem dX12_readAny_205 : decode cX12_readAny 205 = .ok (.ireturn, 1) := by decide +kernel
theorem dX12_readAny_206 : decode cX12_readAny 206 = .ok (.aload_n 0, 1) := by decide +kernel
theorem dX12_readAny_207 : decode cX12_readAny 207 = .ok (.aload_n 0, 1) := by decide +kernel
theorem dX12_readAny_208 : decode cX12_readAny 208 = .ok (.getfield 241, 3) := by decide +kernel
theorem dX12_readAny_211 : decode cX12_readAny 211 = .ok (.iconst 1, 1) := by decide +kernel
theorem dX12_readAny_212 : decode cX12_readAny 212 = .ok (.isub, 1) := by decide +kernel
theorem dX12_readAny_213 : decode cX12_readAny 213 = .ok (.putfield 241, 3) := by decide +kernel
theorem dX12_readAny_216 : decode cX12_readAny 216 = .ok (.iload_n 1, 1) := by decide +kernel
theorem dX12_readAny_217 : decode cX12_readAny 217 = .ok (.iconst 1, 1) := by decide +kernel
theorem dX12_readAny_218 : decode cX12_readAny 218 = .ok (.isub, 1) := by decide +kernel
theorem dX12_readAny_219 : decode cX12_readAny 219 = .ok (.istore_n 1, 1) := by decide +kernel
theorem dX12_readAny_220 : decode cX12_readAny 220 = .ok (.aload_n 0, 1) := by decide +kernel
theorem dX12_readAny_221 : decode cX12_readAny 221 = .ok (.aload_n 0, 1) := by decide +kernel
theorem dX12_readAny_222 : decode cX12_readAny 222 = .ok (.getfield 244, 3) := by decide +kernel
theorem dX12_readAny_225 : decode cX12_readAny 225 = .ok (.iconst 1, 1) := by decide +kernel
theorem dX12_readAny_226 : decode cX12_readAny 226 = .ok (.isub, 1) := by decide +kernel
theorem dX12_readAny_227 : decode cX12_readAny 227 = .ok (.putfield 244, 3) := by decide +kernel
theorem dX12_readAny_230 : decode cX12_readAny 230 = .ok (.aload_n 0, 1) := by decide +kernel
theorem dX12_readAny_231 : decode cX12_readAny 231 = .ok (.bipush 9, 2) := by decide +kernel
theorem dX12_readAny_233 : decode cX12_readAny 233 = .ok (.invokevirtual 256, 3) := by decide +kernel
theorem dX12_readAny_236 : decode cX12_readAny 236 = .ok (.aload_n 0, 1) := by decide +kernel
theorem dX12_readAny_237 : decode cX12_readAny 237 = .ok (.invokevirtual 225, 3) := by decide +kernel
theorem dX12_readAny_240 : decode cX12_readAny 240 = .ok (.goto (-231), 3) := by decide +kernel
def T_X12_readAny_78 (B9 : Int32 → Int32 → Mm → Prop) (x1 : Int32) (x2 : Int32) (s1 : Int32) (M : Mm) (K : Int32 → Mm → Prop) : Prop := (T_X12_waits s1 M (fun M2 => (T_X12_reads M2 (fun M4 => (B9 x1 x2 M4)))))
set_option maxHeartbeats 4000000 in
set_option maxRecDepth 100000 in
theorem w_X12_readAny_78 {p : Program} {l : Launch} {e : Env} {s : State} {m : MethodId} {args : Array Value} {below : List Frame} {meth : Method} {c : Code} {G : fx_G} {K : Int32 → Mm → Prop} {B9 : Int32 → Int32 → Mm → Prop} (X : fx_C G p s m c args cX12_readAny 4 RX12) (hr : meth.sig.returnType = (some .int)) (hk : meth.locks = false) (hB9 : ∀ (x1 : Int32) (x2 : Int32) (M : Mm) (H : Heap) (locs : List Loc) (ls : Array Slot), B9 x1 x2 M → fx_H G SH M s H locs → lv_has ls 4 [(0, .ref (G.2.2.2 + 159)), (1, .int x1), (2, .int x2)] → W p l e (fx_rm (7)) s m args below meth c H locs 0 0 (MQ below (va_Qi K (fx_R G SH) (fx_A G)) args s 0 0 (fx_A G)) (F0 m 9 ls [])) : ∀ (x1 : Int32) (x2 : Int32) (s1 : Int32) (M : Mm) (H : Heap) (locs : List Loc) (ls : Array Slot), T_X12_readAny_78 B9 x1 x2 s1 M K → fx_H G SH M s H locs → lv_has ls 4 [(0, .ref (G.2.2.2 + 159)), (1, .int x1), (2, .int x2)] → W p l e (fx_rm (7)) s m args below meth c H locs 0 0 (MQ below (va_Qi K (fx_R G SH) (fx_A G)) args s 0 0 (fx_A G)) (F0 m 78 ls [.int s1, .ref (G.2.2.2 + 159)]) := by
  obtain ⟨⟨hx, hb, hml, hown, hts⟩, hK, hQ⟩ := id X
  intro x1 x2 s1 M H locs ls hT h hl
  unfold T_X12_readAny_78 at hT
  refine fx_vv X h ym_X12_waits yi_X12_waits ys_X12_waits (fx_s7 (List.mem_of_getElem? (i := 233) rfl) rfl) sh_159 rfl (c_X12_waits l G hT) (As := [.int s1]) (rest := []) rfl rfl ⟨Nat.le_of_ble_eq_true rfl, Nat.le_of_ble_eq_true rfl⟩ ⟨Nat.le_refl _, Nat.le_refl _⟩ hl.1 (Nat.le_of_ble_eq_true rfl) dX12_readAny_78 (fun M2 H locs hT h => ?_)
  refine lv_aload_n hx hb dX12_readAny_81 rfl (lv_at hl 0 rfl) ?_
  refine fx_vv X h ym_X12_reads yi_X12_reads ys_X12_reads (fx_s7 (List.mem_of_getElem? (i := 121) rfl) rfl) sh_159 rfl (c_X12_reads l G hT) (As := []) (rest := []) rfl rfl ⟨Nat.le_of_ble_eq_true rfl, Nat.le_of_ble_eq_true rfl⟩ ⟨Nat.le_refl _, Nat.le_refl _⟩ hl.1 (Nat.le_of_ble_eq_true rfl) dX12_readAny_82 (fun M4 H locs hT h => ?_)
  refine lv_goto (tgt := 9) hx hb dX12_readAny_85 (by decide) ?_
  exact hB9 x1 x2 M4 _ _ ls hT h (lv_sub hl [0, 1, 2] rfl)
def T_X12_readAny_66 (B9 : Int32 → Int32 → Mm → Prop) (x1 : Int32) (x2 : Int32) (x3 : Int32) (M : Mm) (K : Int32 → Mm → Prop) : Prop := ((x3 = 0 → (T_X12_readAny_78 B9 x1 x2 (12 : Int32) M K)) ∧ (¬ x3 = 0 → (T_X12_readAny_78 B9 x1 x2 (9 : Int32) M K)))
set_option maxHeartbeats 4000000 in
set_option maxRecDepth 100000 in
theorem w_X12_readAny_66 {p : Program} {l : Launch} {e : Env} {s : State} {m : MethodId} {args : Array Value} {below : List Frame} {meth : Method} {c : Code} {G : fx_G} {K : Int32 → Mm → Prop} {B9 : Int32 → Int32 → Mm → Prop} (X : fx_C G p s m c args cX12_readAny 4 RX12) (hr : meth.sig.returnType = (some .int)) (hk : meth.locks = false) (hB9 : ∀ (x1 : Int32) (x2 : Int32) (M : Mm) (H : Heap) (locs : List Loc) (ls : Array Slot), B9 x1 x2 M → fx_H G SH M s H locs → lv_has ls 4 [(0, .ref (G.2.2.2 + 159)), (1, .int x1), (2, .int x2)] → W p l e (fx_rm (7)) s m args below meth c H locs 0 0 (MQ below (va_Qi K (fx_R G SH) (fx_A G)) args s 0 0 (fx_A G)) (F0 m 9 ls [])) : ∀ (x1 : Int32) (x2 : Int32) (x3 : Int32) (M : Mm) (H : Heap) (locs : List Loc) (ls : Array Slot), T_X12_readAny_66 B9 x1 x2 x3 M K → fx_H G SH M s H locs → lv_has ls 4 [(0, .ref (G.2.2.2 + 159)), (1, .int x1), (2, .int x2), (3, .int x3)] → W p l e (fx_rm (7)) s m args below meth c H locs 0 0 (MQ below (va_Qi K (fx_R G SH) (fx_A G)) args s 0 0 (fx_A G)) (F0 m 66 ls []) := by
  obtain ⟨⟨hx, hb, hml, hown, hts⟩, hK, hQ⟩ := id X
  intro x1 x2 x3 M H locs ls hT h hl
  unfold T_X12_readAny_66 at hT
  refine lv_aload_n hx hb dX12_readAny_66 rfl (lv_at hl 0 rfl) ?_
  refine lv_iload_n hx hb dX12_readAny_67 rfl (lv_at hl 3 rfl) ?_
  refine lv_if_eq (tgt := 76) hx hb dX12_readAny_68 (by decide) (fun hc5 => ?_) (fun hc5 => ?_)
  · have hT := hT.1 hc5
    refine lv_bipush (v := 12) hx hb dX12_readAny_76 (by decide) ?_
    exact w_X12_readAny_78 X hr hk (B9 := B9) hB9 x1 x2 (12 : Int32) M _ _ ls hT h (lv_sub hl [0, 1, 2] rfl)
  · have hT := hT.2 hc5
    refine lv_bipush (v := 9) hx hb dX12_readAny_71 (by decide) ?_
    refine lv_goto (tgt := 78) hx hb dX12_readAny_73 (by decide) ?_
    exact w_X12_readAny_78 X hr hk (B9 := B9) hB9 x1 x2 (9 : Int32) M _ _ ls hT h (lv_sub hl [0, 1, 2] rfl)
def T_X12_readAny_33 (B9 : Int32 → Int32 → Mm → Prop) (x1 : Int32) (x2 : Int32) (x3 : Int32) (M : Mm) (K : Int32 → Mm → Prop) : Prop := (((M 159 30) = (8 : Int32) → (T_X12_errs (3 : Int32) M (fun r12 M11 => (K r12 M11)))) ∧ (¬ (M 159 30) = (8 : Int32) → (∀ M7 : Mm, M7 = m_up M 159 30 ((M 159 30) + (1 : Int32)) → ((x3 = 0 → (∀ y9 : Int32, y9 = (x1 + (1 : Int32)) → (T_X12_readAny_66 B9 y9 x2 x3 M7 K))) ∧ (¬ x3 = 0 → (T_X12_readAny_66 B9 x1 x2 x3 M7 K))))))
set_option maxHeartbeats 4000000 in
set_option maxRecDepth 100000 in
theorem w_X12_readAny_33 {p : Program} {l : Launch} {e : Env} {s : State} {m : MethodId} {args : Array Value} {below : List Frame} {meth : Method} {c : Code} {G : fx_G} {K : Int32 → Mm → Prop} {B9 : Int32 → Int32 → Mm → Prop} (X : fx_C G p s m c args cX12_readAny 4 RX12) (hr : meth.sig.returnType = (some .int)) (hk : meth.locks = false) (hB9 : ∀ (x1 : Int32) (x2 : Int32) (M : Mm) (H : Heap) (locs : List Loc) (ls : Array Slot), B9 x1 x2 M → fx_H G SH M s H locs → lv_has ls 4 [(0, .ref (G.2.2.2 + 159)), (1, .int x1), (2, .int x2)] → W p l e (fx_rm (7)) s m args below meth c H locs 0 0 (MQ below (va_Qi K (fx_R G SH) (fx_A G)) args s 0 0 (fx_A G)) (F0 m 9 ls [])) : ∀ (x1 : Int32) (x2 : Int32) (x3 : Int32) (M : Mm) (H : Heap) (locs : List Loc) (ls : Array Slot), T_X12_readAny_33 B9 x1 x2 x3 M K → fx_H G SH M s H locs → lv_has ls 4 [(0, .ref (G.2.2.2 + 159)), (1, .int x1), (2, .int x2), (3, .int x3)] → W p l e (fx_rm (7)) s m args below meth c H locs 0 0 (MQ below (va_Qi K (fx_R G SH) (fx_A G)) args s 0 0 (fx_A G)) (F0 m 33 ls []) := by
  obtain ⟨⟨hx, hb, hml, hown, hts⟩, hK, hQ⟩ := id X
  intro x1 x2 x3 M H locs ls hT h hl
  unfold T_X12_readAny_33 at hT
  refine lv_aload_n hx hb dX12_readAny_33 rfl (lv_at hl 0 rfl) ?_
  refine fx_getI X h (k := 159) (j := 30) sh_159 rfl fl_RX12_244 dX12_readAny_34 ?_
  refine lv_bipush (v := 8) hx hb dX12_readAny_37 (by decide) ?_
  refine lv_icmp_ne (tgt := 48) hx hb dX12_readAny_39 (by decide) (fun hc6 => ?_) (fun hc6 => ?_)
  · have hT := hT.2 hc6
    refine lv_aload_n hx hb dX12_readAny_48 rfl (lv_at hl 0 rfl) ?_
    refine lv_aload_n hx hb dX12_readAny_49 rfl (lv_at hl 0 rfl) ?_
    refine fx_getI X h (k := 159) (j := 30) sh_159 rfl fl_RX12_244 dX12_readAny_50 ?_
    refine lv_iconst (v := 1) hx hb dX12_readAny_53 (by decide) ?_
    refine lv_iadd hx hb dX12_readAny_54 ?_
    refine fx_putI X h (k := 159) (j := 30) sh_159 rfl fl_RX12_244 dX12_readAny_55 (fun H locs h => ?_)
    obtain ⟨M7, eM7⟩ : ∃ z : Mm, z = m_up M 159 30 ((M 159 30) + (1 : Int32)) := ⟨_, rfl⟩
    have hT := hT M7 eM7
    rw [← eM7] at h
    refine lv_iload_n hx hb dX12_readAny_58 rfl (lv_at hl 3 rfl) ?_
    refine lv_if_ne (tgt := 66) hx hb dX12_readAny_59 (by decide) (fun hc8 => ?_) (fun hc8 => ?_)
    · have hT := hT.2 hc8
      exact w_X12_readAny_66 X hr hk (B9 := B9) hB9 x1 x2 x3 M7 _ _ ls hT h (lv_sub hl [0, 1, 2, 3] rfl)
    · have hT := hT.1 hc8
      refine lv_iload_n hx hb dX12_readAny_62 rfl (lv_at hl 1 rfl) ?_
      refine lv_iconst (v := 1) hx hb dX12_readAny_63 (by decide) ?_
      refine lv_iadd hx hb dX12_readAny_64 ?_
      refine lv_topi (fun y9 ey9 => ?_)
      have hT := hT y9 ey9
      refine lv_istore_n (lv' := [(1, .int y9), (0, .ref (G.2.2.2 + 159)), (2, .int x2), (3, .int x3)]) hx hb dX12_readAny_65 rfl hl (by decide) rfl (fun ls hl => ?_)
      exact w_X12_readAny_66 X hr hk (B9 := B9) hB9 y9 x2 x3 M7 _ _ ls hT h (lv_sub hl [1, 0, 2, 3] rfl)
  · have hT := hT.1 hc6
    refine lv_aload_n hx hb dX12_readAny_42 rfl (lv_at hl 0 rfl) ?_
    refine lv_iconst (v := 3) hx hb dX12_readAny_43 (by decide) ?_
    refine fx_vi X h ym_X12_errs yi_X12_errs ys_X12_errs (fx_s7 (List.mem_of_getElem? (i := 153) rfl) rfl) sh_159 rfl (c_X12_errs l G hT) (As := [.int (3 : Int32)]) (rest := []) rfl rfl ⟨Nat.le_of_ble_eq_true rfl, Nat.le_of_ble_eq_true rfl⟩ ⟨Nat.le_refl _, Nat.le_refl _⟩ hl.1 (Nat.le_of_ble_eq_true rfl) dX12_readAny_44 (fun r12 M11 H locs hT h => ?_)
    exact fx_iret X hr hk h hT dX12_readAny_47
def T_X12_readAny_9 : Nat → Int32 → Int32 → Mm → (Int32 → Mm → Prop) → Prop
  | 0, _, _, _, _ => False
  | n + 1, x1, x2, M, K => ((x2 = 0 → (T_X12_isWord (5 : Int32) M (fun r16 M15 => ((r16 = 0 → (T_X12_isWord (4 : Int32) M15 (fun r20 M19 => ((r20 = 0 → (T_X12_settles (10 : Int32) M19 (fun M23 => (T_X12_settles (11 : Int32) M23 (fun M25 => ((x1 = 0 → (K (0 : Int32) M25)) ∧ (¬ x1 = 0 → (T_X12_isSign (41 : Int32) M25 (fun r29 M28 => ((r29 = 0 → (T_X12_errs (1 : Int32) M28 (fun r40 M39 => (K r40 M39)))) ∧ (¬ r29 = 0 → (∀ M31 : Mm, M31 = m_up M28 159 32 ((M28 159 32) - (1 : Int32)) → (∀ y32 : Int32, y32 = (x1 - (1 : Int32)) → (∀ M33 : Mm, M33 = m_up M31 159 30 ((M31 159 30) - (1 : Int32)) → (T_X12_settles (9 : Int32) M33 (fun M35 => (T_X12_reads M35 (fun M37 => (T_X12_readAny_9 n y32 x2 M37 K))))))))))))))))))) ∧ (¬ r20 = 0 → (T_X12_settles (10 : Int32) M19 (fun M42 => (T_X12_settles (11 : Int32) M42 (fun M44 => (T_X12_waits (11 : Int32) M44 (fun M46 => (T_X12_reads M46 (fun M48 => (T_X12_readAny_9 n x1 (1 : Int32) M48 K)))))))))))))) ∧ (¬ r16 = 0 → (T_X12_settles (10 : Int32) M15 (fun M50 => (T_X12_waits (10 : Int32) M50 (fun M52 => (T_X12_reads M52 (fun M54 => (T_X12_readAny_9 n x1 (1 : Int32) M54 K)))))))))))) ∧ (¬ x2 = 0 → (T_X12_isWord (6 : Int32) M (fun r57 M56 => ((r57 = 0 → (T_X12_isSign (40 : Int32) M56 (fun r61 M60 => ((r61 = 0 → (T_X12_readCompared M60 (fun r65 M64 => ((r65 = (-1 : Int32) → (K (-1 : Int32) M64)) ∧ (¬ r65 = (-1 : Int32) → (T_X12_settles (9 : Int32) M64 (fun M68 => (T_X12_readAny_9 n x1 (0 : Int32) M68 K)))))))) ∧ (¬ r61 = 0 → (T_X12_readAny_33 (fun x1 x2 M => T_X12_readAny_9 n x1 x2 M K) x1 x2 r57 M60 K)))))) ∧ (¬ r57 = 0 → (T_X12_readAny_33 (fun x1 x2 M => T_X12_readAny_9 n x1 x2 M K) x1 x2 r57 M56 K)))))))
set_option maxHeartbeats 4000000 in
set_option maxRecDepth 100000 in
theorem w_X12_readAny_9 {p : Program} {l : Launch} {e : Env} {s : State} {m : MethodId} {args : Array Value} {below : List Frame} {meth : Method} {c : Code} {G : fx_G} {K : Int32 → Mm → Prop} (X : fx_C G p s m c args cX12_readAny 4 RX12) (hr : meth.sig.returnType = (some .int)) (hk : meth.locks = false) : ∀ (n : Nat) (x1 : Int32) (x2 : Int32) (M : Mm) (H : Heap) (locs : List Loc) (ls : Array Slot), T_X12_readAny_9 n x1 x2 M K → fx_H G SH M s H locs → lv_has ls 4 [(0, .ref (G.2.2.2 + 159)), (1, .int x1), (2, .int x2)] → W p l e (fx_rm (7)) s m args below meth c H locs 0 0 (MQ below (va_Qi K (fx_R G SH) (fx_A G)) args s 0 0 (fx_A G)) (F0 m 9 ls []) := by
  obtain ⟨⟨hx, hb, hml, hown, hts⟩, hK, hQ⟩ := id X
  intro n
  induction n with
  | zero =>
    intro x1 x2 M H locs ls hT
    exact hT.elim
  | succ n ih =>
    intro x1 x2 M H locs ls hT h hl
    rw [T_X12_readAny_9] at hT
    refine lv_iload_n hx hb dX12_readAny_9 rfl (lv_at hl 2 rfl) ?_
    refine lv_if_eq (tgt := 109) hx hb dX12_readAny_10 (by decide) (fun hc13 => ?_) (fun hc13 => ?_)
    · have hT := hT.1 hc13
      refine lv_aload_n hx hb dX12_readAny_109 rfl (lv_at hl 0 rfl) ?_
      refine lv_iconst (v := 5) hx hb dX12_readAny_110 (by decide) ?_
      refine fx_vi X h ym_X12_isWord yi_X12_isWord ys_X12_isWord (fx_s7 (List.mem_of_getElem? (i := 149) rfl) rfl) sh_159 rfl (c_X12_isWord l G hT) (As := [.int (5 : Int32)]) (rest := []) rfl rfl ⟨Nat.le_of_ble_eq_true rfl, Nat.le_of_ble_eq_true rfl⟩ ⟨Nat.le_refl _, Nat.le_refl _⟩ hl.1 (Nat.le_of_ble_eq_true rfl) dX12_readAny_111 (fun r16 M15 H locs hT h => ?_)
      refine lv_if_eq (tgt := 138) hx hb dX12_readAny_114 (by decide) (fun hc17 => ?_) (fun hc17 => ?_)
      · have hT := hT.1 hc17
        refine lv_aload_n hx hb dX12_readAny_138 rfl (lv_at hl 0 rfl) ?_
        refine lv_iconst (v := 4) hx hb dX12_readAny_139 (by decide) ?_
        refine fx_vi X h ym_X12_isWord yi_X12_isWord ys_X12_isWord (fx_s7 (List.mem_of_getElem? (i := 149) rfl) rfl) sh_159 rfl (c_X12_isWord l G hT) (As := [.int (4 : Int32)]) (rest := []) rfl rfl ⟨Nat.le_of_ble_eq_true rfl, Nat.le_of_ble_eq_true rfl⟩ ⟨Nat.le_refl _, Nat.le_refl _⟩ hl.1 (Nat.le_of_ble_eq_true rfl) dX12_readAny_140 (fun r20 M19 H locs hT h => ?_)
        refine lv_if_eq (tgt := 173) hx hb dX12_readAny_143 (by decide) (fun hc21 => ?_) (fun hc21 => ?_)
        · have hT := hT.1 hc21
          refine lv_aload_n hx hb dX12_readAny_173 rfl (lv_at hl 0 rfl) ?_
          refine lv_bipush (v := 10) hx hb dX12_readAny_174 (by decide) ?_
          refine fx_vv X h ym_X12_settles yi_X12_settles ys_X12_settles (fx_s8 (List.mem_of_getElem? (i := 1) rfl) rfl) sh_159 rfl (c_X12_settles l G hT) (As := [.int (10 : Int32)]) (rest := []) rfl rfl ⟨Nat.le_of_ble_eq_true rfl, Nat.le_of_ble_eq_true rfl⟩ ⟨Nat.le_refl _, Nat.le_refl _⟩ hl.1 (Nat.le_of_ble_eq_true rfl) dX12_readAny_176 (fun M23 H locs hT h => ?_)
          refine lv_aload_n hx hb dX12_readAny_179 rfl (lv_at hl 0 rfl) ?_
          refine lv_bipush (v := 11) hx hb dX12_readAny_180 (by decide) ?_
          refine fx_vv X h ym_X12_settles yi_X12_settles ys_X12_settles (fx_s8 (List.mem_of_getElem? (i := 1) rfl) rfl) sh_159 rfl (c_X12_settles l G hT) (As := [.int (11 : Int32)]) (rest := []) rfl rfl ⟨Nat.le_of_ble_eq_true rfl, Nat.le_of_ble_eq_true rfl⟩ ⟨Nat.le_refl _, Nat.le_refl _⟩ hl.1 (Nat.le_of_ble_eq_true rfl) dX12_readAny_182 (fun M25 H locs hT h => ?_)
          refine lv_iload_n hx hb dX12_readAny_185 rfl (lv_at hl 1 rfl) ?_
          refine lv_if_ne (tgt := 191) hx hb dX12_readAny_186 (by decide) (fun hc26 => ?_) (fun hc26 => ?_)
          · have hT := hT.2 hc26
            refine lv_aload_n hx hb dX12_readAny_191 rfl (lv_at hl 0 rfl) ?_
            refine lv_bipush (v := 41) hx hb dX12_readAny_192 (by decide) ?_
            refine fx_vi X h ym_X12_isSign yi_X12_isSign ys_X12_isSign (fx_s7 (List.mem_of_getElem? (i := 173) rfl) rfl) sh_159 rfl (c_X12_isSign l G hT) (As := [.int (41 : Int32)]) (rest := []) rfl rfl ⟨Nat.le_of_ble_eq_true rfl, Nat.le_of_ble_eq_true rfl⟩ ⟨Nat.le_refl _, Nat.le_refl _⟩ hl.1 (Nat.le_of_ble_eq_true rfl) dX12_readAny_194 (fun r29 M28 H locs hT h => ?_)
            refine lv_if_ne (tgt := 206) hx hb dX12_readAny_197 (by decide) (fun hc30 => ?_) (fun hc30 => ?_)
            · have hT := hT.2 hc30
              refine lv_aload_n hx hb dX12_readAny_206 rfl (lv_at hl 0 rfl) ?_
              refine lv_aload_n hx hb dX12_readAny_207 rfl (lv_at hl 0 rfl) ?_
              refine fx_getI X h (k := 159) (j := 32) sh_159 rfl fl_RX12_241 dX12_readAny_208 ?_
              refine lv_iconst (v := 1) hx hb dX12_readAny_211 (by decide) ?_
              refine lv_isub hx hb dX12_readAny_212 ?_
              refine fx_putI X h (k := 159) (j := 32) sh_159 rfl fl_RX12_241 dX12_readAny_213 (fun H locs h => ?_)
              obtain ⟨M31, eM31⟩ : ∃ z : Mm, z = m_up M28 159 32 ((M28 159 32) - (1 : Int32)) := ⟨_, rfl⟩
              have hT := hT M31 eM31
              rw [← eM31] at h
              refine lv_iload_n hx hb dX12_readAny_216 rfl (lv_at hl 1 rfl) ?_
              refine lv_iconst (v := 1) hx hb dX12_readAny_217 (by decide) ?_
              refine lv_isub hx hb dX12_readAny_218 ?_
              refine lv_topi (fun y32 ey32 => ?_)
              have hT := hT y32 ey32
              refine lv_istore_n (lv' := [(1, .int y32), (0, .ref (G.2.2.2 + 159)), (2, .int x2)]) hx hb dX12_readAny_219 rfl hl (by decide) rfl (fun ls hl => ?_)
              refine lv_aload_n hx hb dX12_readAny_220 rfl (lv_at hl 1 rfl) ?_
              refine lv_aload_n hx hb dX12_readAny_221 rfl (lv_at hl 1 rfl) ?_
              refine fx_getI X h (k := 159) (j := 30) sh_159 rfl fl_RX12_244 dX12_readAny_222 ?_
              refine lv_iconst (v := 1) hx hb dX12_readAny_225 (by decide) ?_
              refine lv_isub hx hb dX12_readAny_226 ?_
              refine fx_putI X h (k := 159) (j := 30) sh_159 rfl fl_RX12_244 dX12_readAny_227 (fun H locs h => ?_)
              obtain ⟨M33, eM33⟩ : ∃ z : Mm, z = m_up M31 159 30 ((M31 159 30) - (1 : Int32)) := ⟨_, rfl⟩
              have hT := hT M33 eM33
              rw [← eM33] at h
              refine lv_aload_n hx hb dX12_readAny_230 rfl (lv_at hl 1 rfl) ?_
              refine lv_bipush (v := 9) hx hb dX12_readAny_231 (by decide) ?_
              refine fx_vv X h ym_X12_settles yi_X12_settles ys_X12_settles (fx_s8 (List.mem_of_getElem? (i := 1) rfl) rfl) sh_159 rfl (c_X12_settles l G hT) (As := [.int (9 : Int32)]) (rest := []) rfl rfl ⟨Nat.le_of_ble_eq_true rfl, Nat.le_of_ble_eq_true rfl⟩ ⟨Nat.le_refl _, Nat.le_refl _⟩ hl.1 (Nat.le_of_ble_eq_true rfl) dX12_readAny_233 (fun M35 H locs hT h => ?_)
              refine lv_aload_n hx hb dX12_readAny_236 rfl (lv_at hl 1 rfl) ?_
              refine fx_vv X h ym_X12_reads yi_X12_reads ys_X12_reads (fx_s7 (List.mem_of_getElem? (i := 121) rfl) rfl) sh_159 rfl (c_X12_reads l G hT) (As := []) (rest := []) rfl rfl ⟨Nat.le_of_ble_eq_true rfl, Nat.le_of_ble_eq_true rfl⟩ ⟨Nat.le_refl _, Nat.le_refl _⟩ hl.1 (Nat.le_of_ble_eq_true rfl) dX12_readAny_237 (fun M37 H locs hT h => ?_)
              refine lv_goto (tgt := 9) hx hb dX12_readAny_240 (by decide) ?_
              exact ih y32 x2 M37 _ _ ls hT h (lv_sub hl [1, 0, 2] rfl)
            · have hT := hT.1 hc30
              refine lv_aload_n hx hb dX12_readAny_200 rfl (lv_at hl 0 rfl) ?_
              refine lv_iconst (v := 1) hx hb dX12_readAny_201 (by decide) ?_
              refine fx_vi X h ym_X12_errs yi_X12_errs ys_X12_errs (fx_s7 (List.mem_of_getElem? (i := 153) rfl) rfl) sh_159 rfl (c_X12_errs l G hT) (As := [.int (1 : Int32)]) (rest := []) rfl rfl ⟨Nat.le_of_ble_eq_true rfl, Nat.le_of_ble_eq_true rfl⟩ ⟨Nat.le_refl _, Nat.le_refl _⟩ hl.1 (Nat.le_of_ble_eq_true rfl) dX12_readAny_202 (fun r40 M39 H locs hT h => ?_)
              exact fx_iret X hr hk h hT dX12_readAny_205
          · have hT := hT.1 hc26
            refine lv_iconst (v := 0) hx hb dX12_readAny_189 (by decide) ?_
            exact fx_iret X hr hk h hT dX12_readAny_190
        · have hT := hT.2 hc21
          refine lv_aload_n hx hb dX12_readAny_146 rfl (lv_at hl 0 rfl) ?_
          refine lv_bipush (v := 10) hx hb dX12_readAny_147 (by decide) ?_
          refine fx_vv X h ym_X12_settles yi_X12_settles ys_X12_settles (fx_s8 (List.mem_of_getElem? (i := 1) rfl) rfl) sh_159 rfl (c_X12_settles l G hT) (As := [.int (10 : Int32)]) (rest := []) rfl rfl ⟨Nat.le_of_ble_eq_true rfl, Nat.le_of_ble_eq_true rfl⟩ ⟨Nat.le_refl _, Nat.le_refl _⟩ hl.1 (Nat.le_of_ble_eq_true rfl) dX12_readAny_149 (fun M42 H locs hT h => ?_)
          refine lv_aload_n hx hb dX12_readAny_152 rfl (lv_at hl 0 rfl) ?_
          refine lv_bipush (v := 11) hx hb dX12_readAny_153 (by decide) ?_
          refine fx_vv X h ym_X12_settles yi_X12_settles ys_X12_settles (fx_s8 (List.mem_of_getElem? (i := 1) rfl) rfl) sh_159 rfl (c_X12_settles l G hT) (As := [.int (11 : Int32)]) (rest := []) rfl rfl ⟨Nat.le_of_ble_eq_true rfl, Nat.le_of_ble_eq_true rfl⟩ ⟨Nat.le_refl _, Nat.le_refl _⟩ hl.1 (Nat.le_of_ble_eq_true rfl) dX12_readAny_155 (fun M44 H locs hT h => ?_)
          refine lv_aload_n hx hb dX12_readAny_158 rfl (lv_at hl 0 rfl) ?_
          refine lv_bipush (v := 11) hx hb dX12_readAny_159 (by decide) ?_
          refine fx_vv X h ym_X12_waits yi_X12_waits ys_X12_waits (fx_s7 (List.mem_of_getElem? (i := 233) rfl) rfl) sh_159 rfl (c_X12_waits l G hT) (As := [.int (11 : Int32)]) (rest := []) rfl rfl ⟨Nat.le_of_ble_eq_true rfl, Nat.le_of_ble_eq_true rfl⟩ ⟨Nat.le_refl _, Nat.le_refl _⟩ hl.1 (Nat.le_of_ble_eq_true rfl) dX12_readAny_161 (fun M46 H locs hT h => ?_)
          refine lv_aload_n hx hb dX12_readAny_164 rfl (lv_at hl 0 rfl) ?_
          refine fx_vv X h ym_X12_reads yi_X12_reads ys_X12_reads (fx_s7 (List.mem_of_getElem? (i := 121) rfl) rfl) sh_159 rfl (c_X12_reads l G hT) (As := []) (rest := []) rfl rfl ⟨Nat.le_of_ble_eq_true rfl, Nat.le_of_ble_eq_true rfl⟩ ⟨Nat.le_refl _, Nat.le_refl _⟩ hl.1 (Nat.le_of_ble_eq_true rfl) dX12_readAny_165 (fun M48 H locs hT h => ?_)
          refine lv_iconst (v := 1) hx hb dX12_readAny_168 (by decide) ?_
          refine lv_istore_n (lv' := [(2, .int (1 : Int32)), (0, .ref (G.2.2.2 + 159)), (1, .int x1)]) hx hb dX12_readAny_169 rfl hl (by decide) rfl (fun ls hl => ?_)
          refine lv_goto (tgt := 9) hx hb dX12_readAny_170 (by decide) ?_
          exact ih x1 (1 : Int32) M48 _ _ ls hT h (lv_sub hl [1, 2, 0] rfl)
      · have hT := hT.2 hc17
        refine lv_aload_n hx hb dX12_readAny_117 rfl (lv_at hl 0 rfl) ?_
        refine lv_bipush (v := 10) hx hb dX12_readAny_118 (by decide) ?_
        refine fx_vv X h ym_X12_settles yi_X12_settles ys_X12_settles (fx_s8 (List.mem_of_getElem? (i := 1) rfl) rfl) sh_159 rfl (c_X12_settles l G hT) (As := [.int (10 : Int32)]) (rest := []) rfl rfl ⟨Nat.le_of_ble_eq_true rfl, Nat.le_of_ble_eq_true rfl⟩ ⟨Nat.le_refl _, Nat.le_refl _⟩ hl.1 (Nat.le_of_ble_eq_true rfl) dX12_readAny_120 (fun M50 H locs hT h => ?_)
        refine lv_aload_n hx hb dX12_readAny_123 rfl (lv_at hl 0 rfl) ?_
        refine lv_bipush (v := 10) hx hb dX12_readAny_124 (by decide) ?_
        refine fx_vv X h ym_X12_waits yi_X12_waits ys_X12_waits (fx_s7 (List.mem_of_getElem? (i := 233) rfl) rfl) sh_159 rfl (c_X12_waits l G hT) (As := [.int (10 : Int32)]) (rest := []) rfl rfl ⟨Nat.le_of_ble_eq_true rfl, Nat.le_of_ble_eq_true rfl⟩ ⟨Nat.le_refl _, Nat.le_refl _⟩ hl.1 (Nat.le_of_ble_eq_true rfl) dX12_readAny_126 (fun M52 H locs hT h => ?_)
        refine lv_aload_n hx hb dX12_readAny_129 rfl (lv_at hl 0 rfl) ?_
        refine fx_vv X h ym_X12_reads yi_X12_reads ys_X12_reads (fx_s7 (List.mem_of_getElem? (i := 121) rfl) rfl) sh_159 rfl (c_X12_reads l G hT) (As := []) (rest := []) rfl rfl ⟨Nat.le_of_ble_eq_true rfl, Nat.le_of_ble_eq_true rfl⟩ ⟨Nat.le_refl _, Nat.le_refl _⟩ hl.1 (Nat.le_of_ble_eq_true rfl) dX12_readAny_130 (fun M54 H locs hT h => ?_)
        refine lv_iconst (v := 1) hx hb dX12_readAny_133 (by decide) ?_
        refine lv_istore_n (lv' := [(2, .int (1 : Int32)), (0, .ref (G.2.2.2 + 159)), (1, .int x1)]) hx hb dX12_readAny_134 rfl hl (by decide) rfl (fun ls hl => ?_)
        refine lv_goto (tgt := 9) hx hb dX12_readAny_135 (by decide) ?_
        exact ih x1 (1 : Int32) M54 _ _ ls hT h (lv_sub hl [1, 2, 0] rfl)
    · have hT := hT.2 hc13
      refine lv_aload_n hx hb dX12_readAny_13 rfl (lv_at hl 0 rfl) ?_
      refine lv_bipush (v := 6) hx hb dX12_readAny_14 (by decide) ?_
      refine fx_vi X h ym_X12_isWord yi_X12_isWord ys_X12_isWord (fx_s7 (List.mem_of_getElem? (i := 149) rfl) rfl) sh_159 rfl (c_X12_isWord l G hT) (As := [.int (6 : Int32)]) (rest := []) rfl rfl ⟨Nat.le_of_ble_eq_true rfl, Nat.le_of_ble_eq_true rfl⟩ ⟨Nat.le_refl _, Nat.le_refl _⟩ hl.1 (Nat.le_of_ble_eq_true rfl) dX12_readAny_16 (fun r57 M56 H locs hT h => ?_)
      refine lv_istore_n (lv' := [(3, .int r57), (0, .ref (G.2.2.2 + 159)), (1, .int x1), (2, .int x2)]) hx hb dX12_readAny_19 rfl hl (by decide) rfl (fun ls hl => ?_)
      refine lv_iload_n hx hb dX12_readAny_20 rfl (lv_at hl 0 rfl) ?_
      refine lv_if_ne (tgt := 33) hx hb dX12_readAny_21 (by decide) (fun hc58 => ?_) (fun hc58 => ?_)
      · have hT := hT.2 hc58
        exact w_X12_readAny_33 X hr hk (B9 := (fun x1 x2 M => T_X12_readAny_9 n x1 x2 M K)) ih x1 x2 r57 M56 _ _ ls hT h (lv_sub hl [1, 2, 3, 0] rfl)
      · have hT := hT.1 hc58
        refine lv_aload_n hx hb dX12_readAny_24 rfl (lv_at hl 1 rfl) ?_
        refine lv_bipush (v := 40) hx hb dX12_readAny_25 (by decide) ?_
        refine fx_vi X h ym_X12_isSign yi_X12_isSign ys_X12_isSign (fx_s7 (List.mem_of_getElem? (i := 173) rfl) rfl) sh_159 rfl (c_X12_isSign l G hT) (As := [.int (40 : Int32)]) (rest := []) rfl rfl ⟨Nat.le_of_ble_eq_true rfl, Nat.le_of_ble_eq_true rfl⟩ ⟨Nat.le_refl _, Nat.le_refl _⟩ hl.1 (Nat.le_of_ble_eq_true rfl) dX12_readAny_27 (fun r61 M60 H locs hT h => ?_)
        refine lv_if_eq (tgt := 88) hx hb dX12_readAny_30 (by decide) (fun hc62 => ?_) (fun hc62 => ?_)
        · have hT := hT.1 hc62
          refine lv_aload_n hx hb dX12_readAny_88 rfl (lv_at hl 1 rfl) ?_
          refine fx_vi X h ym_X12_readCompared yi_X12_readCompared ys_X12_readCompared (fx_s7 (List.mem_of_getElem? (i := 237) rfl) rfl) sh_159 rfl (c_X12_readCompared l G hT) (As := []) (rest := []) rfl rfl ⟨Nat.le_of_ble_eq_true rfl, Nat.le_of_ble_eq_true rfl⟩ ⟨Nat.le_refl _, Nat.le_refl _⟩ hl.1 (Nat.le_of_ble_eq_true rfl) dX12_readAny_89 (fun r65 M64 H locs hT h => ?_)
          refine lv_iconst (v := -1) hx hb dX12_readAny_92 (by decide) ?_
          refine lv_icmp_ne (tgt := 98) hx hb dX12_readAny_93 (by decide) (fun hc66 => ?_) (fun hc66 => ?_)
          · have hT := hT.2 hc66
            refine lv_aload_n hx hb dX12_readAny_98 rfl (lv_at hl 1 rfl) ?_
            refine lv_bipush (v := 9) hx hb dX12_readAny_99 (by decide) ?_
            refine fx_vv X h ym_X12_settles yi_X12_settles ys_X12_settles (fx_s8 (List.mem_of_getElem? (i := 1) rfl) rfl) sh_159 rfl (c_X12_settles l G hT) (As := [.int (9 : Int32)]) (rest := []) rfl rfl ⟨Nat.le_of_ble_eq_true rfl, Nat.le_of_ble_eq_true rfl⟩ ⟨Nat.le_refl _, Nat.le_refl _⟩ hl.1 (Nat.le_of_ble_eq_true rfl) dX12_readAny_101 (fun M68 H locs hT h => ?_)
            refine lv_iconst (v := 0) hx hb dX12_readAny_104 (by decide) ?_
            refine lv_istore_n (lv' := [(2, .int (0 : Int32)), (3, .int r57), (0, .ref (G.2.2.2 + 159)), (1, .int x1)]) hx hb dX12_readAny_105 rfl hl (by decide) rfl (fun ls hl => ?_)
            refine lv_goto (tgt := 9) hx hb dX12_readAny_106 (by decide) ?_
            exact ih x1 (0 : Int32) M68 _ _ ls hT h (lv_sub hl [2, 3, 0] rfl)
          · have hT := hT.1 hc66
            refine lv_iconst (v := -1) hx hb dX12_readAny_96 (by decide) ?_
            exact fx_iret X hr hk h hT dX12_readAny_97
        · have hT := hT.2 hc62
          exact w_X12_readAny_33 X hr hk (B9 := (fun x1 x2 M => T_X12_readAny_9 n x1 x2 M K)) ih x1 x2 r57 M60 _ _ ls hT h (lv_sub hl [1, 2, 3, 0] rfl)
def T_X12_readAny (M : Mm) (K : Int32 → Mm → Prop) : Prop := (∀ M69 : Mm, M69 = m_up M 159 32 (0 : Int32) → (T_X12_readAny_9 5000 (0 : Int32) (1 : Int32) M69 K))
set_option maxHeartbeats 4000000 in
set_option maxRecDepth 100000 in
theorem c_X12_readAny (l : Launch) (G : fx_G) {M : Mm} {K : Int32 → Mm → Prop} (hT : T_X12_readAny M K) : Met l yX12_readAny (fx_ws yX12_readAny cX12_readAny 4 (some .int)) (fx_rm (7)) (va_Pc [.ref (G.2.2.2 + 159)] (fx_P G SH M)) (va_Qi K (fx_R G SH) (fx_A G)) 0 0 (fx_A G) := by
  refine fx_met (own := RX12) (by decide +kernel) rfl (Nat.le_of_ble_eq_true rfl) (fun p e s m below meth c X hr hk h ls hl => ?_)
  obtain ⟨⟨hx, hb, hml, hown, hts⟩, hK, hQ⟩ := id X
  have hl : lv_has ls 4 [(0, .ref (G.2.2.2 + 159))] := hl
  unfold T_X12_readAny at hT
  refine lv_iconst (v := 0) hx hb dX12_readAny_0 (by decide) ?_
  refine lv_istore_n (lv' := [(1, .int (0 : Int32)), (0, .ref (G.2.2.2 + 159))]) hx hb dX12_readAny_1 rfl hl (by decide) rfl (fun ls hl => ?_)
  refine lv_aload_n hx hb dX12_readAny_2 rfl (lv_at hl 1 rfl) ?_
  refine lv_iconst (v := 0) hx hb dX12_readAny_3 (by decide) ?_
  refine fx_putI X h (k := 159) (j := 32) sh_159 rfl fl_RX12_241 dX12_readAny_4 (fun H locs h => ?_)
  obtain ⟨M69, eM69⟩ : ∃ z : Mm, z = m_up M 159 32 (0 : Int32) := ⟨_, rfl⟩
  have hT := hT M69 eM69
  rw [← eM69] at h
  refine lv_iconst (v := 1) hx hb dX12_readAny_7 (by decide) ?_
  refine lv_istore_n (lv' := [(2, .int (1 : Int32)), (1, .int (0 : Int32)), (0, .ref (G.2.2.2 + 159))]) hx hb dX12_readAny_8 rfl hl (by decide) rfl (fun ls hl => ?_)
  exact w_X12_readAny_9 X hr hk 5000 (0 : Int32) (1 : Int32) M69 _ _ ls hT h (lv_sub hl [2, 1, 0] rfl)
/-! MockParcelsModel.isLineWord()Z -/
theorem dX12_isLineWord_0 : decode cX12_isLineWord 0 = .ok (.aload_n 0, 1) := by decide +kernel
theorem dX12_isLineWord_1 : decode cX12_isLineWord 1 = .ok (.getfield 188, 3) := by decide +kernel
theorem dX12_isLineWord_4 : decode cX12_isLineWord 4 = .ok (.iconst 2, 1) := by decide +kernel
theorem dX12_isLineWord_5 : decode cX12_isLineWord 5 = .ok (.if_icmp .ne 20, 3) := by decide +kernel
theorem dX12_isLineWord_8 : decode cX12_isLineWord 8 = .ok (.aload_n 0, 1) := by decide +kernel
theorem dX12_isLineWord_9 : decode cX12_isLineWord 9 = .ok (.aload_n 0, 1) := by decide +kernel
theorem dX12_isLineWord_10 : decode cX12_isLineWord 10 = .ok (.getfield 191, 3) := by decide +kernel
theorem dX12_isLineWord_13 : decode cX12_isLineWord 13 = .ok (.iconst 0, 1) := by decide +kernel
theorem dX12_isLineWord_14 : decode cX12_isLineWord 14 = .ok (.iconst 2, 1) := by decide +kernel
theorem dX12_isLineWord_15 : decode cX12_isLineWord 15 = .ok (.invokevirtual 157, 3) := by decide +kernel
theorem dX12_isLineWord_18 : decode cX12_isLineWord 18 = .ok (.ifCond .eq 7, 3) := by decide +kernel
theorem dX12_isLineWord_21 : decode cX12_isLineWord 21 = .ok (.iconst 1, 1) := by decide +kernel
theorem dX12_isLineWord_22 : decode cX12_isLineWord 22 = .ok (.goto 4, 3) := by decide +kernel
theorem dX12_isLineWord_25 : decode cX12_isLineWord 25 = .ok (.iconst 0, 1) := by decide +kernel
theorem dX12_isLineWord_26 : decode cX12_isLineWord 26 = .ok (.ireturn, 1) := by decide +kernel
def T_X12_isLineWord (M : Mm) (K : Int32 → Mm → Prop) : Prop := (((M 159 18) = (2 : Int32) → (T_X12_isIn (M 159 19) (0 : Int32) (2 : Int32) M (fun r4 M3 => ((r4 = 0 → (K (0 : Int32) M3)) ∧ (¬ r4 = 0 → (K (1 : Int32) M3)))))) ∧ (¬ (M 159 18) = (2 : Int32) → (K (0 : Int32) M)))
set_option maxHeartbeats 4000000 in
set_option maxRecDepth 100000 in
theorem c_X12_isLineWord (l : Launch) (G : fx_G) {M : Mm} {K : Int32 → Mm → Prop} (hT : T_X12_isLineWord M K) : Met l yX12_isLineWord (fx_ws yX12_isLineWord cX12_isLineWord 1 (some .boolean)) (fx_rm (1)) (va_Pc [.ref (G.2.2.2 + 159)] (fx_P G SH M)) (va_Qi K (fx_R G SH) (fx_A G)) 0 0 (fx_A G) := by
  refine fx_met (own := RX12) (by decide +kernel) rfl (Nat.le_of_ble_eq_true rfl) (fun p e s m below meth c X hr hk h ls hl => ?_)
  obtain ⟨⟨hx, hb, hml, hown, hts⟩, hK, hQ⟩ := id X
  have hl : lv_has ls 1 [(0, .ref (G.2.2.2 + 159))] := hl
  unfold T_X12_isLineWord at hT
  refine lv_aload_n hx hb dX12_isLineWord_0 rfl (lv_at hl 0 rfl) ?_
  refine fx_getI X h (k := 159) (j := 18) sh_159 rfl fl_RX12_188 dX12_isLineWord_1 ?_
  refine lv_iconst (v := 2) hx hb dX12_isLineWord_4 (by decide) ?_
  refine lv_icmp_ne (tgt := 25) hx hb dX12_isLineWord_5 (by decide) (fun hc1 => ?_) (fun hc1 => ?_)
  · have hT := hT.2 hc1
    refine lv_iconst (v := 0) hx hb dX12_isLineWord_25 (by decide) ?_
    exact fx_zret X hr hk h (Or.inl rfl) hT dX12_isLineWord_26
  · have hT := hT.1 hc1
    refine lv_aload_n hx hb dX12_isLineWord_8 rfl (lv_at hl 0 rfl) ?_
    refine lv_aload_n hx hb dX12_isLineWord_9 rfl (lv_at hl 0 rfl) ?_
    refine fx_getI X h (k := 159) (j := 19) sh_159 rfl fl_RX12_191 dX12_isLineWord_10 ?_
    refine lv_iconst (v := 0) hx hb dX12_isLineWord_13 (by decide) ?_
    refine lv_iconst (v := 2) hx hb dX12_isLineWord_14 (by decide) ?_
    refine fx_vi X h ym_X12_isIn yi_X12_isIn ys_X12_isIn (fx_s7 (List.mem_of_getElem? (i := 77) rfl) rfl) sh_159 rfl (c_X12_isIn l G hT) (As := [.int (M 159 19), .int (0 : Int32), .int (2 : Int32)]) (rest := []) rfl rfl ⟨Nat.le_of_ble_eq_true rfl, Nat.le_of_ble_eq_true rfl⟩ ⟨Nat.le_refl _, Nat.le_refl _⟩ hl.1 (Nat.le_of_ble_eq_true rfl) dX12_isLineWord_15 (fun r4 M3 H locs hT h => ?_)
    refine lv_if_eq (tgt := 25) hx hb dX12_isLineWord_18 (by decide) (fun hc5 => ?_) (fun hc5 => ?_)
    · have hT := hT.1 hc5
      refine lv_iconst (v := 0) hx hb dX12_isLineWord_25 (by decide) ?_
      exact fx_zret X hr hk h (Or.inl rfl) hT dX12_isLineWord_26
    · have hT := hT.2 hc5
      refine lv_iconst (v := 1) hx hb dX12_isLineWord_21 (by decide) ?_
      refine lv_goto (tgt := 26) hx hb dX12_isLineWord_22 (by decide) ?_
      exact fx_zret X hr hk h (Or.inr rfl) hT dX12_isLineWord_26
/-! MockParcelsModel.readLaw()I -/
theorem dX12_readLaw_0 : decode cX12_readLaw 0 = .ok (.iconst 0, 1) := by decide +kernel
theorem dX12_readLaw_1 : decode cX12_readLaw 1 = .ok (.istore_n 1, 1) := by decide +kernel
theorem dX12_readLaw_2 : decode cX12_readLaw 2 = .ok (.aload_n 0, 1) := by decide +kernel
theorem dX12_readLaw_3 : decode cX12_readLaw 3 = .ok (.invokevirtual 259, 3) := by decide +kernel
theorem dX12_readLaw_6 : decode cX12_readLaw 6 = .ok (.ifCond .eq 122, 3) := by decide +kernel
theorem dX12_readLaw_9 : decode cX12_readLaw 9 = .ok (.iload_n 1, 1) := by decide +kernel
theorem dX12_readLaw_10 : decode cX12_readLaw 10 = .ok (.bipush 16, 2) := by decide +kernel
theorem dX12_readLaw_12 : decode cX12_readLaw 12 = .ok (.if_icmp .ne 9, 3) := by decide +kernel
theorem dX12_readLaw_15 : decode cX12_readLaw 15 = .ok (.aload_n 0, 1) := by decide +kernel
theorem dX12_readLaw_16 : decode cX12_readLaw 16 = .ok (.iconst 3, 1) := by decide +kernel
theorem dX12_readLaw_17 : decode cX12_readLaw 17 = .ok (.invokevirtual 218, 3) := by decide +kernel
theorem dX12_readLaw_20 : decode cX12_readLaw 20 = .ok (.ireturn, 1) := by decide +kernel
theorem dX12_readLaw_21 : decode cX12_readLaw 21 = .ok (.bipush 32, 2) := by decide +kernel
theorem dX12_readLaw_23 : decode cX12_readLaw 23 = .ok (.iload_n 1, 1) := by decide +kernel
theorem dX12_readLaw_24 : decode cX12_readLaw 24 = .ok (.iadd, 1) := by decide +kernel
theorem dX12_readLaw_25 : decode cX12_readLaw 25 = .ok (.istore_n 2, 1) := by decide +kernel
theorem dX12_readLaw_26 : decode cX12_readLaw 26 = .ok (.aload_n 0, 1) := by decide +kernel
theorem dX12_readLaw_27 : decode cX12_readLaw 27 = .ok (.getfield 46, 3) := by decide +kernel
theorem dX12_readLaw_30 : decode cX12_readLaw 30 = .ok (.iload_n 2, 1) := by decide +kernel
theorem dX12_readLaw_31 : decode cX12_readLaw 31 = .ok (.aload_n 0, 1) := by decide +kernel
theorem dX12_readLaw_32 : decode cX12_readLaw 32 = .ok (.getfield 191, 3) := by decide +kernel
theorem dX12_readLaw_35 : decode cX12_readLaw 35 = .ok (.iastore, 1) := by decide +kernel
theorem dX12_readLaw_36 : decode cX12_readLaw 36 = .ok (.aload_n 0, 1) := by decide +kernel
theorem dX12_readLaw_37 : decode cX12_readLaw 37 = .ok (.invokevirtual 225, 3) := by decide +kernel
theorem dX12_readLaw_40 : decode cX12_readLaw 40 = .ok (.aload_n 0, 1) := by decide +kernel
theorem dX12_readLaw_41 : decode cX12_readLaw 41 = .ok (.getfield 49, 3) := by decide +kernel
theorem dX12_readLaw_44 : decode cX12_readLaw 44 = .ok (.iload_n 2, 1) := by decide +kernel
theorem dX12_readLaw_45 : decode cX12_readLaw 45 = .ok (.aload_n 0, 1) := by decide +kernel
theorem dX12_readLaw_46 : decode cX12_readLaw 46 = .ok (.getfield 212, 3) := by decide +kernel
theorem dX12_readLaw_49 : decode cX12_readLaw 49 = .ok (.iastore, 1) := by decide +kernel
theorem dX12_readLaw_50 : decode cX12_readLaw 50 = .ok (.aload_n 0, 1) := by decide +kernel
theorem dX12_readLaw_51 : decode cX12_readLaw 51 = .ok (.invokevirtual 238, 3) := by decide +kernel
theorem dX12_readLaw_54 : decode cX12_readLaw 54 = .ok (.iconst (-1), 1) := by decide +kernel
theorem dX12_readLaw_55 : decode cX12_readLaw 55 = .ok (.if_icmp .ne 5, 3) := by decide +kernel
theorem dX12_readLaw_58 : decode cX12_readLaw 58 = .ok (.iconst (-1), 1) := by decide +kernel
theorem dX12_readLaw_59 : decode cX12_readLaw 59 = .ok (.ireturn, 1) := by decide +kernel
theorem dX12_readLaw_60 : decode cX12_readLaw 60 = .ok (.aload_n 0, 1) := by decide +kernel
theorem dX12_readLaw_61 : decode cX12_readLaw 61 = .ok (.getfield 52, 3) := by decide +kernel
theorem dX12_readLaw_64 : decode cX12_readLaw 64 = .ok (.iload_n 2, 1) := by decide +kernel
theorem dX12_readLaw_65 : decode cX12_readLaw 65 = .ok (.aload_n 0, 1) := by decide +kernel
theorem dX12_readLaw_66 : decode cX12_readLaw 66 = .ok (.getfield 212, 3) := by decide +kernel
theorem dX12_readLaw_69 : decode cX12_readLaw 69 = .ok (.iastore, 1) := by decide +kernel
theorem dX12_readLaw_70 : decode cX12_readLaw 70 = .ok (.aload_n 0, 1) := by decide +kernel
theorem dX12_readLaw_71 : decode cX12_readLaw 71 = .ok (.iconst 3, 1) := by decide +kernel
theorem dX12_readLaw_72 : decode cX12_readLaw 72 = .ok (.invokevirtual 247, 3) := by decide +kernel
theorem dX12_readLaw_75 : decode cX12_readLaw 75 = .ok (.ifCond .eq 17, 3) := by decide +kernel
theorem dX12_readLaw_78 : decode cX12_readLaw 78 = .ok (.aload_n 0, 1) := by decide +kernel
theorem dX12_readLaw_79 : decode cX12_readLaw 79 = .ok (.invokevirtual 225, 3) := by decide +kernel
theorem dX12_readLaw_82 : decode cX12_readLaw 82 = .ok (.aload_n 0, 1) := by decide +kernel
theorem dX12_readLaw_83 : decode cX12_readLaw 83 = .ok (.invokevirtual 263, 3) := by decide +kernel
theorem dX12_readLaw_86 : decode cX12_readLaw 86 = .ok (.iconst (-1), 1) := by decide +kernel
theorem dX12_readLaw_87 : decode cX12_readLaw 87 = .ok (.if_icmp .ne 5, 3) := by decide +kernel
theorem dX12_readLaw_90 : decode cX12_readLaw 90 = .ok (.iconst (-1), 1) := by decide +kernel
theorem dX12_readLaw_91 : decode cX12_readLaw 91 = .ok (.ireturn, 1) := by decide +kernel
theorem dX12_readLaw_92 : decode cX12_readLaw 92 = .ok (.aload_n 0, 1) := by decide +kernel
theorem dX12_readLaw_93 : decode cX12_readLaw 93 = .ok (.getfield 55, 3) := by decide +kernel
theorem dX12_readLaw_96 : decode cX12_readLaw 96 = .ok (.iload_n 2, 1) := by decide +kernel
theorem dX12_readLaw_97 : decode cX12_readLaw 97 = .ok (.aload_n 0, 1) := by decide +kernel
theorem dX12_readLaw_98 : decode cX12_readLaw 98 = .ok (.getfield 212, 3) := by decide +kernel
theorem dX12_readLaw_101 : decode cX12_readLaw 101 = .ok (.iastore, 1) := by decide +kernel
theorem dX12_readLaw_102 : decode cX12_readLaw 102 = .ok (.aload_n 0, 1) := by decide +kernel
theorem dX12_readLaw_103 : decode cX12_readLaw 103 = .ok (.bipush 59, 2) := by decide +kernel
theorem dX12_readLaw_105 : decode cX12_readLaw 105 = .ok (.invokevirtual 232, 3) := by decide +kernel
theorem dX12_readLaw_108 : decode cX12_readLaw 108 = .ok (.ifCond .ne 9, 3) := by decide +kernel
theorem dX12_readLaw_111 : decode cX12_readLaw 111 = .ok (.aload_n 0, 1) := by decide +kernel
theorem dX12_readLaw_112 : decode cX12_readLaw 112 = .ok (.iconst 1, 1) := by decide +kernel
theorem dX12_readLaw_113 : decode cX12_readLaw 113 = .ok (.invokevirtual 218, 3) := by decide +kernel
theorem dX12_readLaw_116 : decode cX12_readLaw 116 = .ok (.ireturn, 1) := by decide +kernel
theorem dX12_readLaw_117 : decode cX12_readLaw 117 = .ok (.aload_n 0, 1) := by decide +kernel
theorem dX12_readLaw_118 : decode cX12_readLaw 118 = .ok (.invokevirtual 225, 3) := by decide +kernel
theorem dX12_readLaw_121 : decode cX12_readLaw 121 = .ok (.iload_n 1, 1) := by decide +kernel
theorem dX12_readLaw_122 : decode cX12_readLaw 122 = .ok (.iconst 1, 1) := by decide +kernel
theorem dX12_readLaw_123 : decode cX12_readLaw 123 = .ok (.iadd, 1) := by decide +kernel
theorem dX12_readLaw_124 : decode cX12_readLaw 124 = .ok (.istore_n 1, 1) := by decide +kernel
theorem dX12_readLaw_125 : decode cX12_readLaw 125 = .ok (.goto (-123), 3) := by decide +kernel
theorem dX12_readLaw_128 : decode cX12_readLaw 128 = .ok (.aload_n 0, 1) := by decide +kernel
theorem dX12_readLaw_129 : decode cX12_readLaw 129 = .ok (.getfield 188, 3) := by decide +kernel
theorem dX12_readLaw_132 : decode cX12_readLaw 132 = .ok (.ifCond .ne 7, 3) := by decide +kernel
theorem dX12_readLaw_135 : decode cX12_readLaw 135 = .ok (.iload_n 1, 1) := by decide +kernel
theorem dX12_readLaw_136 : decode cX12_readLaw 136 = .ok (.goto 8, 3) := by decide +kernel
theorem dX12_readLaw_139 : decode cX12_readLaw 139 = .ok (.aload_n 0, 1) := by decide +kernel
theorem dX12_readLaw_140 : decode cX12_readLaw 140 = .ok (.iconst 1, 1) := by decide +kernel
theorem dX12_readLaw_141 : decode cX12_readLaw 141 = .ok (.invokevirtual 218, 3) := by decide +kernel
theorem dX12_readLaw_144 : decode cX12_readLaw 144 = .ok (.ireturn, 1) := by decide +kernel
def T_X12_readLaw_92 (B2 : Int32 → Mm → Prop) (x1 : Int32) (x2 : Int32) (M : Mm) (K : Int32 → Mm → Prop) : Prop := (vp_in x2 48 ∧ (∀ M1 : Mm, M1 = m_up M 175 (x2).toNatClampNeg (M 159 29) → (T_X12_isSign (59 : Int32) M1 (fun r5 M4 => ((r5 = 0 → (T_X12_errs (1 : Int32) M4 (fun r12 M11 => (K r12 M11)))) ∧ (¬ r5 = 0 → (T_X12_reads M4 (fun M8 => (∀ y9 : Int32, y9 = (x1 + (1 : Int32)) → (B2 y9 M8))))))))))
set_option maxHeartbeats 4000000 in
set_option maxRecDepth 100000 in
theorem w_X12_readLaw_92 {p : Program} {l : Launch} {e : Env} {s : State} {m : MethodId} {args : Array Value} {below : List Frame} {meth : Method} {c : Code} {G : fx_G} {K : Int32 → Mm → Prop} {B2 : Int32 → Mm → Prop} (X : fx_C G p s m c args cX12_readLaw 3 RX12) (hr : meth.sig.returnType = (some .int)) (hk : meth.locks = false) (hB2 : ∀ (x1 : Int32) (M : Mm) (H : Heap) (locs : List Loc) (ls : Array Slot), B2 x1 M → fx_H G SH M s H locs → lv_has ls 3 [(0, .ref (G.2.2.2 + 159)), (1, .int x1)] → W p l e (fx_rm (8)) s m args below meth c H locs 0 0 (MQ below (va_Qi K (fx_R G SH) (fx_A G)) args s 0 0 (fx_A G)) (F0 m 2 ls [])) : ∀ (x1 : Int32) (x2 : Int32) (M : Mm) (H : Heap) (locs : List Loc) (ls : Array Slot), T_X12_readLaw_92 B2 x1 x2 M K → fx_H G SH M s H locs → lv_has ls 3 [(0, .ref (G.2.2.2 + 159)), (1, .int x1), (2, .int x2)] → W p l e (fx_rm (8)) s m args below meth c H locs 0 0 (MQ below (va_Qi K (fx_R G SH) (fx_A G)) args s 0 0 (fx_A G)) (F0 m 92 ls []) := by
  obtain ⟨⟨hx, hb, hml, hown, hts⟩, hK, hQ⟩ := id X
  intro x1 x2 M H locs ls hT h hl
  unfold T_X12_readLaw_92 at hT
  refine lv_aload_n hx hb dX12_readLaw_92 rfl (lv_at hl 0 rfl) ?_
  refine fx_getR X h (k := 159) (j := 25) (r := 175) sh_159 rfl fl_RX12_55 dX12_readLaw_93 ?_
  refine lv_iload_n hx hb dX12_readLaw_96 rfl (lv_at hl 2 rfl) ?_
  refine lv_aload_n hx hb dX12_readLaw_97 rfl (lv_at hl 0 rfl) ?_
  refine fx_getI X h (k := 159) (j := 29) sh_159 rfl fl_RX12_212 dX12_readLaw_98 ?_
  obtain ⟨hi2, hT⟩ := hT
  refine fx_iast X h (k := 175) sh_175 hi2 dX12_readLaw_101 (fun H locs h => ?_)
  obtain ⟨M1, eM1⟩ : ∃ z : Mm, z = m_up M 175 (x2).toNatClampNeg (M 159 29) := ⟨_, rfl⟩
  have hT := hT M1 eM1
  rw [← eM1] at h
  refine lv_aload_n hx hb dX12_readLaw_102 rfl (lv_at hl 0 rfl) ?_
  refine lv_bipush (v := 59) hx hb dX12_readLaw_103 (by decide) ?_
  refine fx_vi X h ym_X12_isSign yi_X12_isSign ys_X12_isSign (fx_s7 (List.mem_of_getElem? (i := 173) rfl) rfl) sh_159 rfl (c_X12_isSign l G hT) (As := [.int (59 : Int32)]) (rest := []) rfl rfl ⟨Nat.le_of_ble_eq_true rfl, Nat.le_of_ble_eq_true rfl⟩ ⟨Nat.le_refl _, Nat.le_refl _⟩ hl.1 (Nat.le_of_ble_eq_true rfl) dX12_readLaw_105 (fun r5 M4 H locs hT h => ?_)
  refine lv_if_ne (tgt := 117) hx hb dX12_readLaw_108 (by decide) (fun hc6 => ?_) (fun hc6 => ?_)
  · have hT := hT.2 hc6
    refine lv_aload_n hx hb dX12_readLaw_117 rfl (lv_at hl 0 rfl) ?_
    refine fx_vv X h ym_X12_reads yi_X12_reads ys_X12_reads (fx_s7 (List.mem_of_getElem? (i := 121) rfl) rfl) sh_159 rfl (c_X12_reads l G hT) (As := []) (rest := []) rfl rfl ⟨Nat.le_of_ble_eq_true rfl, Nat.le_of_ble_eq_true rfl⟩ ⟨Nat.le_refl _, Nat.le_refl _⟩ hl.1 (Nat.le_of_ble_eq_true rfl) dX12_readLaw_118 (fun M8 H locs hT h => ?_)
    refine lv_iload_n hx hb dX12_readLaw_121 rfl (lv_at hl 1 rfl) ?_
    refine lv_iconst (v := 1) hx hb dX12_readLaw_122 (by decide) ?_
    refine lv_iadd hx hb dX12_readLaw_123 ?_
    refine lv_topi (fun y9 ey9 => ?_)
    have hT := hT y9 ey9
    refine lv_istore_n (lv' := [(1, .int y9), (0, .ref (G.2.2.2 + 159)), (2, .int x2)]) hx hb dX12_readLaw_124 rfl hl (by decide) rfl (fun ls hl => ?_)
    refine lv_goto (tgt := 2) hx hb dX12_readLaw_125 (by decide) ?_
    exact hB2 y9 M8 _ _ ls hT h (lv_sub hl [1, 0] rfl)
  · have hT := hT.1 hc6
    refine lv_aload_n hx hb dX12_readLaw_111 rfl (lv_at hl 0 rfl) ?_
    refine lv_iconst (v := 1) hx hb dX12_readLaw_112 (by decide) ?_
    refine fx_vi X h ym_X12_errs yi_X12_errs ys_X12_errs (fx_s7 (List.mem_of_getElem? (i := 153) rfl) rfl) sh_159 rfl (c_X12_errs l G hT) (As := [.int (1 : Int32)]) (rest := []) rfl rfl ⟨Nat.le_of_ble_eq_true rfl, Nat.le_of_ble_eq_true rfl⟩ ⟨Nat.le_refl _, Nat.le_refl _⟩ hl.1 (Nat.le_of_ble_eq_true rfl) dX12_readLaw_113 (fun r12 M11 H locs hT h => ?_)
    exact fx_iret X hr hk h hT dX12_readLaw_116
def T_X12_readLaw_2 : Nat → Int32 → Mm → (Int32 → Mm → Prop) → Prop
  | 0, _, _, _ => False
  | n + 1, x1, M, K => (T_X12_isLineWord M (fun r15 M14 => ((r15 = 0 → (((M14 159 18) = 0 → (K x1 M14)) ∧ (¬ (M14 159 18) = 0 → (T_X12_errs (1 : Int32) M14 (fun r20 M19 => (K r20 M19)))))) ∧ (¬ r15 = 0 → ((x1 = (16 : Int32) → (T_X12_errs (3 : Int32) M14 (fun r47 M46 => (K r47 M46)))) ∧ (¬ x1 = (16 : Int32) → (∀ y22 : Int32, y22 = ((32 : Int32) + x1) → (vp_in y22 48 ∧ (∀ M23 : Mm, M23 = m_up M14 172 (y22).toNatClampNeg (M14 159 19) → (T_X12_reads M23 (fun M26 => (vp_in y22 48 ∧ (∀ M27 : Mm, M27 = m_up M26 173 (y22).toNatClampNeg (M26 159 29) → (T_X12_readSum M27 (fun r31 M30 => ((r31 = (-1 : Int32) → (K (-1 : Int32) M30)) ∧ (¬ r31 = (-1 : Int32) → (vp_in y22 48 ∧ (∀ M33 : Mm, M33 = m_up M30 174 (y22).toNatClampNeg (M30 159 29) → (T_X12_isWord (3 : Int32) M33 (fun r37 M36 => ((r37 = 0 → (T_X12_readLaw_92 (fun x1 M => T_X12_readLaw_2 n x1 M K) x1 y22 M36 K)) ∧ (¬ r37 = 0 → (T_X12_reads M36 (fun M40 => (T_X12_readAny M40 (fun r43 M42 => ((r43 = (-1 : Int32) → (K (-1 : Int32) M42)) ∧ (¬ r43 = (-1 : Int32) → (T_X12_readLaw_92 (fun x1 M => T_X12_readLaw_2 n x1 M K) x1 y22 M42 K))))))))))))))))))))))))))))))
set_option maxHeartbeats 4000000 in
set_option maxRecDepth 100000 in
theorem w_X12_readLaw_2 {p : Program} {l : Launch} {e : Env} {s : State} {m : MethodId} {args : Array Value} {below : List Frame} {meth : Method} {c : Code} {G : fx_G} {K : Int32 → Mm → Prop} (X : fx_C G p s m c args cX12_readLaw 3 RX12) (hr : meth.sig.returnType = (some .int)) (hk : meth.locks = false) : ∀ (n : Nat) (x1 : Int32) (M : Mm) (H : Heap) (locs : List Loc) (ls : Array Slot), T_X12_readLaw_2 n x1 M K → fx_H G SH M s H locs → lv_has ls 3 [(0, .ref (G.2.2.2 + 159)), (1, .int x1)] → W p l e (fx_rm (8)) s m args below meth c H locs 0 0 (MQ below (va_Qi K (fx_R G SH) (fx_A G)) args s 0 0 (fx_A G)) (F0 m 2 ls []) := by
  obtain ⟨⟨hx, hb, hml, hown, hts⟩, hK, hQ⟩ := id X
  intro n
  induction n with
  | zero =>
    intro x1 M H locs ls hT
    exact hT.elim
  | succ n ih =>
    intro x1 M H locs ls hT h hl
    rw [T_X12_readLaw_2] at hT
    refine lv_aload_n hx hb dX12_readLaw_2 rfl (lv_at hl 0 rfl) ?_
    refine fx_vi X h ym_X12_isLineWord yi_X12_isLineWord ys_X12_isLineWord (fx_s7 (List.mem_of_getElem? (i := 205) rfl) rfl) sh_159 rfl (c_X12_isLineWord l G hT) (As := []) (rest := []) rfl rfl ⟨Nat.le_of_ble_eq_true rfl, Nat.le_of_ble_eq_true rfl⟩ ⟨Nat.le_refl _, Nat.le_refl _⟩ hl.1 (Nat.le_of_ble_eq_true rfl) dX12_readLaw_3 (fun r15 M14 H locs hT h => ?_)
    refine lv_if_eq (tgt := 128) hx hb dX12_readLaw_6 (by decide) (fun hc16 => ?_) (fun hc16 => ?_)
    · have hT := hT.1 hc16
      refine lv_aload_n hx hb dX12_readLaw_128 rfl (lv_at hl 0 rfl) ?_
      refine fx_getI X h (k := 159) (j := 18) sh_159 rfl fl_RX12_188 dX12_readLaw_129 ?_
      refine lv_if_ne (tgt := 139) hx hb dX12_readLaw_132 (by decide) (fun hc17 => ?_) (fun hc17 => ?_)
      · have hT := hT.2 hc17
        refine lv_aload_n hx hb dX12_readLaw_139 rfl (lv_at hl 0 rfl) ?_
        refine lv_iconst (v := 1) hx hb dX12_readLaw_140 (by decide) ?_
        refine fx_vi X h ym_X12_errs yi_X12_errs ys_X12_errs (fx_s7 (List.mem_of_getElem? (i := 153) rfl) rfl) sh_159 rfl (c_X12_errs l G hT) (As := [.int (1 : Int32)]) (rest := []) rfl rfl ⟨Nat.le_of_ble_eq_true rfl, Nat.le_of_ble_eq_true rfl⟩ ⟨Nat.le_refl _, Nat.le_refl _⟩ hl.1 (Nat.le_of_ble_eq_true rfl) dX12_readLaw_141 (fun r20 M19 H locs hT h => ?_)
        exact fx_iret X hr hk h hT dX12_readLaw_144
      · have hT := hT.1 hc17
        refine lv_iload_n hx hb dX12_readLaw_135 rfl (lv_at hl 1 rfl) ?_
        refine lv_goto (tgt := 144) hx hb dX12_readLaw_136 (by decide) ?_
        exact fx_iret X hr hk h hT dX12_readLaw_144
    · have hT := hT.2 hc16
      refine lv_iload_n hx hb dX12_readLaw_9 rfl (lv_at hl 1 rfl) ?_
      refine lv_bipush (v := 16) hx hb dX12_readLaw_10 (by decide) ?_
      refine lv_icmp_ne (tgt := 21) hx hb dX12_readLaw_12 (by decide) (fun hc21 => ?_) (fun hc21 => ?_)
      · have hT := hT.2 hc21
        refine lv_bipush (v := 32) hx hb dX12_readLaw_21 (by decide) ?_
        refine lv_iload_n hx hb dX12_readLaw_23 rfl (lv_at hl 1 rfl) ?_
        refine lv_iadd hx hb dX12_readLaw_24 ?_
        refine lv_topi (fun y22 ey22 => ?_)
        have hT := hT y22 ey22
        refine lv_istore_n (lv' := [(2, .int y22), (0, .ref (G.2.2.2 + 159)), (1, .int x1)]) hx hb dX12_readLaw_25 rfl hl (by decide) rfl (fun ls hl => ?_)
        refine lv_aload_n hx hb dX12_readLaw_26 rfl (lv_at hl 1 rfl) ?_
        refine fx_getR X h (k := 159) (j := 22) (r := 172) sh_159 rfl fl_RX12_46 dX12_readLaw_27 ?_
        refine lv_iload_n hx hb dX12_readLaw_30 rfl (lv_at hl 0 rfl) ?_
        refine lv_aload_n hx hb dX12_readLaw_31 rfl (lv_at hl 1 rfl) ?_
        refine fx_getI X h (k := 159) (j := 19) sh_159 rfl fl_RX12_191 dX12_readLaw_32 ?_
        obtain ⟨hi24, hT⟩ := hT
        refine fx_iast X h (k := 172) sh_172 hi24 dX12_readLaw_35 (fun H locs h => ?_)
        obtain ⟨M23, eM23⟩ : ∃ z : Mm, z = m_up M14 172 (y22).toNatClampNeg (M14 159 19) := ⟨_, rfl⟩
        have hT := hT M23 eM23
        rw [← eM23] at h
        refine lv_aload_n hx hb dX12_readLaw_36 rfl (lv_at hl 1 rfl) ?_
        refine fx_vv X h ym_X12_reads yi_X12_reads ys_X12_reads (fx_s7 (List.mem_of_getElem? (i := 121) rfl) rfl) sh_159 rfl (c_X12_reads l G hT) (As := []) (rest := []) rfl rfl ⟨Nat.le_of_ble_eq_true rfl, Nat.le_of_ble_eq_true rfl⟩ ⟨Nat.le_refl _, Nat.le_refl _⟩ hl.1 (Nat.le_of_ble_eq_true rfl) dX12_readLaw_37 (fun M26 H locs hT h => ?_)
        refine lv_aload_n hx hb dX12_readLaw_40 rfl (lv_at hl 1 rfl) ?_
        refine fx_getR X h (k := 159) (j := 23) (r := 173) sh_159 rfl fl_RX12_49 dX12_readLaw_41 ?_
        refine lv_iload_n hx hb dX12_readLaw_44 rfl (lv_at hl 0 rfl) ?_
        refine lv_aload_n hx hb dX12_readLaw_45 rfl (lv_at hl 1 rfl) ?_
        refine fx_getI X h (k := 159) (j := 29) sh_159 rfl fl_RX12_212 dX12_readLaw_46 ?_
        obtain ⟨hi28, hT⟩ := hT
        refine fx_iast X h (k := 173) sh_173 hi28 dX12_readLaw_49 (fun H locs h => ?_)
        obtain ⟨M27, eM27⟩ : ∃ z : Mm, z = m_up M26 173 (y22).toNatClampNeg (M26 159 29) := ⟨_, rfl⟩
        have hT := hT M27 eM27
        rw [← eM27] at h
        refine lv_aload_n hx hb dX12_readLaw_50 rfl (lv_at hl 1 rfl) ?_
        refine fx_vi X h ym_X12_readSum yi_X12_readSum ys_X12_readSum (fx_s7 (List.mem_of_getElem? (i := 209) rfl) rfl) sh_159 rfl (c_X12_readSum l G hT) (As := []) (rest := []) rfl rfl ⟨Nat.le_of_ble_eq_true rfl, Nat.le_of_ble_eq_true rfl⟩ ⟨Nat.le_refl _, Nat.le_refl _⟩ hl.1 (Nat.le_of_ble_eq_true rfl) dX12_readLaw_51 (fun r31 M30 H locs hT h => ?_)
        refine lv_iconst (v := -1) hx hb dX12_readLaw_54 (by decide) ?_
        refine lv_icmp_ne (tgt := 60) hx hb dX12_readLaw_55 (by decide) (fun hc32 => ?_) (fun hc32 => ?_)
        · have hT := hT.2 hc32
          refine lv_aload_n hx hb dX12_readLaw_60 rfl (lv_at hl 1 rfl) ?_
          refine fx_getR X h (k := 159) (j := 24) (r := 174) sh_159 rfl fl_RX12_52 dX12_readLaw_61 ?_
          refine lv_iload_n hx hb dX12_readLaw_64 rfl (lv_at hl 0 rfl) ?_
          refine lv_aload_n hx hb dX12_readLaw_65 rfl (lv_at hl 1 rfl) ?_
          refine fx_getI X h (k := 159) (j := 29) sh_159 rfl fl_RX12_212 dX12_readLaw_66 ?_
          obtain ⟨hi34, hT⟩ := hT
          refine fx_iast X h (k := 174) sh_174 hi34 dX12_readLaw_69 (fun H locs h => ?_)
          obtain ⟨M33, eM33⟩ : ∃ z : Mm, z = m_up M30 174 (y22).toNatClampNeg (M30 159 29) := ⟨_, rfl⟩
          have hT := hT M33 eM33
          rw [← eM33] at h
          refine lv_aload_n hx hb dX12_readLaw_70 rfl (lv_at hl 1 rfl) ?_
          refine lv_iconst (v := 3) hx hb dX12_readLaw_71 (by decide) ?_
          refine fx_vi X h ym_X12_isWord yi_X12_isWord ys_X12_isWord (fx_s7 (List.mem_of_getElem? (i := 149) rfl) rfl) sh_159 rfl (c_X12_isWord l G hT) (As := [.int (3 : Int32)]) (rest := []) rfl rfl ⟨Nat.le_of_ble_eq_true rfl, Nat.le_of_ble_eq_true rfl⟩ ⟨Nat.le_refl _, Nat.le_refl _⟩ hl.1 (Nat.le_of_ble_eq_true rfl) dX12_readLaw_72 (fun r37 M36 H locs hT h => ?_)
          refine lv_if_eq (tgt := 92) hx hb dX12_readLaw_75 (by decide) (fun hc38 => ?_) (fun hc38 => ?_)
          · have hT := hT.1 hc38
            exact w_X12_readLaw_92 X hr hk (B2 := (fun x1 M => T_X12_readLaw_2 n x1 M K)) ih x1 y22 M36 _ _ ls hT h (lv_sub hl [1, 2, 0] rfl)
          · have hT := hT.2 hc38
            refine lv_aload_n hx hb dX12_readLaw_78 rfl (lv_at hl 1 rfl) ?_
            refine fx_vv X h ym_X12_reads yi_X12_reads ys_X12_reads (fx_s7 (List.mem_of_getElem? (i := 121) rfl) rfl) sh_159 rfl (c_X12_reads l G hT) (As := []) (rest := []) rfl rfl ⟨Nat.le_of_ble_eq_true rfl, Nat.le_of_ble_eq_true rfl⟩ ⟨Nat.le_refl _, Nat.le_refl _⟩ hl.1 (Nat.le_of_ble_eq_true rfl) dX12_readLaw_79 (fun M40 H locs hT h => ?_)
            refine lv_aload_n hx hb dX12_readLaw_82 rfl (lv_at hl 1 rfl) ?_
            refine fx_vi X h ym_X12_readAny yi_X12_readAny ys_X12_readAny (fx_s7 (List.mem_of_getElem? (i := 229) rfl) rfl) sh_159 rfl (c_X12_readAny l G hT) (As := []) (rest := []) rfl rfl ⟨Nat.le_of_ble_eq_true rfl, Nat.le_of_ble_eq_true rfl⟩ ⟨Nat.le_refl _, Nat.le_refl _⟩ hl.1 (Nat.le_of_ble_eq_true rfl) dX12_readLaw_83 (fun r43 M42 H locs hT h => ?_)
            refine lv_iconst (v := -1) hx hb dX12_readLaw_86 (by decide) ?_
            refine lv_icmp_ne (tgt := 92) hx hb dX12_readLaw_87 (by decide) (fun hc44 => ?_) (fun hc44 => ?_)
            · have hT := hT.2 hc44
              exact w_X12_readLaw_92 X hr hk (B2 := (fun x1 M => T_X12_readLaw_2 n x1 M K)) ih x1 y22 M42 _ _ ls hT h (lv_sub hl [1, 2, 0] rfl)
            · have hT := hT.1 hc44
              refine lv_iconst (v := -1) hx hb dX12_readLaw_90 (by decide) ?_
              exact fx_iret X hr hk h hT dX12_readLaw_91
        · have hT := hT.1 hc32
          refine lv_iconst (v := -1) hx hb dX12_readLaw_58 (by decide) ?_
          exact fx_iret X hr hk h hT dX12_readLaw_59
      · have hT := hT.1 hc21
        refine lv_aload_n hx hb dX12_readLaw_15 rfl (lv_at hl 0 rfl) ?_
        refine lv_iconst (v := 3) hx hb dX12_readLaw_16 (by decide) ?_
        refine fx_vi X h ym_X12_errs yi_X12_errs ys_X12_errs (fx_s7 (List.mem_of_getElem? (i := 153) rfl) rfl) sh_159 rfl (c_X12_errs l G hT) (As := [.int (3 : Int32)]) (rest := []) rfl rfl ⟨Nat.le_of_ble_eq_true rfl, Nat.le_of_ble_eq_true rfl⟩ ⟨Nat.le_refl _, Nat.le_refl _⟩ hl.1 (Nat.le_of_ble_eq_true rfl) dX12_readLaw_17 (fun r47 M46 H locs hT h => ?_)
        exact fx_iret X hr hk h hT dX12_readLaw_20
def T_X12_readLaw (M : Mm) (K : Int32 → Mm → Prop) : Prop := (T_X12_readLaw_2 5000 (0 : Int32) M K)
set_option maxHeartbeats 4000000 in
set_option maxRecDepth 100000 in
theorem c_X12_readLaw (l : Launch) (G : fx_G) {M : Mm} {K : Int32 → Mm → Prop} (hT : T_X12_readLaw M K) : Met l yX12_readLaw (fx_ws yX12_readLaw cX12_readLaw 3 (some .int)) (fx_rm (8)) (va_Pc [.ref (G.2.2.2 + 159)] (fx_P G SH M)) (va_Qi K (fx_R G SH) (fx_A G)) 0 0 (fx_A G) := by
  refine fx_met (own := RX12) (by decide +kernel) rfl (Nat.le_of_ble_eq_true rfl) (fun p e s m below meth c X hr hk h ls hl => ?_)
  obtain ⟨⟨hx, hb, hml, hown, hts⟩, hK, hQ⟩ := id X
  have hl : lv_has ls 3 [(0, .ref (G.2.2.2 + 159))] := hl
  unfold T_X12_readLaw at hT
  refine lv_iconst (v := 0) hx hb dX12_readLaw_0 (by decide) ?_
  refine lv_istore_n (lv' := [(1, .int (0 : Int32)), (0, .ref (G.2.2.2 + 159))]) hx hb dX12_readLaw_1 rfl hl (by decide) rfl (fun ls hl => ?_)
  exact w_X12_readLaw_2 X hr hk 5000 (0 : Int32) M _ _ ls hT h (lv_sub hl [1, 0] rfl)
/-! MockParcelsModel.takesLaw(I)V -/
theorem dX12_takesLaw_0 : decode cX12_takesLaw 0 = .ok (.iconst 0, 1) := by decide +kernel
theorem dX12_takesLaw_1 : decode cX12_takesLaw 1 = .ok (.istore_n 2, 1) := by decide +kernel
theorem dX12_takesLaw_2 : decode cX12_takesLaw 2 = .ok (.iload_n 2, 1) := by decide +kernel
theorem dX12_takesLaw_3 : decode cX12_takesLaw 3 = .ok (.iload_n 1, 1) := by decide +kernel
theorem dX12_takesLaw_4 : decode cX12_takesLaw 4 = .ok (.if_icmp .ge 101, 3) := by decide +kernel
theorem dX12_takesLaw_7 : decode cX12_takesLaw 7 = .ok (.aload_n 0, 1) := by decide +kernel
theorem dX12_takesLaw_8 : decode cX12_takesLaw 8 = .ok (.getfield 46, 3) := by decide +kernel
theorem dX12_takesLaw_11 : decode cX12_takesLaw 11 = .ok (.bipush 16, 2) := by decide +kernel
theorem dX12_takesLaw_13 : decode cX12_takesLaw 13 = .ok (.aload_n 0, 1) := by decide +kernel
theorem dX12_takesLaw_14 : decode cX12_takesLaw 14 = .ok (.getfield 266, 3) := by decide +kernel
theorem dX12_takesLaw_17 : decode cX12_takesLaw 17 = .ok (.imul, 1) := by decide +kernel
theorem dX12_takesLaw_18 : decode cX12_takesLaw 18 = .ok (.iload_n 2, 1) := by decide +kernel
theorem dX12_takesLaw_19 : decode cX12_takesLaw 19 = .ok (.iadd, 1) := by decide +kernel
theorem dX12_takesLaw_20 : decode cX12_takesLaw 20 = .ok (.aload_n 0, 1) := by decide +kernel
theorem dX12_takesLaw_21 : decode cX12_takesLaw 21 = .ok (.getfield 46, 3) := by decide +kernel
theorem dX12_takesLaw_24 : decode cX12_takesLaw 24 = .ok (.bipush 32, 2) := by decide +kernel
theorem dX12_takesLaw_26 : decode cX12_takesLaw 26 = .ok (.iload_n 2, 1) := by decide +kernel
theorem dX12_takesLaw_27 : decode cX12_takesLaw 27 = .ok (.iadd, 1) := by decide +kernel
theorem dX12_takesLaw_28 : decode cX12_takesLaw 28 = .ok (.iaload, 1) := by decide +kernel
theorem dX12_takesLaw_29 : decode cX12_takesLaw 29 = .ok (.iastore, 1) := by decide +kernel
theorem dX12_takesLaw_30 : decode cX12_takesLaw 30 = .ok (.aload_n 0, 1) := by decide +kernel
theorem dX12_takesLaw_31 : decode cX12_takesLaw 31 = .ok (.getfield 49, 3) := by decide +kernel
theorem dX12_takesLaw_34 : decode cX12_takesLaw 34 = .ok (.bipush 16, 2) := by decide +kernel
theorem dX12_takesLaw_36 : decode cX12_takesLaw 36 = .ok (.aload_n 0, 1) := by decide +kernel
theorem dX12_takesLaw_37 : decode cX12_takesLaw 37 = .ok (.getfield 266, 3) := by decide +kernel
theorem dX12_takesLaw_40 : decode cX12_takesLaw 40 = .ok (.imul, 1) := by decide +kernel
theorem dX12_takesLaw_41 : decode cX12_takesLaw 41 = .ok (.iload_n 2, 1) := by decide +kernel
theorem dX12_takesLaw_42 : decode cX12_takesLaw 42 = .ok (.iadd, 1) := by decide +kernel
theorem dX12_takesLaw_43 : decode cX12_takesLaw 43 = .ok (.aload_n 0, 1) := by decide +kernel
theorem dX12_takesLaw_44 : decode cX12_takesLaw 44 = .ok (.getfield 49, 3) := by decide +kernel
theorem dX12_takesLaw_47 : decode cX12_takesLaw 47 = .ok (.bipush 32, 2) := by decide +kernel
theorem dX12_takesLaw_49 : decode cX12_takesLaw 49 = .ok (.iload_n 2, 1) := by decide +kernel
theorem dX12_takesLaw_50 : decode cX12_takesLaw 50 = .ok (.iadd, 1) := by decide +kernel
theorem dX12_takesLaw_51 : decode cX12_takesLaw 51 = .ok (.iaload, 1) := by decide +kernel
theorem dX12_takesLaw_52 : decode cX12_takesLaw 52 = .ok (.iastore, 1) := by decide +kernel
theorem dX12_takesLaw_53 : decode cX12_takesLaw 53 = .ok (.aload_n 0, 1) := by decide +kernel
theorem dX12_takesLaw_54 : decode cX12_takesLaw 54 = .ok (.getfield 52, 3) := by decide +kernel
theorem dX12_takesLaw_57 : decode cX12_takesLaw 57 = .ok (.bipush 16, 2) := by decide +kernel
theorem dX12_takesLaw_59 : decode cX12_takesLaw 59 = .ok (.aload_n 0, 1) := by decide +kernel
theorem dX12_takesLaw_60 : decode cX12_takesLaw 60 = .ok (.getfield 266, 3) := by decide +kernel
theorem dX12_takesLaw_63 : decode cX12_takesLaw 63 = .ok (.imul, 1) := by decide +kernel
theorem dX12_takesLaw_64 : decode cX12_takesLaw 64 = .ok (.iload_n 2, 1) := by decide +kernel
theorem dX12_takesLaw_65 : decode cX12_takesLaw 65 = .ok (.iadd, 1) := by decide +kernel
theorem dX12_takesLaw_66 : decode cX12_takesLaw 66 = .ok (.aload_n 0, 1) := by decide +kernel
theorem dX12_takesLaw_67 : decode cX12_takesLaw 67 = .ok (.getfield 52, 3) := by decide +kernel
theorem dX12_takesLaw_70 : decode cX12_takesLaw 70 = .ok (.bipush 32, 2) := by decide +kernel
theorem dX12_takesLaw_72 : decode cX12_takesLaw 72 = .ok (.iload_n 2, 1) := by decide +kernel
theorem dX12_takesLaw_73 : decode cX12_takesLaw 73 = .ok (.iadd, 1) := by decide +kernel
theorem dX12_takesLaw_74 : decode cX12_takesLaw 74 = .ok (.iaload, 1) := by decide +kernel
theorem dX12_takesLaw_75 : decode cX12_takesLaw 75 = .ok (.iastore, 1) := by decide +kernel
theorem dX12_takesLaw_76 : decode cX12_takesLaw 76 = .ok (.aload_n 0, 1) := by decide +kernel
theorem dX12_takesLaw_77 : decode cX12_takesLaw 77 = .ok (.getfield 55, 3) := by decide +kernel
theorem dX12_takesLaw_80 : decode cX12_takesLaw 80 = .ok (.bipush 16, 2) := by decide +kernel
theorem dX12_takesLaw_82 : decode cX12_takesLaw 82 = .ok (.aload_n 0, 1) := by decide +kernel
theorem dX12_takesLaw_83 : decode cX12_takesLaw 83 = .ok (.getfield 266, 3) := by decide +kernel
theorem dX12_takesLaw_86 : decode cX12_takesLaw 86 = .ok (.imul, 1) := by decide +kernel
theorem dX12_takesLaw_87 : decode cX12_takesLaw 87 = .ok (.iload_n 2, 1) := by decide +kernel
theorem dX12_takesLaw_88 : decode cX12_takesLaw 88 = .ok (.iadd, 1) := by decide +kernel
theorem dX12_takesLaw_89 : decode cX12_takesLaw 89 = .ok (.aload_n 0, 1) := by decide +kernel
theorem dX12_takesLaw_90 : decode cX12_takesLaw 90 = .ok (.getfield 55, 3) := by decide +kernel
theorem dX12_takesLaw_93 : decode cX12_takesLaw 93 = .ok (.bipush 32, 2) := by decide +kernel
theorem dX12_takesLaw_95 : decode cX12_takesLaw 95 = .ok (.iload_n 2, 1) := by decide +kernel
theorem dX12_takesLaw_96 : decode cX12_takesLaw 96 = .ok (.iadd, 1) := by decide +kernel
theorem dX12_takesLaw_97 : decode cX12_takesLaw 97 = .ok (.iaload, 1) := by decide +kernel
theorem dX12_takesLaw_98 : decode cX12_takesLaw 98 = .ok (.iastore, 1) := by decide +kernel
theorem dX12_takesLaw_99 : decode cX12_takesLaw 99 = .ok (.iinc 2 1, 3) := by decide +kernel
theorem dX12_takesLaw_102 : decode cX12_takesLaw 102 = .ok (.goto (-100), 3) := by decide +kernel
theorem dX12_takesLaw_105 : decode cX12_takesLaw 105 = .ok (.iconst 0, 1) := by decide +kernel
theorem dX12_takesLaw_106 : decode cX12_takesLaw 106 = .ok (.istore_n 2, 1) := by decide +kernel
theorem dX12_takesLaw_107 : decode cX12_takesLaw 107 = .ok (.iload_n 2, 1) := by decide +kernel
theorem dX12_takesLaw_108 : decode cX12_takesLaw 108 = .ok (.aload_n 0, 1) := by decide +kernel
theorem dX12_takesLaw_109 : decode cX12_takesLaw 109 = .ok (.getfield 212, 3) := by decide +kernel
theorem dX12_takesLaw_112 : decode cX12_takesLaw 112 = .ok (.if_icmp .ge 59, 3) := by decide +kernel
theorem dX12_takesLaw_115 : decode cX12_takesLaw 115 = .ok (.aload_n 0, 1) := by decide +kernel
theorem dX12_takesLaw_116 : decode cX12_takesLaw 116 = .ok (.getfield 58, 3) := by decide +kernel
theorem dX12_takesLaw_119 : decode cX12_takesLaw 119 = .ok (.sipush 400, 3) := by decide +kernel
theorem dX12_takesLaw_122 : decode cX12_takesLaw 122 = .ok (.aload_n 0, 1) := by decide +kernel
theorem dX12_takesLaw_123 : decode cX12_takesLaw 123 = .ok (.getfield 266, 3) := by decide +kernel
theorem dX12_takesLaw_126 : decode cX12_takesLaw 126 = .ok (.imul, 1) := by decide +kernel
theorem dX12_takesLaw_127 : decode cX12_takesLaw 127 = .ok (.iload_n 2, 1) := by decide +kernel
theorem dX12_takesLaw_128 : decode cX12_takesLaw 128 = .ok (.iadd, 1) := by decide +kernel
theorem dX12_takesLaw_129 : decode cX12_takesLaw 129 = .ok (.aload_n 0, 1) := by decide +kernel
theorem dX12_takesLaw_130 : decode cX12_takesLaw 130 = .ok (.getfield 58, 3) := by decide +kernel
theorem dX12_takesLaw_133 : decode cX12_takesLaw 133 = .ok (.sipush 800, 3) := by decide +kernel
theorem dX12_takesLaw_136 : decode cX12_takesLaw 136 = .ok (.iload_n 2, 1) := by decide +kernel
theorem dX12_takesLaw_137 : decode cX12_takesLaw 137 = .ok (.iadd, 1) := by decide +kernel
theorem dX12_takesLaw_138 : decode cX12_takesLaw 138 = .ok (.iaload, 1) := by decide +kernel
theorem dX12_takesLaw_139 : decode cX12_takesLaw 139 = .ok (.iastore, 1) := by decide +kernel
theorem dX12_takesLaw_140 : decode cX12_takesLaw 140 = .ok (.aload_n 0, 1) := by decide +kernel
theorem dX12_takesLaw_141 : decode cX12_takesLaw 141 = .ok (.getfield 61, 3) := by decide +kernel
theorem dX12_takesLaw_144 : decode cX12_takesLaw 144 = .ok (.sipush 400, 3) := by decide +kernel
theorem dX12_takesLaw_147 : decode cX12_takesLaw 147 = .ok (.aload_n 0, 1) := by decide +kernel
theorem dX12_takesLaw_148 : decode cX12_takesLaw 148 = .ok (.getfield 266, 3) := by decide +kernel
theorem dX12_takesLaw_151 : decode cX12_takesLaw 151 = .ok (.imul, 1) := by decide +kernel
theorem dX12_takesLaw_152 : decode cX12_takesLaw 152 = .ok (.iload_n 2, 1) := by decide +kernel
theorem dX12_takesLaw_153 : decode cX12_takesLaw 153 = .ok (.iadd, 1) := by decide +kernel
theorem dX12_takesLaw_154 : decode cX12_takesLaw 154 = .ok (.aload_n 0, 1) := by decide +kernel
theorem dX12_takesLaw_155 : decode cX12_takesLaw 155 = .ok (.getfield 61, 3) := by decide +kernel
theorem dX12_takesLaw_158 : decode cX12_takesLaw 158 = .ok (.sipush 800, 3) := by decide +kernel
theorem dX12_takesLaw_161 : decode cX12_takesLaw 161 = .ok (.iload_n 2, 1) := by decide +kernel
theorem dX12_takesLaw_162 : decode cX12_takesLaw 162 = .ok (.iadd, 1) := by decide +kernel
theorem dX12_takesLaw_163 : decode cX12_takesLaw 163 = .ok (.iaload, 1) := by decide +kernel
theorem dX12_takesLaw_164 : decode cX12_takesLaw 164 = .ok (.iastore, 1) := by decide +kernel
theorem dX12_takesLaw_165 : decode cX12_takesLaw 165 = .ok (.iinc 2 1, 3) := by decide +kernel
theorem dX12_takesLaw_168 : decode cX12_takesLaw 168 = .ok (.goto (-61), 3) := by decide +kernel
theorem dX12_takesLaw_171 : decode cX12_takesLaw 171 = .ok (.aload_n 0, 1) := by decide +kernel
theorem dX12_takesLaw_172 : decode cX12_takesLaw 172 = .ok (.getfield 43, 3) := by decide +kernel
theorem dX12_takesLaw_175 : decode cX12_takesLaw 175 = .ok (.aload_n 0, 1) := by decide +kernel
theorem dX12_takesLaw_176 : decode cX12_takesLaw 176 = .ok (.getfield 266, 3) := by decide +kernel
theorem dX12_takesLaw_179 : decode cX12_takesLaw 179 = .ok (.iload_n 1, 1) := by decide +kernel
theorem dX12_takesLaw_180 : decode cX12_takesLaw 180 = .ok (.iastore, 1) := by decide +kernel
theorem dX12_takesLaw_181 : decode cX12_takesLaw 181 = .ok (.return_, 1) := by decide +kernel
def T_X12_takesLaw_107 : Nat → Int32 → Int32 → Mm → (Mm → Prop) → Prop
  | 0, _, _, _, _ => False
  | n + 1, x1, x2, M, K => (((M 159 29) ≤ x2 → (vp_in (M 159 28) 2 ∧ (∀ M2 : Mm, M2 = m_up M 171 ((M 159 28)).toNatClampNeg x1 → (K M2)))) ∧ (¬ (M 159 29) ≤ x2 → (vp_in ((800 : Int32) + x2) 1200 ∧ (vp_in (((400 : Int32) * (M 159 28)) + x2) 1200 ∧ (∀ M5 : Mm, M5 = m_up M 176 ((((400 : Int32) * (M 159 28)) + x2)).toNatClampNeg (M 176 (((800 : Int32) + x2)).toNatClampNeg) → (vp_in ((800 : Int32) + x2) 1200 ∧ (vp_in (((400 : Int32) * (M5 159 28)) + x2) 1200 ∧ (∀ M8 : Mm, M8 = m_up M5 177 ((((400 : Int32) * (M5 159 28)) + x2)).toNatClampNeg (M5 177 (((800 : Int32) + x2)).toNatClampNeg) → (∀ y10 : Int32, y10 = x2 + (1 : Int32) → (T_X12_takesLaw_107 n x1 y10 M8 K))))))))))
set_option maxHeartbeats 4000000 in
set_option maxRecDepth 100000 in
theorem w_X12_takesLaw_107 {p : Program} {l : Launch} {e : Env} {s : State} {m : MethodId} {args : Array Value} {below : List Frame} {meth : Method} {c : Code} {G : fx_G} {K : Mm → Prop} (X : fx_C G p s m c args cX12_takesLaw 3 RX12) (hr : meth.sig.returnType = none) (hk : meth.locks = false) : ∀ (n : Nat) (x1 : Int32) (x2 : Int32) (M : Mm) (H : Heap) (locs : List Loc) (ls : Array Slot), T_X12_takesLaw_107 n x1 x2 M K → fx_H G SH M s H locs → lv_has ls 3 [(0, .ref (G.2.2.2 + 159)), (1, .int x1), (2, .int x2)] → W p l e (fx_rm (0)) s m args below meth c H locs 0 0 (MQ below (va_Qv K (fx_R G SH) (fx_A G)) args s 0 0 (fx_A G)) (F0 m 107 ls []) := by
  obtain ⟨⟨hx, hb, hml, hown, hts⟩, hK, hQ⟩ := id X
  intro n
  induction n with
  | zero =>
    intro x1 x2 M H locs ls hT
    exact hT.elim
  | succ n ih =>
    intro x1 x2 M H locs ls hT h hl
    rw [T_X12_takesLaw_107] at hT
    refine lv_iload_n hx hb dX12_takesLaw_107 rfl (lv_at hl 2 rfl) ?_
    refine lv_aload_n hx hb dX12_takesLaw_108 rfl (lv_at hl 0 rfl) ?_
    refine fx_getI X h (k := 159) (j := 29) sh_159 rfl fl_RX12_212 dX12_takesLaw_109 ?_
    refine lv_icmp_ge (tgt := 171) hx hb dX12_takesLaw_112 (by decide) (fun hc1 => ?_) (fun hc1 => ?_)
    · have hT := hT.1 hc1
      refine lv_aload_n hx hb dX12_takesLaw_171 rfl (lv_at hl 0 rfl) ?_
      refine fx_getR X h (k := 159) (j := 21) (r := 171) sh_159 rfl fl_RX12_43 dX12_takesLaw_172 ?_
      refine lv_aload_n hx hb dX12_takesLaw_175 rfl (lv_at hl 0 rfl) ?_
      refine fx_getI X h (k := 159) (j := 28) sh_159 rfl fl_RX12_266 dX12_takesLaw_176 ?_
      refine lv_iload_n hx hb dX12_takesLaw_179 rfl (lv_at hl 1 rfl) ?_
      obtain ⟨hi3, hT⟩ := hT
      refine fx_iast X h (k := 171) sh_171 hi3 dX12_takesLaw_180 (fun H locs h => ?_)
      obtain ⟨M2, eM2⟩ : ∃ z : Mm, z = m_up M 171 ((M 159 28)).toNatClampNeg x1 := ⟨_, rfl⟩
      have hT := hT M2 eM2
      rw [← eM2] at h
      exact fx_vret X hr hk h hT dX12_takesLaw_181
    · have hT := hT.2 hc1
      refine lv_aload_n hx hb dX12_takesLaw_115 rfl (lv_at hl 0 rfl) ?_
      refine fx_getR X h (k := 159) (j := 26) (r := 176) sh_159 rfl fl_RX12_58 dX12_takesLaw_116 ?_
      refine lv_sipush (v := 400) hx hb dX12_takesLaw_119 (by decide) ?_
      refine lv_aload_n hx hb dX12_takesLaw_122 rfl (lv_at hl 0 rfl) ?_
      refine fx_getI X h (k := 159) (j := 28) sh_159 rfl fl_RX12_266 dX12_takesLaw_123 ?_
      refine lv_imul hx hb dX12_takesLaw_126 ?_
      refine lv_iload_n hx hb dX12_takesLaw_127 rfl (lv_at hl 2 rfl) ?_
      refine lv_iadd hx hb dX12_takesLaw_128 ?_
      refine lv_aload_n hx hb dX12_takesLaw_129 rfl (lv_at hl 0 rfl) ?_
      refine fx_getR X h (k := 159) (j := 26) (r := 176) sh_159 rfl fl_RX12_58 dX12_takesLaw_130 ?_
      refine lv_sipush (v := 800) hx hb dX12_takesLaw_133 (by decide) ?_
      refine lv_iload_n hx hb dX12_takesLaw_136 rfl (lv_at hl 2 rfl) ?_
      refine lv_iadd hx hb dX12_takesLaw_137 ?_
      obtain ⟨hi4, hT⟩ := hT
      refine fx_iald X h (k := 176) sh_176 hi4 dX12_takesLaw_138 ?_
      obtain ⟨hi6, hT⟩ := hT
      refine fx_iast X h (k := 176) sh_176 hi6 dX12_takesLaw_139 (fun H locs h => ?_)
      obtain ⟨M5, eM5⟩ : ∃ z : Mm, z = m_up M 176 ((((400 : Int32) * (M 159 28)) + x2)).toNatClampNeg (M 176 (((800 : Int32) + x2)).toNatClampNeg) := ⟨_, rfl⟩
      have hT := hT M5 eM5
      rw [← eM5] at h
      refine lv_aload_n hx hb dX12_takesLaw_140 rfl (lv_at hl 0 rfl) ?_
      refine fx_getR X h (k := 159) (j := 27) (r := 177) sh_159 rfl fl_RX12_61 dX12_takesLaw_141 ?_
      refine lv_sipush (v := 400) hx hb dX12_takesLaw_144 (by decide) ?_
      refine lv_aload_n hx hb dX12_takesLaw_147 rfl (lv_at hl 0 rfl) ?_
      refine fx_getI X h (k := 159) (j := 28) sh_159 rfl fl_RX12_266 dX12_takesLaw_148 ?_
      refine lv_imul hx hb dX12_takesLaw_151 ?_
      refine lv_iload_n hx hb dX12_takesLaw_152 rfl (lv_at hl 2 rfl) ?_
      refine lv_iadd hx hb dX12_takesLaw_153 ?_
      refine lv_aload_n hx hb dX12_takesLaw_154 rfl (lv_at hl 0 rfl) ?_
      refine fx_getR X h (k := 159) (j := 27) (r := 177) sh_159 rfl fl_RX12_61 dX12_takesLaw_155 ?_
      refine lv_sipush (v := 800) hx hb dX12_takesLaw_158 (by decide) ?_
      refine lv_iload_n hx hb dX12_takesLaw_161 rfl (lv_at hl 2 rfl) ?_
      refine lv_iadd hx hb dX12_takesLaw_162 ?_
      obtain ⟨hi7, hT⟩ := hT
      refine fx_iald X h (k := 177) sh_177 hi7 dX12_takesLaw_163 ?_
      obtain ⟨hi9, hT⟩ := hT
      refine fx_iast X h (k := 177) sh_177 hi9 dX12_takesLaw_164 (fun H locs h => ?_)
      obtain ⟨M8, eM8⟩ : ∃ z : Mm, z = m_up M5 177 ((((400 : Int32) * (M5 159 28)) + x2)).toNatClampNeg (M5 177 (((800 : Int32) + x2)).toNatClampNeg) := ⟨_, rfl⟩
      have hT := hT M8 eM8
      rw [← eM8] at h
      obtain ⟨y10, ey10⟩ : ∃ z : Int32, z = x2 + (1 : Int32) := ⟨_, rfl⟩
      have hT := hT y10 ey10
      refine lv_iinc (v := y10) (lv' := [(2, .int y10), (0, .ref (G.2.2.2 + 159)), (1, .int x1)]) hx hb dX12_takesLaw_165 hl (k := 2) rfl (by rw [ey10]; rfl) (by decide) rfl (fun ls hl => ?_)
      refine lv_goto (tgt := 107) hx hb dX12_takesLaw_168 (by decide) ?_
      exact ih x1 y10 M8 _ _ ls hT h (lv_sub hl [1, 2, 0] rfl)
def T_X12_takesLaw_2 : Nat → Int32 → Int32 → Mm → (Mm → Prop) → Prop
  | 0, _, _, _, _ => False
  | n + 1, x1, x2, M, K => ((x1 ≤ x2 → (T_X12_takesLaw_107 5000 x1 (0 : Int32) M K)) ∧ (¬ x1 ≤ x2 → (vp_in ((32 : Int32) + x2) 48 ∧ (vp_in (((16 : Int32) * (M 159 28)) + x2) 48 ∧ (∀ M13 : Mm, M13 = m_up M 172 ((((16 : Int32) * (M 159 28)) + x2)).toNatClampNeg (M 172 (((32 : Int32) + x2)).toNatClampNeg) → (vp_in ((32 : Int32) + x2) 48 ∧ (vp_in (((16 : Int32) * (M13 159 28)) + x2) 48 ∧ (∀ M16 : Mm, M16 = m_up M13 173 ((((16 : Int32) * (M13 159 28)) + x2)).toNatClampNeg (M13 173 (((32 : Int32) + x2)).toNatClampNeg) → (vp_in ((32 : Int32) + x2) 48 ∧ (vp_in (((16 : Int32) * (M16 159 28)) + x2) 48 ∧ (∀ M19 : Mm, M19 = m_up M16 174 ((((16 : Int32) * (M16 159 28)) + x2)).toNatClampNeg (M16 174 (((32 : Int32) + x2)).toNatClampNeg) → (vp_in ((32 : Int32) + x2) 48 ∧ (vp_in (((16 : Int32) * (M19 159 28)) + x2) 48 ∧ (∀ M22 : Mm, M22 = m_up M19 175 ((((16 : Int32) * (M19 159 28)) + x2)).toNatClampNeg (M19 175 (((32 : Int32) + x2)).toNatClampNeg) → (∀ y24 : Int32, y24 = x2 + (1 : Int32) → (T_X12_takesLaw_2 n x1 y24 M22 K))))))))))))))))
set_option maxHeartbeats 4000000 in
set_option maxRecDepth 100000 in
theorem w_X12_takesLaw_2 {p : Program} {l : Launch} {e : Env} {s : State} {m : MethodId} {args : Array Value} {below : List Frame} {meth : Method} {c : Code} {G : fx_G} {K : Mm → Prop} (X : fx_C G p s m c args cX12_takesLaw 3 RX12) (hr : meth.sig.returnType = none) (hk : meth.locks = false) : ∀ (n : Nat) (x1 : Int32) (x2 : Int32) (M : Mm) (H : Heap) (locs : List Loc) (ls : Array Slot), T_X12_takesLaw_2 n x1 x2 M K → fx_H G SH M s H locs → lv_has ls 3 [(0, .ref (G.2.2.2 + 159)), (1, .int x1), (2, .int x2)] → W p l e (fx_rm (0)) s m args below meth c H locs 0 0 (MQ below (va_Qv K (fx_R G SH) (fx_A G)) args s 0 0 (fx_A G)) (F0 m 2 ls []) := by
  obtain ⟨⟨hx, hb, hml, hown, hts⟩, hK, hQ⟩ := id X
  intro n
  induction n with
  | zero =>
    intro x1 x2 M H locs ls hT
    exact hT.elim
  | succ n ih =>
    intro x1 x2 M H locs ls hT h hl
    rw [T_X12_takesLaw_2] at hT
    refine lv_iload_n hx hb dX12_takesLaw_2 rfl (lv_at hl 2 rfl) ?_
    refine lv_iload_n hx hb dX12_takesLaw_3 rfl (lv_at hl 1 rfl) ?_
    refine lv_icmp_ge (tgt := 105) hx hb dX12_takesLaw_4 (by decide) (fun hc11 => ?_) (fun hc11 => ?_)
    · have hT := hT.1 hc11
      refine lv_iconst (v := 0) hx hb dX12_takesLaw_105 (by decide) ?_
      refine lv_istore_n (lv' := [(2, .int (0 : Int32)), (0, .ref (G.2.2.2 + 159)), (1, .int x1)]) hx hb dX12_takesLaw_106 rfl hl (by decide) rfl (fun ls hl => ?_)
      exact w_X12_takesLaw_107 X hr hk 5000 x1 (0 : Int32) M _ _ ls hT h (lv_sub hl [1, 2, 0] rfl)
    · have hT := hT.2 hc11
      refine lv_aload_n hx hb dX12_takesLaw_7 rfl (lv_at hl 0 rfl) ?_
      refine fx_getR X h (k := 159) (j := 22) (r := 172) sh_159 rfl fl_RX12_46 dX12_takesLaw_8 ?_
      refine lv_bipush (v := 16) hx hb dX12_takesLaw_11 (by decide) ?_
      refine lv_aload_n hx hb dX12_takesLaw_13 rfl (lv_at hl 0 rfl) ?_
      refine fx_getI X h (k := 159) (j := 28) sh_159 rfl fl_RX12_266 dX12_takesLaw_14 ?_
      refine lv_imul hx hb dX12_takesLaw_17 ?_
      refine lv_iload_n hx hb dX12_takesLaw_18 rfl (lv_at hl 2 rfl) ?_
      refine lv_iadd hx hb dX12_takesLaw_19 ?_
      refine lv_aload_n hx hb dX12_takesLaw_20 rfl (lv_at hl 0 rfl) ?_
      refine fx_getR X h (k := 159) (j := 22) (r := 172) sh_159 rfl fl_RX12_46 dX12_takesLaw_21 ?_
      refine lv_bipush (v := 32) hx hb dX12_takesLaw_24 (by decide) ?_
      refine lv_iload_n hx hb dX12_takesLaw_26 rfl (lv_at hl 2 rfl) ?_
      refine lv_iadd hx hb dX12_takesLaw_27 ?_
      obtain ⟨hi12, hT⟩ := hT
      refine fx_iald X h (k := 172) sh_172 hi12 dX12_takesLaw_28 ?_
      obtain ⟨hi14, hT⟩ := hT
      refine fx_iast X h (k := 172) sh_172 hi14 dX12_takesLaw_29 (fun H locs h => ?_)
      obtain ⟨M13, eM13⟩ : ∃ z : Mm, z = m_up M 172 ((((16 : Int32) * (M 159 28)) + x2)).toNatClampNeg (M 172 (((32 : Int32) + x2)).toNatClampNeg) := ⟨_, rfl⟩
      have hT := hT M13 eM13
      rw [← eM13] at h
      refine lv_aload_n hx hb dX12_takesLaw_30 rfl (lv_at hl 0 rfl) ?_
      refine fx_getR X h (k := 159) (j := 23) (r := 173) sh_159 rfl fl_RX12_49 dX12_takesLaw_31 ?_
      refine lv_bipush (v := 16) hx hb dX12_takesLaw_34 (by decide) ?_
      refine lv_aload_n hx hb dX12_takesLaw_36 rfl (lv_at hl 0 rfl) ?_
      refine fx_getI X h (k := 159) (j := 28) sh_159 rfl fl_RX12_266 dX12_takesLaw_37 ?_
      refine lv_imul hx hb dX12_takesLaw_40 ?_
      refine lv_iload_n hx hb dX12_takesLaw_41 rfl (lv_at hl 2 rfl) ?_
      refine lv_iadd hx hb dX12_takesLaw_42 ?_
      refine lv_aload_n hx hb dX12_takesLaw_43 rfl (lv_at hl 0 rfl) ?_
      refine fx_getR X h (k := 159) (j := 23) (r := 173) sh_159 rfl fl_RX12_49 dX12_takesLaw_44 ?_
      refine lv_bipush (v := 32) hx hb dX12_takesLaw_47 (by decide) ?_
      refine lv_iload_n hx hb dX12_takesLaw_49 rfl (lv_at hl 2 rfl) ?_
      refine lv_iadd hx hb dX12_takesLaw_50 ?_
      obtain ⟨hi15, hT⟩ := hT
      refine fx_iald X h (k := 173) sh_173 hi15 dX12_takesLaw_51 ?_
      obtain ⟨hi17, hT⟩ := hT
      refine fx_iast X h (k := 173) sh_173 hi17 dX12_takesLaw_52 (fun H locs h => ?_)
      obtain ⟨M16, eM16⟩ : ∃ z : Mm, z = m_up M13 173 ((((16 : Int32) * (M13 159 28)) + x2)).toNatClampNeg (M13 173 (((32 : Int32) + x2)).toNatClampNeg) := ⟨_, rfl⟩
      have hT := hT M16 eM16
      rw [← eM16] at h
      refine lv_aload_n hx hb dX12_takesLaw_53 rfl (lv_at hl 0 rfl) ?_
      refine fx_getR X h (k := 159) (j := 24) (r := 174) sh_159 rfl fl_RX12_52 dX12_takesLaw_54 ?_
      refine lv_bipush (v := 16) hx hb dX12_takesLaw_57 (by decide) ?_
      refine lv_aload_n hx hb dX12_takesLaw_59 rfl (lv_at hl 0 rfl) ?_
      refine fx_getI X h (k := 159) (j := 28) sh_159 rfl fl_RX12_266 dX12_takesLaw_60 ?_
      refine lv_imul hx hb dX12_takesLaw_63 ?_
      refine lv_iload_n hx hb dX12_takesLaw_64 rfl (lv_at hl 2 rfl) ?_
      refine lv_iadd hx hb dX12_takesLaw_65 ?_
      refine lv_aload_n hx hb dX12_takesLaw_66 rfl (lv_at hl 0 rfl) ?_
      refine fx_getR X h (k := 159) (j := 24) (r := 174) sh_159 rfl fl_RX12_52 dX12_takesLaw_67 ?_
      refine lv_bipush (v := 32) hx hb dX12_takesLaw_70 (by decide) ?_
      refine lv_iload_n hx hb dX12_takesLaw_72 rfl (lv_at hl 2 rfl) ?_
      refine lv_iadd hx hb dX12_takesLaw_73 ?_
      obtain ⟨hi18, hT⟩ := hT
      refine fx_iald X h (k := 174) sh_174 hi18 dX12_takesLaw_74 ?_
      obtain ⟨hi20, hT⟩ := hT
      refine fx_iast X h (k := 174) sh_174 hi20 dX12_takesLaw_75 (fun H locs h => ?_)
      obtain ⟨M19, eM19⟩ : ∃ z : Mm, z = m_up M16 174 ((((16 : Int32) * (M16 159 28)) + x2)).toNatClampNeg (M16 174 (((32 : Int32) + x2)).toNatClampNeg) := ⟨_, rfl⟩
      have hT := hT M19 eM19
      rw [← eM19] at h
      refine lv_aload_n hx hb dX12_takesLaw_76 rfl (lv_at hl 0 rfl) ?_
      refine fx_getR X h (k := 159) (j := 25) (r := 175) sh_159 rfl fl_RX12_55 dX12_takesLaw_77 ?_
      refine lv_bipush (v := 16) hx hb dX12_takesLaw_80 (by decide) ?_
      refine lv_aload_n hx hb dX12_takesLaw_82 rfl (lv_at hl 0 rfl) ?_
      refine fx_getI X h (k := 159) (j := 28) sh_159 rfl fl_RX12_266 dX12_takesLaw_83 ?_
      refine lv_imul hx hb dX12_takesLaw_86 ?_
      refine lv_iload_n hx hb dX12_takesLaw_87 rfl (lv_at hl 2 rfl) ?_
      refine lv_iadd hx hb dX12_takesLaw_88 ?_
      refine lv_aload_n hx hb dX12_takesLaw_89 rfl (lv_at hl 0 rfl) ?_
      refine fx_getR X h (k := 159) (j := 25) (r := 175) sh_159 rfl fl_RX12_55 dX12_takesLaw_90 ?_
      refine lv_bipush (v := 32) hx hb dX12_takesLaw_93 (by decide) ?_
      refine lv_iload_n hx hb dX12_takesLaw_95 rfl (lv_at hl 2 rfl) ?_
      refine lv_iadd hx hb dX12_takesLaw_96 ?_
      obtain ⟨hi21, hT⟩ := hT
      refine fx_iald X h (k := 175) sh_175 hi21 dX12_takesLaw_97 ?_
      obtain ⟨hi23, hT⟩ := hT
      refine fx_iast X h (k := 175) sh_175 hi23 dX12_takesLaw_98 (fun H locs h => ?_)
      obtain ⟨M22, eM22⟩ : ∃ z : Mm, z = m_up M19 175 ((((16 : Int32) * (M19 159 28)) + x2)).toNatClampNeg (M19 175 (((32 : Int32) + x2)).toNatClampNeg) := ⟨_, rfl⟩
      have hT := hT M22 eM22
      rw [← eM22] at h
      obtain ⟨y24, ey24⟩ : ∃ z : Int32, z = x2 + (1 : Int32) := ⟨_, rfl⟩
      have hT := hT y24 ey24
      refine lv_iinc (v := y24) (lv' := [(2, .int y24), (0, .ref (G.2.2.2 + 159)), (1, .int x1)]) hx hb dX12_takesLaw_99 hl (k := 2) rfl (by rw [ey24]; rfl) (by decide) rfl (fun ls hl => ?_)
      refine lv_goto (tgt := 2) hx hb dX12_takesLaw_102 (by decide) ?_
      exact ih x1 y24 M22 _ _ ls hT h (lv_sub hl [1, 2, 0] rfl)
def T_X12_takesLaw (x1 : Int32) (M : Mm) (K : Mm → Prop) : Prop := (T_X12_takesLaw_2 5000 x1 (0 : Int32) M K)
set_option maxHeartbeats 4000000 in
set_option maxRecDepth 100000 in
theorem c_X12_takesLaw (l : Launch) (G : fx_G) {x1 : Int32} {M : Mm} {K : Mm → Prop} (hT : T_X12_takesLaw x1 M K) : Met l yX12_takesLaw (fx_ws yX12_takesLaw cX12_takesLaw 3 none) (fx_rm (0)) (va_Pc [.ref (G.2.2.2 + 159), .int x1] (fx_P G SH M)) (va_Qv K (fx_R G SH) (fx_A G)) 0 0 (fx_A G) := by
  refine fx_met (own := RX12) (by decide +kernel) rfl (Nat.le_of_ble_eq_true rfl) (fun p e s m below meth c X hr hk h ls hl => ?_)
  obtain ⟨⟨hx, hb, hml, hown, hts⟩, hK, hQ⟩ := id X
  have hl : lv_has ls 3 [(0, .ref (G.2.2.2 + 159)), (1, .int x1)] := hl
  unfold T_X12_takesLaw at hT
  refine lv_iconst (v := 0) hx hb dX12_takesLaw_0 (by decide) ?_
  refine lv_istore_n (lv' := [(2, .int (0 : Int32)), (0, .ref (G.2.2.2 + 159)), (1, .int x1)]) hx hb dX12_takesLaw_1 rfl hl (by decide) rfl (fun ls hl => ?_)
  exact w_X12_takesLaw_2 X hr hk 5000 x1 (0 : Int32) M _ _ ls hT h (lv_sub hl [1, 2, 0] rfl)
/-! MockParcelsModel.readNumber(II)I -/
theorem dX12_readNumber_0 : decode cX12_readNumber 0 = .ok (.aload_n 0, 1) := by decide +kernel
theorem dX12_readNumber_1 : decode cX12_readNumber 1 = .ok (.getfield 188, 3) := by decide +kernel
theorem dX12_readNumber_4 : decode cX12_readNumber 4 = .ok (.iconst 3, 1) := by decide +kernel
theorem dX12_readNumber_5 : decode cX12_readNumber 5 = .ok (.if_icmp .eq 9, 3) := by decide +kernel
theorem dX12_readNumber_8 : decode cX12_readNumber 8 = .ok (.aload_n 0, 1) := by decide +kernel
theorem dX12_readNumber_9 : decode cX12_readNumber 9 = .ok (.iconst 1, 1) := by decide +kernel
theorem dX12_readNumber_10 : decode cX12_readNumber 10 = .ok (.invokevirtual 218, 3) := by decide +kernel
theorem dX12_readNumber_13 : decode cX12_readNumber 13 = .ok (.ireturn, 1) := by decide +kernel
theorem dX12_readNumber_14 : decode cX12_readNumber 14 = .ok (.aload_n 0, 1) := by decide +kernel
theorem dX12_readNumber_15 : decode cX12_readNumber 15 = .ok (.aload_n 0, 1) := by decide +kernel
theorem dX12_readNumber_16 : decode cX12_readNumber 16 = .ok (.getfield 191, 3) := by decide +kernel
theorem dX12_readNumber_19 : decode cX12_readNumber 19 = .ok (.iload_n 1, 1) := by decide +kernel
theorem dX12_readNumber_20 : decode cX12_readNumber 20 = .ok (.iload_n 2, 1) := by decide +kernel
theorem dX12_readNumber_21 : decode cX12_readNumber 21 = .ok (.invokevirtual 157, 3) := by decide +kernel
theorem dX12_readNumber_24 : decode cX12_readNumber 24 = .ok (.ifCond .ne 9, 3) := by decide +kernel
theorem dX12_readNumber_27 : decode cX12_readNumber 27 = .ok (.aload_n 0, 1) := by decide +kernel
theorem dX12_readNumber_28 : decode cX12_readNumber 28 = .ok (.iconst 2, 1) := by decide +kernel
theorem dX12_readNumber_29 : decode cX12_readNumber 29 = .ok (.invokevirtual 218, 3) := by decide +kernel
theorem dX12_readNumber_32 : decode cX12_readNumber 32 = .ok (.ireturn, 1) := by decide +kernel
theorem dX12_readNumber_33 : decode cX12_readNumber 33 = .ok (.aload_n 0, 1) := by decide +kernel
theorem dX12_readNumber_34 : decode cX12_readNumber 34 = .ok (.getfield 191, 3) := by decide +kernel
theorem dX12_readNumber_37 : decode cX12_readNumber 37 = .ok (.istore_n 3, 1) := by decide +kernel
theorem dX12_readNumber_38 : decode cX12_readNumber 38 = .ok (.aload_n 0, 1) := by decide +kernel
theorem dX12_readNumber_39 : decode cX12_readNumber 39 = .ok (.invokevirtual 225, 3) := by decide +kernel
theorem dX12_readNumber_42 : decode cX12_readNumber 42 = .ok (.iload_n 3, 1) := by decide +kernel
theorem dX12_readNumber_43 : decode cX12_readNumber 43 = .ok (.ireturn, 1) := by decide +kernel
def T_X12_readNumber (x1 : Int32) (x2 : Int32) (M : Mm) (K : Int32 → Mm → Prop) : Prop := (((M 159 18) = (3 : Int32) → (T_X12_isIn (M 159 19) x1 x2 M (fun r4 M3 => ((r4 = 0 → (T_X12_errs (2 : Int32) M3 (fun r11 M10 => (K r11 M10)))) ∧ (¬ r4 = 0 → (∀ y6 : Int32, y6 = (M3 159 19) → (T_X12_reads M3 (fun M8 => (K y6 M8))))))))) ∧ (¬ (M 159 18) = (3 : Int32) → (T_X12_errs (1 : Int32) M (fun r14 M13 => (K r14 M13)))))
set_option maxHeartbeats 4000000 in
set_option maxRecDepth 100000 in
theorem c_X12_readNumber (l : Launch) (G : fx_G) {x1 : Int32} {x2 : Int32} {M : Mm} {K : Int32 → Mm → Prop} (hT : T_X12_readNumber x1 x2 M K) : Met l yX12_readNumber (fx_ws yX12_readNumber cX12_readNumber 4 (some .int)) (fx_rm (3)) (va_Pc [.ref (G.2.2.2 + 159), .int x1, .int x2] (fx_P G SH M)) (va_Qi K (fx_R G SH) (fx_A G)) 0 0 (fx_A G) := by
  refine fx_met (own := RX12) (by decide +kernel) rfl (Nat.le_of_ble_eq_true rfl) (fun p e s m below meth c X hr hk h ls hl => ?_)
  obtain ⟨⟨hx, hb, hml, hown, hts⟩, hK, hQ⟩ := id X
  have hl : lv_has ls 4 [(0, .ref (G.2.2.2 + 159)), (1, .int x1), (2, .int x2)] := hl
  unfold T_X12_readNumber at hT
  refine lv_aload_n hx hb dX12_readNumber_0 rfl (lv_at hl 0 rfl) ?_
  refine fx_getI X h (k := 159) (j := 18) sh_159 rfl fl_RX12_188 dX12_readNumber_1 ?_
  refine lv_iconst (v := 3) hx hb dX12_readNumber_4 (by decide) ?_
  refine lv_icmp_eq (tgt := 14) hx hb dX12_readNumber_5 (by decide) (fun hc1 => ?_) (fun hc1 => ?_)
  · have hT := hT.1 hc1
    refine lv_aload_n hx hb dX12_readNumber_14 rfl (lv_at hl 0 rfl) ?_
    refine lv_aload_n hx hb dX12_readNumber_15 rfl (lv_at hl 0 rfl) ?_
    refine fx_getI X h (k := 159) (j := 19) sh_159 rfl fl_RX12_191 dX12_readNumber_16 ?_
    refine lv_iload_n hx hb dX12_readNumber_19 rfl (lv_at hl 1 rfl) ?_
    refine lv_iload_n hx hb dX12_readNumber_20 rfl (lv_at hl 2 rfl) ?_
    refine fx_vi X h ym_X12_isIn yi_X12_isIn ys_X12_isIn (fx_s7 (List.mem_of_getElem? (i := 77) rfl) rfl) sh_159 rfl (c_X12_isIn l G hT) (As := [.int (M 159 19), .int x1, .int x2]) (rest := []) rfl rfl ⟨Nat.le_of_ble_eq_true rfl, Nat.le_of_ble_eq_true rfl⟩ ⟨Nat.le_refl _, Nat.le_refl _⟩ hl.1 (Nat.le_of_ble_eq_true rfl) dX12_readNumber_21 (fun r4 M3 H locs hT h => ?_)
    refine lv_if_ne (tgt := 33) hx hb dX12_readNumber_24 (by decide) (fun hc5 => ?_) (fun hc5 => ?_)
    · have hT := hT.2 hc5
      refine lv_aload_n hx hb dX12_readNumber_33 rfl (lv_at hl 0 rfl) ?_
      refine fx_getI X h (k := 159) (j := 19) sh_159 rfl fl_RX12_191 dX12_readNumber_34 ?_
      refine lv_topi (fun y6 ey6 => ?_)
      have hT := hT y6 ey6
      refine lv_istore_n (lv' := [(3, .int y6), (0, .ref (G.2.2.2 + 159)), (1, .int x1), (2, .int x2)]) hx hb dX12_readNumber_37 rfl hl (by decide) rfl (fun ls hl => ?_)
      refine lv_aload_n hx hb dX12_readNumber_38 rfl (lv_at hl 1 rfl) ?_
      refine fx_vv X h ym_X12_reads yi_X12_reads ys_X12_reads (fx_s7 (List.mem_of_getElem? (i := 121) rfl) rfl) sh_159 rfl (c_X12_reads l G hT) (As := []) (rest := []) rfl rfl ⟨Nat.le_of_ble_eq_true rfl, Nat.le_of_ble_eq_true rfl⟩ ⟨Nat.le_refl _, Nat.le_refl _⟩ hl.1 (Nat.le_of_ble_eq_true rfl) dX12_readNumber_39 (fun M8 H locs hT h => ?_)
      refine lv_iload_n hx hb dX12_readNumber_42 rfl (lv_at hl 0 rfl) ?_
      exact fx_iret X hr hk h hT dX12_readNumber_43
    · have hT := hT.1 hc5
      refine lv_aload_n hx hb dX12_readNumber_27 rfl (lv_at hl 0 rfl) ?_
      refine lv_iconst (v := 2) hx hb dX12_readNumber_28 (by decide) ?_
      refine fx_vi X h ym_X12_errs yi_X12_errs ys_X12_errs (fx_s7 (List.mem_of_getElem? (i := 153) rfl) rfl) sh_159 rfl (c_X12_errs l G hT) (As := [.int (2 : Int32)]) (rest := []) rfl rfl ⟨Nat.le_of_ble_eq_true rfl, Nat.le_of_ble_eq_true rfl⟩ ⟨Nat.le_refl _, Nat.le_refl _⟩ hl.1 (Nat.le_of_ble_eq_true rfl) dX12_readNumber_29 (fun r11 M10 H locs hT h => ?_)
      exact fx_iret X hr hk h hT dX12_readNumber_32
  · have hT := hT.2 hc1
    refine lv_aload_n hx hb dX12_readNumber_8 rfl (lv_at hl 0 rfl) ?_
    refine lv_iconst (v := 1) hx hb dX12_readNumber_9 (by decide) ?_
    refine fx_vi X h ym_X12_errs yi_X12_errs ys_X12_errs (fx_s7 (List.mem_of_getElem? (i := 153) rfl) rfl) sh_159 rfl (c_X12_errs l G hT) (As := [.int (1 : Int32)]) (rest := []) rfl rfl ⟨Nat.le_of_ble_eq_true rfl, Nat.le_of_ble_eq_true rfl⟩ ⟨Nat.le_refl _, Nat.le_refl _⟩ hl.1 (Nat.le_of_ble_eq_true rfl) dX12_readNumber_10 (fun r14 M13 H locs hT h => ?_)
    exact fx_iret X hr hk h hT dX12_readNumber_13
/-! MockParcelsModel.readMark(I)I -/
theorem dX12_readMark_0 : decode cX12_readMark 0 = .ok (.aload_n 0, 1) := by decide +kernel
theorem dX12_readMark_1 : decode cX12_readMark 1 = .ok (.iload_n 1, 1) := by decide +kernel
theorem dX12_readMark_2 : decode cX12_readMark 2 = .ok (.invokevirtual 232, 3) := by decide +kernel
theorem dX12_readMark_5 : decode cX12_readMark 5 = .ok (.ifCond .ne 9, 3) := by decide +kernel
theorem dX12_readMark_8 : decode cX12_readMark 8 = .ok (.aload_n 0, 1) := by decide +kernel
theorem dX12_readMark_9 : decode cX12_readMark 9 = .ok (.iconst 1, 1) := by decide +kernel
theorem dX12_readMark_10 : decode cX12_readMark 10 = .ok (.invokevirtual 218, 3) := by decide +kernel
theorem dX12_readMark_13 : decode cX12_readMark 13 = .ok (.ireturn, 1) := by decide +kernel
theorem dX12_readMark_14 : decode cX12_readMark 14 = .ok (.aload_n 0, 1) := by decide +kernel
theorem dX12_readMark_15 : decode cX12_readMark 15 = .ok (.invokevirtual 225, 3) := by decide +kernel
theorem dX12_readMark_18 : decode cX12_readMark 18 = .ok (.iconst 0, 1) := by decide +kernel
theorem dX12_readMark_19 : decode cX12_readMark 19 = .ok (.ireturn, 1) := by decide +kernel
def T_X12_readMark (x1 : Int32) (M : Mm) (K : Int32 → Mm → Prop) : Prop := (T_X12_isSign x1 M (fun r3 M2 => ((r3 = 0 → (T_X12_errs (1 : Int32) M2 (fun r9 M8 => (K r9 M8)))) ∧ (¬ r3 = 0 → (T_X12_reads M2 (fun M6 => (K (0 : Int32) M6)))))))
set_option maxHeartbeats 4000000 in
set_option maxRecDepth 100000 in
theorem c_X12_readMark (l : Launch) (G : fx_G) {x1 : Int32} {M : Mm} {K : Int32 → Mm → Prop} (hT : T_X12_readMark x1 M K) : Met l yX12_readMark (fx_ws yX12_readMark cX12_readMark 2 (some .int)) (fx_rm (3)) (va_Pc [.ref (G.2.2.2 + 159), .int x1] (fx_P G SH M)) (va_Qi K (fx_R G SH) (fx_A G)) 0 0 (fx_A G) := by
  refine fx_met (own := RX12) (by decide +kernel) rfl (Nat.le_of_ble_eq_true rfl) (fun p e s m below meth c X hr hk h ls hl => ?_)
  obtain ⟨⟨hx, hb, hml, hown, hts⟩, hK, hQ⟩ := id X
  have hl : lv_has ls 2 [(0, .ref (G.2.2.2 + 159)), (1, .int x1)] := hl
  unfold T_X12_readMark at hT
  refine lv_aload_n hx hb dX12_readMark_0 rfl (lv_at hl 0 rfl) ?_
  refine lv_iload_n hx hb dX12_readMark_1 rfl (lv_at hl 1 rfl) ?_
  refine fx_vi X h ym_X12_isSign yi_X12_isSign ys_X12_isSign (fx_s7 (List.mem_of_getElem? (i := 173) rfl) rfl) sh_159 rfl (c_X12_isSign l G hT) (As := [.int x1]) (rest := []) rfl rfl ⟨Nat.le_of_ble_eq_true rfl, Nat.le_of_ble_eq_true rfl⟩ ⟨Nat.le_refl _, Nat.le_refl _⟩ hl.1 (Nat.le_of_ble_eq_true rfl) dX12_readMark_2 (fun r3 M2 H locs hT h => ?_)
  refine lv_if_ne (tgt := 14) hx hb dX12_readMark_5 (by decide) (fun hc4 => ?_) (fun hc4 => ?_)
  · have hT := hT.2 hc4
    refine lv_aload_n hx hb dX12_readMark_14 rfl (lv_at hl 0 rfl) ?_
    refine fx_vv X h ym_X12_reads yi_X12_reads ys_X12_reads (fx_s7 (List.mem_of_getElem? (i := 121) rfl) rfl) sh_159 rfl (c_X12_reads l G hT) (As := []) (rest := []) rfl rfl ⟨Nat.le_of_ble_eq_true rfl, Nat.le_of_ble_eq_true rfl⟩ ⟨Nat.le_refl _, Nat.le_refl _⟩ hl.1 (Nat.le_of_ble_eq_true rfl) dX12_readMark_15 (fun M6 H locs hT h => ?_)
    refine lv_iconst (v := 0) hx hb dX12_readMark_18 (by decide) ?_
    exact fx_iret X hr hk h hT dX12_readMark_19
  · have hT := hT.1 hc4
    refine lv_aload_n hx hb dX12_readMark_8 rfl (lv_at hl 0 rfl) ?_
    refine lv_iconst (v := 1) hx hb dX12_readMark_9 (by decide) ?_
    refine fx_vi X h ym_X12_errs yi_X12_errs ys_X12_errs (fx_s7 (List.mem_of_getElem? (i := 153) rfl) rfl) sh_159 rfl (c_X12_errs l G hT) (As := [.int (1 : Int32)]) (rest := []) rfl rfl ⟨Nat.le_of_ble_eq_true rfl, Nat.le_of_ble_eq_true rfl⟩ ⟨Nat.le_refl _, Nat.le_refl _⟩ hl.1 (Nat.le_of_ble_eq_true rfl) dX12_readMark_10 (fun r9 M8 H locs hT h => ?_)
    exact fx_iret X hr hk h hT dX12_readMark_13
/-! MockParcelsModel.readTold(III)I -/
theorem dX12_readTold_0 : decode cX12_readTold 0 = .ok (.aload_n 0, 1) := by decide +kernel
theorem dX12_readTold_1 : decode cX12_readTold 1 = .ok (.iload_n 1, 1) := by decide +kernel
theorem dX12_readTold_2 : decode cX12_readTold 2 = .ok (.invokevirtual 247, 3) := by decide +kernel
theorem dX12_readTold_5 : decode cX12_readTold 5 = .ok (.ifCond .ne 9, 3) := by decide +kernel
theorem dX12_readTold_8 : decode cX12_readTold 8 = .ok (.aload_n 0, 1) := by decide +kernel
theorem dX12_readTold_9 : decode cX12_readTold 9 = .ok (.iconst 1, 1) := by decide +kernel
theorem dX12_readTold_10 : decode cX12_readTold 10 = .ok (.invokevirtual 218, 3) := by decide +kernel
theorem dX12_readTold_13 : decode cX12_readTold 13 = .ok (.ireturn, 1) := by decide +kernel
theorem dX12_readTold_14 : decode cX12_readTold 14 = .ok (.aload_n 0, 1) := by decide +kernel
theorem dX12_readTold_15 : decode cX12_readTold 15 = .ok (.invokevirtual 225, 3) := by decide +kernel
theorem dX12_readTold_18 : decode cX12_readTold 18 = .ok (.aload_n 0, 1) := by decide +kernel
theorem dX12_readTold_19 : decode cX12_readTold 19 = .ok (.iload_n 2, 1) := by decide +kernel
theorem dX12_readTold_20 : decode cX12_readTold 20 = .ok (.iload_n 3, 1) := by decide +kernel
theorem dX12_readTold_21 : decode cX12_readTold 21 = .ok (.invokevirtual 269, 3) := by decide +kernel
theorem dX12_readTold_24 : decode cX12_readTold 24 = .ok (.ireturn, 1) := by decide +kernel
def T_X12_readTold (x1 : Int32) (x2 : Int32) (x3 : Int32) (M : Mm) (K : Int32 → Mm → Prop) : Prop := (T_X12_isWord x1 M (fun r3 M2 => ((r3 = 0 → (T_X12_errs (1 : Int32) M2 (fun r12 M11 => (K r12 M11)))) ∧ (¬ r3 = 0 → (T_X12_reads M2 (fun M6 => (T_X12_readNumber x2 x3 M6 (fun r9 M8 => (K r9 M8)))))))))
set_option maxHeartbeats 4000000 in
set_option maxRecDepth 100000 in
theorem c_X12_readTold (l : Launch) (G : fx_G) {x1 : Int32} {x2 : Int32} {x3 : Int32} {M : Mm} {K : Int32 → Mm → Prop} (hT : T_X12_readTold x1 x2 x3 M K) : Met l yX12_readTold (fx_ws yX12_readTold cX12_readTold 4 (some .int)) (fx_rm (4)) (va_Pc [.ref (G.2.2.2 + 159), .int x1, .int x2, .int x3] (fx_P G SH M)) (va_Qi K (fx_R G SH) (fx_A G)) 0 0 (fx_A G) := by
  refine fx_met (own := RX12) (by decide +kernel) rfl (Nat.le_of_ble_eq_true rfl) (fun p e s m below meth c X hr hk h ls hl => ?_)
  obtain ⟨⟨hx, hb, hml, hown, hts⟩, hK, hQ⟩ := id X
  have hl : lv_has ls 4 [(0, .ref (G.2.2.2 + 159)), (1, .int x1), (2, .int x2), (3, .int x3)] := hl
  unfold T_X12_readTold at hT
  refine lv_aload_n hx hb dX12_readTold_0 rfl (lv_at hl 0 rfl) ?_
  refine lv_iload_n hx hb dX12_readTold_1 rfl (lv_at hl 1 rfl) ?_
  refine fx_vi X h ym_X12_isWord yi_X12_isWord ys_X12_isWord (fx_s7 (List.mem_of_getElem? (i := 149) rfl) rfl) sh_159 rfl (c_X12_isWord l G hT) (As := [.int x1]) (rest := []) rfl rfl ⟨Nat.le_of_ble_eq_true rfl, Nat.le_of_ble_eq_true rfl⟩ ⟨Nat.le_refl _, Nat.le_refl _⟩ hl.1 (Nat.le_of_ble_eq_true rfl) dX12_readTold_2 (fun r3 M2 H locs hT h => ?_)
  refine lv_if_ne (tgt := 14) hx hb dX12_readTold_5 (by decide) (fun hc4 => ?_) (fun hc4 => ?_)
  · have hT := hT.2 hc4
    refine lv_aload_n hx hb dX12_readTold_14 rfl (lv_at hl 0 rfl) ?_
    refine fx_vv X h ym_X12_reads yi_X12_reads ys_X12_reads (fx_s7 (List.mem_of_getElem? (i := 121) rfl) rfl) sh_159 rfl (c_X12_reads l G hT) (As := []) (rest := []) rfl rfl ⟨Nat.le_of_ble_eq_true rfl, Nat.le_of_ble_eq_true rfl⟩ ⟨Nat.le_refl _, Nat.le_refl _⟩ hl.1 (Nat.le_of_ble_eq_true rfl) dX12_readTold_15 (fun M6 H locs hT h => ?_)
    refine lv_aload_n hx hb dX12_readTold_18 rfl (lv_at hl 0 rfl) ?_
    refine lv_iload_n hx hb dX12_readTold_19 rfl (lv_at hl 2 rfl) ?_
    refine lv_iload_n hx hb dX12_readTold_20 rfl (lv_at hl 3 rfl) ?_
    refine fx_vi X h ym_X12_readNumber yi_X12_readNumber ys_X12_readNumber (fx_s7 (List.mem_of_getElem? (i := 165) rfl) rfl) sh_159 rfl (c_X12_readNumber l G hT) (As := [.int x2, .int x3]) (rest := []) rfl rfl ⟨Nat.le_of_ble_eq_true rfl, Nat.le_of_ble_eq_true rfl⟩ ⟨Nat.le_refl _, Nat.le_refl _⟩ hl.1 (Nat.le_of_ble_eq_true rfl) dX12_readTold_21 (fun r9 M8 H locs hT h => ?_)
    exact fx_iret X hr hk h hT dX12_readTold_24
  · have hT := hT.1 hc4
    refine lv_aload_n hx hb dX12_readTold_8 rfl (lv_at hl 0 rfl) ?_
    refine lv_iconst (v := 1) hx hb dX12_readTold_9 (by decide) ?_
    refine fx_vi X h ym_X12_errs yi_X12_errs ys_X12_errs (fx_s7 (List.mem_of_getElem? (i := 153) rfl) rfl) sh_159 rfl (c_X12_errs l G hT) (As := [.int (1 : Int32)]) (rest := []) rfl rfl ⟨Nat.le_of_ble_eq_true rfl, Nat.le_of_ble_eq_true rfl⟩ ⟨Nat.le_refl _, Nat.le_refl _⟩ hl.1 (Nat.le_of_ble_eq_true rfl) dX12_readTold_10 (fun r12 M11 H locs hT h => ?_)
    exact fx_iret X hr hk h hT dX12_readTold_13
/-! MockParcelsModel.readFollow()I -/
theorem dX12_readFollow_0 : decode cX12_readFollow 0 = .ok (.aload_n 0, 1) := by decide +kernel
theorem dX12_readFollow_1 : decode cX12_readFollow 1 = .ok (.bipush 19, 2) := by decide +kernel
theorem dX12_readFollow_3 : decode cX12_readFollow 3 = .ok (.iconst 0, 1) := by decide +kernel
theorem dX12_readFollow_4 : decode cX12_readFollow 4 = .ok (.aload_n 0, 1) := by decide +kernel
theorem dX12_readFollow_5 : decode cX12_readFollow 5 = .ok (.getfield 150, 3) := by decide +kernel
theorem dX12_readFollow_8 : decode cX12_readFollow 8 = .ok (.iconst 1, 1) := by decide +kernel
theorem dX12_readFollow_9 : decode cX12_readFollow 9 = .ok (.isub, 1) := by decide +kernel
theorem dX12_readFollow_10 : decode cX12_readFollow 10 = .ok (.invokevirtual 272, 3) := by decide +kernel
theorem dX12_readFollow_13 : decode cX12_readFollow 13 = .ok (.istore_n 1, 1) := by decide +kernel
theorem dX12_readFollow_14 : decode cX12_readFollow 14 = .ok (.iload_n 1, 1) := by decide +kernel
theorem dX12_readFollow_15 : decode cX12_readFollow 15 = .ok (.iconst (-1), 1) := by decide +kernel
theorem dX12_readFollow_16 : decode cX12_readFollow 16 = .ok (.if_icmp .ne 5, 3) := by decide +kernel
theorem dX12_readFollow_19 : decode cX12_readFollow 19 = .ok (.iconst (-1), 1) := by decide +kernel
theorem dX12_readFollow_20 : decode cX12_readFollow 20 = .ok (.ireturn, 1) := by decide +kernel
theorem dX12_readFollow_21 : decode cX12_readFollow 21 = .ok (.aload_n 0, 1) := by decide +kernel
theorem dX12_readFollow_22 : decode cX12_readFollow 22 = .ok (.bipush 20, 2) := by decide +kernel
theorem dX12_readFollow_24 : decode cX12_readFollow 24 = .ok (.invokevirtual 247, 3) := by decide +kernel
theorem dX12_readFollow_27 : decode cX12_readFollow 27 = .ok (.ifCond .ne 9, 3) := by decide +kernel
theorem dX12_readFollow_30 : decode cX12_readFollow 30 = .ok (.aload_n 0, 1) := by decide +kernel
theorem dX12_readFollow_31 : decode cX12_readFollow 31 = .ok (.iconst 1, 1) := by decide +kernel
theorem dX12_readFollow_32 : decode cX12_readFollow 32 = .ok (.invokevirtual 218, 3) := by decide +kernel
theorem dX12_readFollow_35 : decode cX12_readFollow 35 = .ok (.ireturn, 1) := by decide +kernel
theorem dX12_readFollow_36 : decode cX12_readFollow 36 = .ok (.aload_n 0, 1) := by decide +kernel
theorem dX12_readFollow_37 : decode cX12_readFollow 37 = .ok (.invokevirtual 225, 3) := by decide +kernel
theorem dX12_readFollow_40 : decode cX12_readFollow 40 = .ok (.aload_n 0, 1) := by decide +kernel
theorem dX12_readFollow_41 : decode cX12_readFollow 41 = .ok (.getfield 188, 3) := by decide +kernel
theorem dX12_readFollow_44 : decode cX12_readFollow 44 = .ok (.iconst 3, 1) := by decide +kernel
theorem dX12_readFollow_45 : decode cX12_readFollow 45 = .ok (.if_icmp .ne 17, 3) := by decide +kernel
theorem dX12_readFollow_48 : decode cX12_readFollow 48 = .ok (.aload_n 0, 1) := by decide +kernel
theorem dX12_readFollow_49 : decode cX12_readFollow 49 = .ok (.getfield 191, 3) := by decide +kernel
theorem dX12_readFollow_52 : decode cX12_readFollow 52 = .ok (.iload_n 1, 1) := by decide +kernel
theorem dX12_readFollow_53 : decode cX12_readFollow 53 = .ok (.if_icmp .ne 9, 3) := by decide +kernel
theorem dX12_readFollow_56 : decode cX12_readFollow 56 = .ok (.aload_n 0, 1) := by decide +kernel
theorem dX12_readFollow_57 : decode cX12_readFollow 57 = .ok (.iconst 2, 1) := by decide +kernel
theorem dX12_readFollow_58 : decode cX12_readFollow 58 = .ok (.invokevirtual 218, 3) := by decide +kernel
theorem dX12_readFollow_61 : decode cX12_readFollow 61 = .ok (.ireturn, 1) := by decide +kernel
theorem dX12_readFollow_62 : decode cX12_readFollow 62 = .ok (.aload_n 0, 1) := by decide +kernel
theorem dX12_readFollow_63 : decode cX12_readFollow 63 = .ok (.iconst 0, 1) := by decide +kernel
theorem dX12_readFollow_64 : decode cX12_readFollow 64 = .ok (.aload_n 0, 1) := by decide +kernel
theorem dX12_readFollow_65 : decode cX12_readFollow 65 = .ok (.getfield 150, 3) := by decide +kernel
theorem dX12_readFollow_68 : decode cX12_readFollow 68 = .ok (.iconst 1, 1) := by decide +kernel
theorem dX12_readFollow_69 : decode cX12_readFollow 69 = .ok (.isub, 1) := by decide +kernel
theorem dX12_readFollow_70 : decode cX12_readFollow 70 = .ok (.invokevirtual 269, 3) := by decide +kernel
theorem dX12_readFollow_73 : decode cX12_readFollow 73 = .ok (.istore_n 2, 1) := by decide +kernel
theorem dX12_readFollow_74 : decode cX12_readFollow 74 = .ok (.iload_n 2, 1) := by decide +kernel
theorem dX12_readFollow_75 : decode cX12_readFollow 75 = .ok (.iconst (-1), 1) := by decide +kernel
theorem dX12_readFollow_76 : decode cX12_readFollow 76 = .ok (.if_icmp .ne 5, 3) := by decide +kernel
theorem dX12_readFollow_79 : decode cX12_readFollow 79 = .ok (.iconst (-1), 1) := by decide +kernel
theorem dX12_readFollow_80 : decode cX12_readFollow 80 = .ok (.ireturn, 1) := by decide +kernel
theorem dX12_readFollow_81 : decode cX12_readFollow 81 = .ok (.aload_n 0, 1) := by decide +kernel
theorem dX12_readFollow_82 : decode cX12_readFollow 82 = .ok (.getfield 71, 3) := by decide +kernel
theorem dX12_readFollow_85 : decode cX12_readFollow 85 = .ok (.bipush 8, 2) := by decide +kernel
theorem dX12_readFollow_87 : decode cX12_readFollow 87 = .ok (.iload_n 1, 1) := by decide +kernel
theorem dX12_readFollow_88 : decode cX12_readFollow 88 = .ok (.iadd, 1) := by decide +kernel
theorem dX12_readFollow_89 : decode cX12_readFollow 89 = .ok (.iload_n 2, 1) := by decide +kernel
theorem dX12_readFollow_90 : decode cX12_readFollow 90 = .ok (.iconst 1, 1) := by decide +kernel
theorem dX12_readFollow_91 : decode cX12_readFollow 91 = .ok (.iadd, 1) := by decide +kernel
theorem dX12_readFollow_92 : decode cX12_readFollow 92 = .ok (.iastore, 1) := by decide +kernel
theorem dX12_readFollow_93 : decode cX12_readFollow 93 = .ok (.aload_n 0, 1) := by decide +kernel
theorem dX12_readFollow_94 : decode cX12_readFollow 94 = .ok (.bipush 59, 2) := by decide +kernel
theorem dX12_readFollow_96 : decode cX12_readFollow 96 = .ok (.invokevirtual 276, 3) := by decide +kernel
theorem dX12_readFollow_99 : decode cX12_readFollow 99 = .ok (.ireturn, 1) := by decide +kernel
def T_X12_readFollow_62 (x1 : Int32) (M : Mm) (K : Int32 → Mm → Prop) : Prop := (T_X12_readNumber (0 : Int32) ((M 159 7) - (1 : Int32)) M (fun r3 M2 => ((r3 = (-1 : Int32) → (K (-1 : Int32) M2)) ∧ (¬ r3 = (-1 : Int32) → (vp_in ((8 : Int32) + x1) 16 ∧ (∀ M5 : Mm, M5 = m_up M2 179 (((8 : Int32) + x1)).toNatClampNeg (r3 + (1 : Int32)) → (T_X12_readMark (59 : Int32) M5 (fun r9 M8 => (K r9 M8)))))))))
set_option maxHeartbeats 4000000 in
set_option maxRecDepth 100000 in
theorem w_X12_readFollow_62 {p : Program} {l : Launch} {e : Env} {s : State} {m : MethodId} {args : Array Value} {below : List Frame} {meth : Method} {c : Code} {G : fx_G} {K : Int32 → Mm → Prop} (X : fx_C G p s m c args cX12_readFollow 3 RX12) (hr : meth.sig.returnType = (some .int)) (hk : meth.locks = false) : ∀ (x1 : Int32) (M : Mm) (H : Heap) (locs : List Loc) (ls : Array Slot), T_X12_readFollow_62 x1 M K → fx_H G SH M s H locs → lv_has ls 3 [(0, .ref (G.2.2.2 + 159)), (1, .int x1)] → W p l e (fx_rm (5)) s m args below meth c H locs 0 0 (MQ below (va_Qi K (fx_R G SH) (fx_A G)) args s 0 0 (fx_A G)) (F0 m 62 ls []) := by
  obtain ⟨⟨hx, hb, hml, hown, hts⟩, hK, hQ⟩ := id X
  intro x1 M H locs ls hT h hl
  unfold T_X12_readFollow_62 at hT
  refine lv_aload_n hx hb dX12_readFollow_62 rfl (lv_at hl 0 rfl) ?_
  refine lv_iconst (v := 0) hx hb dX12_readFollow_63 (by decide) ?_
  refine lv_aload_n hx hb dX12_readFollow_64 rfl (lv_at hl 0 rfl) ?_
  refine fx_getI X h (k := 159) (j := 7) sh_159 rfl fl_RX12_150 dX12_readFollow_65 ?_
  refine lv_iconst (v := 1) hx hb dX12_readFollow_68 (by decide) ?_
  refine lv_isub hx hb dX12_readFollow_69 ?_
  refine fx_vi X h ym_X12_readNumber yi_X12_readNumber ys_X12_readNumber (fx_s7 (List.mem_of_getElem? (i := 165) rfl) rfl) sh_159 rfl (c_X12_readNumber l G hT) (As := [.int (0 : Int32), .int ((M 159 7) - (1 : Int32))]) (rest := []) rfl rfl ⟨Nat.le_of_ble_eq_true rfl, Nat.le_of_ble_eq_true rfl⟩ ⟨Nat.le_refl _, Nat.le_refl _⟩ hl.1 (Nat.le_of_ble_eq_true rfl) dX12_readFollow_70 (fun r3 M2 H locs hT h => ?_)
  refine lv_istore_n (lv' := [(2, .int r3), (0, .ref (G.2.2.2 + 159)), (1, .int x1)]) hx hb dX12_readFollow_73 rfl hl (by decide) rfl (fun ls hl => ?_)
  refine lv_iload_n hx hb dX12_readFollow_74 rfl (lv_at hl 0 rfl) ?_
  refine lv_iconst (v := -1) hx hb dX12_readFollow_75 (by decide) ?_
  refine lv_icmp_ne (tgt := 81) hx hb dX12_readFollow_76 (by decide) (fun hc4 => ?_) (fun hc4 => ?_)
  · have hT := hT.2 hc4
    refine lv_aload_n hx hb dX12_readFollow_81 rfl (lv_at hl 1 rfl) ?_
    refine fx_getR X h (k := 159) (j := 38) (r := 179) sh_159 rfl fl_RX12_71 dX12_readFollow_82 ?_
    refine lv_bipush (v := 8) hx hb dX12_readFollow_85 (by decide) ?_
    refine lv_iload_n hx hb dX12_readFollow_87 rfl (lv_at hl 2 rfl) ?_
    refine lv_iadd hx hb dX12_readFollow_88 ?_
    refine lv_iload_n hx hb dX12_readFollow_89 rfl (lv_at hl 0 rfl) ?_
    refine lv_iconst (v := 1) hx hb dX12_readFollow_90 (by decide) ?_
    refine lv_iadd hx hb dX12_readFollow_91 ?_
    obtain ⟨hi6, hT⟩ := hT
    refine fx_iast X h (k := 179) sh_179 hi6 dX12_readFollow_92 (fun H locs h => ?_)
    obtain ⟨M5, eM5⟩ : ∃ z : Mm, z = m_up M2 179 (((8 : Int32) + x1)).toNatClampNeg (r3 + (1 : Int32)) := ⟨_, rfl⟩
    have hT := hT M5 eM5
    rw [← eM5] at h
    refine lv_aload_n hx hb dX12_readFollow_93 rfl (lv_at hl 1 rfl) ?_
    refine lv_bipush (v := 59) hx hb dX12_readFollow_94 (by decide) ?_
    refine fx_vi X h ym_X12_readMark yi_X12_readMark ys_X12_readMark (fx_s7 (List.mem_of_getElem? (i := 169) rfl) rfl) sh_159 rfl (c_X12_readMark l G hT) (As := [.int (59 : Int32)]) (rest := []) rfl rfl ⟨Nat.le_of_ble_eq_true rfl, Nat.le_of_ble_eq_true rfl⟩ ⟨Nat.le_refl _, Nat.le_refl _⟩ hl.1 (Nat.le_of_ble_eq_true rfl) dX12_readFollow_96 (fun r9 M8 H locs hT h => ?_)
    exact fx_iret X hr hk h hT dX12_readFollow_99
  · have hT := hT.1 hc4
    refine lv_iconst (v := -1) hx hb dX12_readFollow_79 (by decide) ?_
    exact fx_iret X hr hk h hT dX12_readFollow_80
def T_X12_readFollow (M : Mm) (K : Int32 → Mm → Prop) : Prop := (T_X12_readTold (19 : Int32) (0 : Int32) ((M 159 7) - (1 : Int32)) M (fun r12 M11 => ((r12 = (-1 : Int32) → (K (-1 : Int32) M11)) ∧ (¬ r12 = (-1 : Int32) → (T_X12_isWord (20 : Int32) M11 (fun r16 M15 => ((r16 = 0 → (T_X12_errs (1 : Int32) M15 (fun r27 M26 => (K r27 M26)))) ∧ (¬ r16 = 0 → (T_X12_reads M15 (fun M19 => (((M19 159 18) = (3 : Int32) → (((M19 159 19) = r12 → (T_X12_errs (2 : Int32) M19 (fun r24 M23 => (K r24 M23)))) ∧ (¬ (M19 159 19) = r12 → (T_X12_readFollow_62 r12 M19 K)))) ∧ (¬ (M19 159 18) = (3 : Int32) → (T_X12_readFollow_62 r12 M19 K)))))))))))))
set_option maxHeartbeats 4000000 in
set_option maxRecDepth 100000 in
theorem c_X12_readFollow (l : Launch) (G : fx_G) {M : Mm} {K : Int32 → Mm → Prop} (hT : T_X12_readFollow M K) : Met l yX12_readFollow (fx_ws yX12_readFollow cX12_readFollow 3 (some .int)) (fx_rm (5)) (va_Pc [.ref (G.2.2.2 + 159)] (fx_P G SH M)) (va_Qi K (fx_R G SH) (fx_A G)) 0 0 (fx_A G) := by
  refine fx_met (own := RX12) (by decide +kernel) rfl (Nat.le_of_ble_eq_true rfl) (fun p e s m below meth c X hr hk h ls hl => ?_)
  obtain ⟨⟨hx, hb, hml, hown, hts⟩, hK, hQ⟩ := id X
  have hl : lv_has ls 3 [(0, .ref (G.2.2.2 + 159))] := hl
  unfold T_X12_readFollow at hT
  refine lv_aload_n hx hb dX12_readFollow_0 rfl (lv_at hl 0 rfl) ?_
  refine lv_bipush (v := 19) hx hb dX12_readFollow_1 (by decide) ?_
  refine lv_iconst (v := 0) hx hb dX12_readFollow_3 (by decide) ?_
  refine lv_aload_n hx hb dX12_readFollow_4 rfl (lv_at hl 0 rfl) ?_
  refine fx_getI X h (k := 159) (j := 7) sh_159 rfl fl_RX12_150 dX12_readFollow_5 ?_
  refine lv_iconst (v := 1) hx hb dX12_readFollow_8 (by decide) ?_
  refine lv_isub hx hb dX12_readFollow_9 ?_
  refine fx_vi X h ym_X12_readTold yi_X12_readTold ys_X12_readTold (fx_s7 (List.mem_of_getElem? (i := 161) rfl) rfl) sh_159 rfl (c_X12_readTold l G hT) (As := [.int (19 : Int32), .int (0 : Int32), .int ((M 159 7) - (1 : Int32))]) (rest := []) rfl rfl ⟨Nat.le_of_ble_eq_true rfl, Nat.le_of_ble_eq_true rfl⟩ ⟨Nat.le_refl _, Nat.le_refl _⟩ hl.1 (Nat.le_of_ble_eq_true rfl) dX12_readFollow_10 (fun r12 M11 H locs hT h => ?_)
  refine lv_istore_n (lv' := [(1, .int r12), (0, .ref (G.2.2.2 + 159))]) hx hb dX12_readFollow_13 rfl hl (by decide) rfl (fun ls hl => ?_)
  refine lv_iload_n hx hb dX12_readFollow_14 rfl (lv_at hl 0 rfl) ?_
  refine lv_iconst (v := -1) hx hb dX12_readFollow_15 (by decide) ?_
  refine lv_icmp_ne (tgt := 21) hx hb dX12_readFollow_16 (by decide) (fun hc13 => ?_) (fun hc13 => ?_)
  · have hT := hT.2 hc13
    refine lv_aload_n hx hb dX12_readFollow_21 rfl (lv_at hl 1 rfl) ?_
    refine lv_bipush (v := 20) hx hb dX12_readFollow_22 (by decide) ?_
    refine fx_vi X h ym_X12_isWord yi_X12_isWord ys_X12_isWord (fx_s7 (List.mem_of_getElem? (i := 149) rfl) rfl) sh_159 rfl (c_X12_isWord l G hT) (As := [.int (20 : Int32)]) (rest := []) rfl rfl ⟨Nat.le_of_ble_eq_true rfl, Nat.le_of_ble_eq_true rfl⟩ ⟨Nat.le_refl _, Nat.le_refl _⟩ hl.1 (Nat.le_of_ble_eq_true rfl) dX12_readFollow_24 (fun r16 M15 H locs hT h => ?_)
    refine lv_if_ne (tgt := 36) hx hb dX12_readFollow_27 (by decide) (fun hc17 => ?_) (fun hc17 => ?_)
    · have hT := hT.2 hc17
      refine lv_aload_n hx hb dX12_readFollow_36 rfl (lv_at hl 1 rfl) ?_
      refine fx_vv X h ym_X12_reads yi_X12_reads ys_X12_reads (fx_s7 (List.mem_of_getElem? (i := 121) rfl) rfl) sh_159 rfl (c_X12_reads l G hT) (As := []) (rest := []) rfl rfl ⟨Nat.le_of_ble_eq_true rfl, Nat.le_of_ble_eq_true rfl⟩ ⟨Nat.le_refl _, Nat.le_refl _⟩ hl.1 (Nat.le_of_ble_eq_true rfl) dX12_readFollow_37 (fun M19 H locs hT h => ?_)
      refine lv_aload_n hx hb dX12_readFollow_40 rfl (lv_at hl 1 rfl) ?_
      refine fx_getI X h (k := 159) (j := 18) sh_159 rfl fl_RX12_188 dX12_readFollow_41 ?_
      refine lv_iconst (v := 3) hx hb dX12_readFollow_44 (by decide) ?_
      refine lv_icmp_ne (tgt := 62) hx hb dX12_readFollow_45 (by decide) (fun hc20 => ?_) (fun hc20 => ?_)
      · have hT := hT.2 hc20
        exact w_X12_readFollow_62 X hr hk r12 M19 _ _ ls hT h (lv_sub hl [1, 0] rfl)
      · have hT := hT.1 hc20
        refine lv_aload_n hx hb dX12_readFollow_48 rfl (lv_at hl 1 rfl) ?_
        refine fx_getI X h (k := 159) (j := 19) sh_159 rfl fl_RX12_191 dX12_readFollow_49 ?_
        refine lv_iload_n hx hb dX12_readFollow_52 rfl (lv_at hl 0 rfl) ?_
        refine lv_icmp_ne (tgt := 62) hx hb dX12_readFollow_53 (by decide) (fun hc21 => ?_) (fun hc21 => ?_)
        · have hT := hT.2 hc21
          exact w_X12_readFollow_62 X hr hk r12 M19 _ _ ls hT h (lv_sub hl [1, 0] rfl)
        · have hT := hT.1 hc21
          refine lv_aload_n hx hb dX12_readFollow_56 rfl (lv_at hl 1 rfl) ?_
          refine lv_iconst (v := 2) hx hb dX12_readFollow_57 (by decide) ?_
          refine fx_vi X h ym_X12_errs yi_X12_errs ys_X12_errs (fx_s7 (List.mem_of_getElem? (i := 153) rfl) rfl) sh_159 rfl (c_X12_errs l G hT) (As := [.int (2 : Int32)]) (rest := []) rfl rfl ⟨Nat.le_of_ble_eq_true rfl, Nat.le_of_ble_eq_true rfl⟩ ⟨Nat.le_refl _, Nat.le_refl _⟩ hl.1 (Nat.le_of_ble_eq_true rfl) dX12_readFollow_58 (fun r24 M23 H locs hT h => ?_)
          exact fx_iret X hr hk h hT dX12_readFollow_61
    · have hT := hT.1 hc17
      refine lv_aload_n hx hb dX12_readFollow_30 rfl (lv_at hl 1 rfl) ?_
      refine lv_iconst (v := 1) hx hb dX12_readFollow_31 (by decide) ?_
      refine fx_vi X h ym_X12_errs yi_X12_errs ys_X12_errs (fx_s7 (List.mem_of_getElem? (i := 153) rfl) rfl) sh_159 rfl (c_X12_errs l G hT) (As := [.int (1 : Int32)]) (rest := []) rfl rfl ⟨Nat.le_of_ble_eq_true rfl, Nat.le_of_ble_eq_true rfl⟩ ⟨Nat.le_refl _, Nat.le_refl _⟩ hl.1 (Nat.le_of_ble_eq_true rfl) dX12_readFollow_32 (fun r27 M26 H locs hT h => ?_)
      exact fx_iret X hr hk h hT dX12_readFollow_35
  · have hT := hT.1 hc13
    refine lv_iconst (v := -1) hx hb dX12_readFollow_19 (by decide) ?_
    exact fx_iret X hr hk h hT dX12_readFollow_20
/-! MockParcelsModel.readFollows()I -/
theorem dX12_readFollows_0 : decode cX12_readFollows 0 = .ok (.iconst 0, 1) := by decide +kernel
theorem dX12_readFollows_1 : decode cX12_readFollows 1 = .ok (.istore_n 1, 1) := by decide +kernel
theorem dX12_readFollows_2 : decode cX12_readFollows 2 = .ok (.iload_n 1, 1) := by decide +kernel
theorem dX12_readFollows_3 : decode cX12_readFollows 3 = .ok (.bipush 8, 2) := by decide +kernel
theorem dX12_readFollows_5 : decode cX12_readFollows 5 = .ok (.if_icmp .ge 19, 3) := by decide +kernel
theorem dX12_readFollows_8 : decode cX12_readFollows 8 = .ok (.aload_n 0, 1) := by decide +kernel
theorem dX12_readFollows_9 : decode cX12_readFollows 9 = .ok (.getfield 71, 3) := by decide +kernel
theorem dX12_readFollows_12 : decode cX12_readFollows 12 = .ok (.bipush 8, 2) := by decide +kernel
theorem dX12_readFollows_14 : decode cX12_readFollows 14 = .ok (.iload_n 1, 1) := by decide +kernel
theorem dX12_readFollows_15 : decode cX12_readFollows 15 = .ok (.iadd, 1) := by decide +kernel
theorem dX12_readFollows_16 : decode cX12_readFollows 16 = .ok (.iconst 0, 1) := by decide +kernel
theorem dX12_readFollows_17 : decode cX12_readFollows 17 = .ok (.iastore, 1) := by decide +kernel
theorem dX12_readFollows_18 : decode cX12_readFollows 18 = .ok (.iinc 1 1, 3) := by decide +kernel
theorem dX12_readFollows_21 : decode cX12_readFollows 21 = .ok (.goto (-19), 3) := by decide +kernel
theorem dX12_readFollows_24 : decode cX12_readFollows 24 = .ok (.iconst 0, 1) := by decide +kernel
theorem dX12_readFollows_25 : decode cX12_readFollows 25 = .ok (.istore_n 1, 1) := by decide +kernel
theorem dX12_readFollows_26 : decode cX12_readFollows 26 = .ok (.aload_n 0, 1) := by decide +kernel
theorem dX12_readFollows_27 : decode cX12_readFollows 27 = .ok (.bipush 19, 2) := by decide +kernel
theorem dX12_readFollows_29 : decode cX12_readFollows 29 = .ok (.invokevirtual 247, 3) := by decide +kernel
theorem dX12_readFollows_32 : decode cX12_readFollows 32 = .ok (.ifCond .eq 32, 3) := by decide +kernel
theorem dX12_readFollows_35 : decode cX12_readFollows 35 = .ok (.iload_n 1, 1) := by decide +kernel
theorem dX12_readFollows_36 : decode cX12_readFollows 36 = .ok (.bipush 16, 2) := by decide +kernel
theorem dX12_readFollows_38 : decode cX12_readFollows 38 = .ok (.if_icmp .ne 9, 3) := by decide +kernel
theorem dX12_readFollows_41 : decode cX12_readFollows 41 = .ok (.aload_n 0, 1) := by decide +kernel
theorem dX12_readFollows_42 : decode cX12_readFollows 42 = .ok (.iconst 3, 1) := by decide +kernel
theorem dX12_readFollows_43 : decode cX12_readFollows 43 = .ok (.invokevirtual 218, 3) := by decide +kernel
theorem dX12_readFollows_46 : decode cX12_readFollows 46 = .ok (.ireturn, 1) := by decide +kernel
theorem dX12_readFollows_47 : decode cX12_readFollows 47 = .ok (.aload_n 0, 1) := by decide +kernel
theorem dX12_readFollows_48 : decode cX12_readFollows 48 = .ok (.invokevirtual 279, 3) := by decide +kernel
theorem dX12_readFollows_51 : decode cX12_readFollows 51 = .ok (.iconst (-1), 1) := by decide +kernel
theorem dX12_readFollows_52 : decode cX12_readFollows 52 = .ok (.if_icmp .ne 5, 3) := by decide +kernel
theorem dX12_readFollows_55 : decode cX12_readFollows 55 = .ok (.iconst (-1), 1) := by decide +kernel
theorem dX12_readFollows_56 : decode cX12_readFollows 56 = .ok (.ireturn, 1) := by decide +kernel
theorem dX12_readFollows_57 : decode cX12_readFollows 57 = .ok (.iload_n 1, 1) := by decide +kernel
theorem dX12_readFollows_58 : decode cX12_readFollows 58 = .ok (.iconst 1, 1) := by decide +kernel
theorem dX12_readFollows_59 : decode cX12_readFollows 59 = .ok (.iadd, 1) := by decide +kernel
theorem dX12_readFollows_60 : decode cX12_readFollows 60 = .ok (.istore_n 1, 1) := by decide +kernel
theorem dX12_readFollows_61 : decode cX12_readFollows 61 = .ok (.goto (-35), 3) := by decide +kernel
theorem dX12_readFollows_64 : decode cX12_readFollows 64 = .ok (.aload_n 0, 1) := by decide +kernel
theorem dX12_readFollows_65 : decode cX12_readFollows 65 = .ok (.getfield 188, 3) := by decide +kernel
theorem dX12_readFollows_68 : decode cX12_readFollows 68 = .ok (.ifCond .ne 7, 3) := by decide +kernel
theorem dX12_readFollows_71 : decode cX12_readFollows 71 = .ok (.iload_n 1, 1) := by decide +kernel
theorem dX12_readFollows_72 : decode cX12_readFollows 72 = .ok (.goto 8, 3) := by decide +kernel
theorem dX12_readFollows_75 : decode cX12_readFollows 75 = .ok (.aload_n 0, 1) := by decide +kernel
theorem dX12_readFollows_76 : decode cX12_readFollows 76 = .ok (.iconst 1, 1) := by decide +kernel
theorem dX12_readFollows_77 : decode cX12_readFollows 77 = .ok (.invokevirtual 218, 3) := by decide +kernel
theorem dX12_readFollows_80 : decode cX12_readFollows 80 = .ok (.ireturn, 1) := by decide +kernel
def T_X12_readFollows_26 : Nat → Int32 → Mm → (Int32 → Mm → Prop) → Prop
  | 0, _, _, _ => False
  | n + 1, x1, M, K => (T_X12_isWord (19 : Int32) M (fun r3 M2 => ((r3 = 0 → (((M2 159 18) = 0 → (K x1 M2)) ∧ (¬ (M2 159 18) = 0 → (T_X12_errs (1 : Int32) M2 (fun r8 M7 => (K r8 M7)))))) ∧ (¬ r3 = 0 → ((x1 = (16 : Int32) → (T_X12_errs (3 : Int32) M2 (fun r17 M16 => (K r17 M16)))) ∧ (¬ x1 = (16 : Int32) → (T_X12_readFollow M2 (fun r12 M11 => ((r12 = (-1 : Int32) → (K (-1 : Int32) M11)) ∧ (¬ r12 = (-1 : Int32) → (∀ y14 : Int32, y14 = (x1 + (1 : Int32)) → (T_X12_readFollows_26 n y14 M11 K))))))))))))
set_option maxHeartbeats 4000000 in
set_option maxRecDepth 100000 in
theorem w_X12_readFollows_26 {p : Program} {l : Launch} {e : Env} {s : State} {m : MethodId} {args : Array Value} {below : List Frame} {meth : Method} {c : Code} {G : fx_G} {K : Int32 → Mm → Prop} (X : fx_C G p s m c args cX12_readFollows 2 RX12) (hr : meth.sig.returnType = (some .int)) (hk : meth.locks = false) : ∀ (n : Nat) (x1 : Int32) (M : Mm) (H : Heap) (locs : List Loc) (ls : Array Slot), T_X12_readFollows_26 n x1 M K → fx_H G SH M s H locs → lv_has ls 2 [(0, .ref (G.2.2.2 + 159)), (1, .int x1)] → W p l e (fx_rm (6)) s m args below meth c H locs 0 0 (MQ below (va_Qi K (fx_R G SH) (fx_A G)) args s 0 0 (fx_A G)) (F0 m 26 ls []) := by
  obtain ⟨⟨hx, hb, hml, hown, hts⟩, hK, hQ⟩ := id X
  intro n
  induction n with
  | zero =>
    intro x1 M H locs ls hT
    exact hT.elim
  | succ n ih =>
    intro x1 M H locs ls hT h hl
    rw [T_X12_readFollows_26] at hT
    refine lv_aload_n hx hb dX12_readFollows_26 rfl (lv_at hl 0 rfl) ?_
    refine lv_bipush (v := 19) hx hb dX12_readFollows_27 (by decide) ?_
    refine fx_vi X h ym_X12_isWord yi_X12_isWord ys_X12_isWord (fx_s7 (List.mem_of_getElem? (i := 149) rfl) rfl) sh_159 rfl (c_X12_isWord l G hT) (As := [.int (19 : Int32)]) (rest := []) rfl rfl ⟨Nat.le_of_ble_eq_true rfl, Nat.le_of_ble_eq_true rfl⟩ ⟨Nat.le_refl _, Nat.le_refl _⟩ hl.1 (Nat.le_of_ble_eq_true rfl) dX12_readFollows_29 (fun r3 M2 H locs hT h => ?_)
    refine lv_if_eq (tgt := 64) hx hb dX12_readFollows_32 (by decide) (fun hc4 => ?_) (fun hc4 => ?_)
    · have hT := hT.1 hc4
      refine lv_aload_n hx hb dX12_readFollows_64 rfl (lv_at hl 0 rfl) ?_
      refine fx_getI X h (k := 159) (j := 18) sh_159 rfl fl_RX12_188 dX12_readFollows_65 ?_
      refine lv_if_ne (tgt := 75) hx hb dX12_readFollows_68 (by decide) (fun hc5 => ?_) (fun hc5 => ?_)
      · have hT := hT.2 hc5
        refine lv_aload_n hx hb dX12_readFollows_75 rfl (lv_at hl 0 rfl) ?_
        refine lv_iconst (v := 1) hx hb dX12_readFollows_76 (by decide) ?_
        refine fx_vi X h ym_X12_errs yi_X12_errs ys_X12_errs (fx_s7 (List.mem_of_getElem? (i := 153) rfl) rfl) sh_159 rfl (c_X12_errs l G hT) (As := [.int (1 : Int32)]) (rest := []) rfl rfl ⟨Nat.le_of_ble_eq_true rfl, Nat.le_of_ble_eq_true rfl⟩ ⟨Nat.le_refl _, Nat.le_refl _⟩ hl.1 (Nat.le_of_ble_eq_true rfl) dX12_readFollows_77 (fun r8 M7 H locs hT h => ?_)
        exact fx_iret X hr hk h hT dX12_readFollows_80
      · have hT := hT.1 hc5
        refine lv_iload_n hx hb dX12_readFollows_71 rfl (lv_at hl 1 rfl) ?_
        refine lv_goto (tgt := 80) hx hb dX12_readFollows_72 (by decide) ?_
        exact fx_iret X hr hk h hT dX12_readFollows_80
    · have hT := hT.2 hc4
      refine lv_iload_n hx hb dX12_readFollows_35 rfl (lv_at hl 1 rfl) ?_
      refine lv_bipush (v := 16) hx hb dX12_readFollows_36 (by decide) ?_
      refine lv_icmp_ne (tgt := 47) hx hb dX12_readFollows_38 (by decide) (fun hc9 => ?_) (fun hc9 => ?_)
      · have hT := hT.2 hc9
        refine lv_aload_n hx hb dX12_readFollows_47 rfl (lv_at hl 0 rfl) ?_
        refine fx_vi X h ym_X12_readFollow yi_X12_readFollow ys_X12_readFollow (fx_s7 (List.mem_of_getElem? (i := 157) rfl) rfl) sh_159 rfl (c_X12_readFollow l G hT) (As := []) (rest := []) rfl rfl ⟨Nat.le_of_ble_eq_true rfl, Nat.le_of_ble_eq_true rfl⟩ ⟨Nat.le_refl _, Nat.le_refl _⟩ hl.1 (Nat.le_of_ble_eq_true rfl) dX12_readFollows_48 (fun r12 M11 H locs hT h => ?_)
        refine lv_iconst (v := -1) hx hb dX12_readFollows_51 (by decide) ?_
        refine lv_icmp_ne (tgt := 57) hx hb dX12_readFollows_52 (by decide) (fun hc13 => ?_) (fun hc13 => ?_)
        · have hT := hT.2 hc13
          refine lv_iload_n hx hb dX12_readFollows_57 rfl (lv_at hl 1 rfl) ?_
          refine lv_iconst (v := 1) hx hb dX12_readFollows_58 (by decide) ?_
          refine lv_iadd hx hb dX12_readFollows_59 ?_
          refine lv_topi (fun y14 ey14 => ?_)
          have hT := hT y14 ey14
          refine lv_istore_n (lv' := [(1, .int y14), (0, .ref (G.2.2.2 + 159))]) hx hb dX12_readFollows_60 rfl hl (by decide) rfl (fun ls hl => ?_)
          refine lv_goto (tgt := 26) hx hb dX12_readFollows_61 (by decide) ?_
          exact ih y14 M11 _ _ ls hT h (lv_sub hl [1, 0] rfl)
        · have hT := hT.1 hc13
          refine lv_iconst (v := -1) hx hb dX12_readFollows_55 (by decide) ?_
          exact fx_iret X hr hk h hT dX12_readFollows_56
      · have hT := hT.1 hc9
        refine lv_aload_n hx hb dX12_readFollows_41 rfl (lv_at hl 0 rfl) ?_
        refine lv_iconst (v := 3) hx hb dX12_readFollows_42 (by decide) ?_
        refine fx_vi X h ym_X12_errs yi_X12_errs ys_X12_errs (fx_s7 (List.mem_of_getElem? (i := 153) rfl) rfl) sh_159 rfl (c_X12_errs l G hT) (As := [.int (3 : Int32)]) (rest := []) rfl rfl ⟨Nat.le_of_ble_eq_true rfl, Nat.le_of_ble_eq_true rfl⟩ ⟨Nat.le_refl _, Nat.le_refl _⟩ hl.1 (Nat.le_of_ble_eq_true rfl) dX12_readFollows_43 (fun r17 M16 H locs hT h => ?_)
        exact fx_iret X hr hk h hT dX12_readFollows_46
def T_X12_readFollows_2 : Nat → Int32 → Mm → (Int32 → Mm → Prop) → Prop
  | 0, _, _, _ => False
  | n + 1, x1, M, K => (((8 : Int32) ≤ x1 → (T_X12_readFollows_26 5000 (0 : Int32) M K)) ∧ (¬ (8 : Int32) ≤ x1 → (vp_in ((8 : Int32) + x1) 16 ∧ (∀ M19 : Mm, M19 = m_up M 179 (((8 : Int32) + x1)).toNatClampNeg (0 : Int32) → (∀ y21 : Int32, y21 = x1 + (1 : Int32) → (T_X12_readFollows_2 n y21 M19 K))))))
set_option maxHeartbeats 4000000 in
set_option maxRecDepth 100000 in
theorem w_X12_readFollows_2 {p : Program} {l : Launch} {e : Env} {s : State} {m : MethodId} {args : Array Value} {below : List Frame} {meth : Method} {c : Code} {G : fx_G} {K : Int32 → Mm → Prop} (X : fx_C G p s m c args cX12_readFollows 2 RX12) (hr : meth.sig.returnType = (some .int)) (hk : meth.locks = false) : ∀ (n : Nat) (x1 : Int32) (M : Mm) (H : Heap) (locs : List Loc) (ls : Array Slot), T_X12_readFollows_2 n x1 M K → fx_H G SH M s H locs → lv_has ls 2 [(0, .ref (G.2.2.2 + 159)), (1, .int x1)] → W p l e (fx_rm (6)) s m args below meth c H locs 0 0 (MQ below (va_Qi K (fx_R G SH) (fx_A G)) args s 0 0 (fx_A G)) (F0 m 2 ls []) := by
  obtain ⟨⟨hx, hb, hml, hown, hts⟩, hK, hQ⟩ := id X
  intro n
  induction n with
  | zero =>
    intro x1 M H locs ls hT
    exact hT.elim
  | succ n ih =>
    intro x1 M H locs ls hT h hl
    rw [T_X12_readFollows_2] at hT
    refine lv_iload_n hx hb dX12_readFollows_2 rfl (lv_at hl 1 rfl) ?_
    refine lv_bipush (v := 8) hx hb dX12_readFollows_3 (by decide) ?_
    refine lv_icmp_ge (tgt := 24) hx hb dX12_readFollows_5 (by decide) (fun hc18 => ?_) (fun hc18 => ?_)
    · have hT := hT.1 hc18
      refine lv_iconst (v := 0) hx hb dX12_readFollows_24 (by decide) ?_
      refine lv_istore_n (lv' := [(1, .int (0 : Int32)), (0, .ref (G.2.2.2 + 159))]) hx hb dX12_readFollows_25 rfl hl (by decide) rfl (fun ls hl => ?_)
      exact w_X12_readFollows_26 X hr hk 5000 (0 : Int32) M _ _ ls hT h (lv_sub hl [1, 0] rfl)
    · have hT := hT.2 hc18
      refine lv_aload_n hx hb dX12_readFollows_8 rfl (lv_at hl 0 rfl) ?_
      refine fx_getR X h (k := 159) (j := 38) (r := 179) sh_159 rfl fl_RX12_71 dX12_readFollows_9 ?_
      refine lv_bipush (v := 8) hx hb dX12_readFollows_12 (by decide) ?_
      refine lv_iload_n hx hb dX12_readFollows_14 rfl (lv_at hl 1 rfl) ?_
      refine lv_iadd hx hb dX12_readFollows_15 ?_
      refine lv_iconst (v := 0) hx hb dX12_readFollows_16 (by decide) ?_
      obtain ⟨hi20, hT⟩ := hT
      refine fx_iast X h (k := 179) sh_179 hi20 dX12_readFollows_17 (fun H locs h => ?_)
      obtain ⟨M19, eM19⟩ : ∃ z : Mm, z = m_up M 179 (((8 : Int32) + x1)).toNatClampNeg (0 : Int32) := ⟨_, rfl⟩
      have hT := hT M19 eM19
      rw [← eM19] at h
      obtain ⟨y21, ey21⟩ : ∃ z : Int32, z = x1 + (1 : Int32) := ⟨_, rfl⟩
      have hT := hT y21 ey21
      refine lv_iinc (v := y21) (lv' := [(1, .int y21), (0, .ref (G.2.2.2 + 159))]) hx hb dX12_readFollows_18 hl (k := 1) rfl (by rw [ey21]; rfl) (by decide) rfl (fun ls hl => ?_)
      refine lv_goto (tgt := 2) hx hb dX12_readFollows_21 (by decide) ?_
      exact ih y21 M19 _ _ ls hT h (lv_sub hl [1, 0] rfl)
def T_X12_readFollows (M : Mm) (K : Int32 → Mm → Prop) : Prop := (T_X12_readFollows_2 5000 (0 : Int32) M K)
set_option maxHeartbeats 4000000 in
set_option maxRecDepth 100000 in
theorem c_X12_readFollows (l : Launch) (G : fx_G) {M : Mm} {K : Int32 → Mm → Prop} (hT : T_X12_readFollows M K) : Met l yX12_readFollows (fx_ws yX12_readFollows cX12_readFollows 2 (some .int)) (fx_rm (6)) (va_Pc [.ref (G.2.2.2 + 159)] (fx_P G SH M)) (va_Qi K (fx_R G SH) (fx_A G)) 0 0 (fx_A G) := by
  refine fx_met (own := RX12) (by decide +kernel) rfl (Nat.le_of_ble_eq_true rfl) (fun p e s m below meth c X hr hk h ls hl => ?_)
  obtain ⟨⟨hx, hb, hml, hown, hts⟩, hK, hQ⟩ := id X
  have hl : lv_has ls 2 [(0, .ref (G.2.2.2 + 159))] := hl
  unfold T_X12_readFollows at hT
  refine lv_iconst (v := 0) hx hb dX12_readFollows_0 (by decide) ?_
  refine lv_istore_n (lv' := [(1, .int (0 : Int32)), (0, .ref (G.2.2.2 + 159))]) hx hb dX12_readFollows_1 rfl hl (by decide) rfl (fun ls hl => ?_)
  exact w_X12_readFollows_2 X hr hk 5000 (0 : Int32) M _ _ ls hT h (lv_sub hl [1, 0] rfl)
/-! MockParcelsModel.kindOfDeed()I -/
theorem dX12_kindOfDeed_0 : decode cX12_kindOfDeed 0 = .ok (.aload_n 0, 1) := by decide +kernel
theorem dX12_kindOfDeed_1 : decode cX12_kindOfDeed 1 = .ok (.bipush 22, 2) := by decide +kernel
theorem dX12_kindOfDeed_3 : decode cX12_kindOfDeed 3 = .ok (.invokevirtual 247, 3) := by decide +kernel
theorem dX12_kindOfDeed_6 : decode cX12_kindOfDeed 6 = .ok (.ifCond .eq 5, 3) := by decide +kernel
theorem dX12_kindOfDeed_9 : decode cX12_kindOfDeed 9 = .ok (.iconst 0, 1) := by decide +kernel
theorem dX12_kindOfDeed_10 : decode cX12_kindOfDeed 10 = .ok (.ireturn, 1) := by decide +kernel
theorem dX12_kindOfDeed_11 : decode cX12_kindOfDeed 11 = .ok (.aload_n 0, 1) := by decide +kernel
theorem dX12_kindOfDeed_12 : decode cX12_kindOfDeed 12 = .ok (.bipush 16, 2) := by decide +kernel
theorem dX12_kindOfDeed_14 : decode cX12_kindOfDeed 14 = .ok (.invokevirtual 247, 3) := by decide +kernel
theorem dX12_kindOfDeed_17 : decode cX12_kindOfDeed 17 = .ok (.ifCond .eq 5, 3) := by decide +kernel
theorem dX12_kindOfDeed_20 : decode cX12_kindOfDeed 20 = .ok (.iconst 1, 1) := by decide +kernel
theorem dX12_kindOfDeed_21 : decode cX12_kindOfDeed 21 = .ok (.ireturn, 1) := by decide +kernel
theorem dX12_kindOfDeed_22 : decode cX12_kindOfDeed 22 = .ok (.aload_n 0, 1) := by decide +kernel
theorem dX12_kindOfDeed_23 : decode cX12_kindOfDeed 23 = .ok (.bipush 15, 2) := by decide +kernel
theorem dX12_kindOfDeed_25 : decode cX12_kindOfDeed 25 = .ok (.invokevirtual 247, 3) := by decide +kernel
theorem dX12_kindOfDeed_28 : decode cX12_kindOfDeed 28 = .ok (.ifCond .eq 5, 3) := by decide +kernel
theorem dX12_kindOfDeed_31 : decode cX12_kindOfDeed 31 = .ok (.iconst 2, 1) := by decide +kernel
theorem dX12_kindOfDeed_32 : decode cX12_kindOfDeed 32 = .ok (.ireturn, 1) := by decide +kernel
theorem dX12_kindOfDeed_33 : decode cX12_kindOfDeed 33 = .ok (.aload_n 0, 1) := by decide +kernel
theorem dX12_kindOfDeed_34 : decode cX12_kindOfDeed 34 = .ok (.bipush 23, 2) := by decide +kernel
theorem dX12_kindOfDeed_36 : decode cX12_kindOfDeed 36 = .ok (.invokevirtual 247, 3) := by decide +kernel
theorem dX12_kindOfDeed_39 : decode cX12_kindOfDeed 39 = .ok (.ifCond .eq 5, 3) := by decide +kernel
theorem dX12_kindOfDeed_42 : decode cX12_kindOfDeed 42 = .ok (.iconst 3, 1) := by decide +kernel
theorem dX12_kindOfDeed_43 : decode cX12_kindOfDeed 43 = .ok (.ireturn, 1) := by decide +kernel
theorem dX12_kindOfDeed_44 : decode cX12_kindOfDeed 44 = .ok (.aload_n 0, 1) := by decide +kernel
theorem dX12_kindOfDeed_45 : decode cX12_kindOfDeed 45 = .ok (.bipush 24, 2) := by decide +kernel
theorem dX12_kindOfDeed_47 : decode cX12_kindOfDeed 47 = .ok (.invokevirtual 247, 3) := by decide +kernel
theorem dX12_kindOfDeed_50 : decode cX12_kindOfDeed 50 = .ok (.ifCond .eq 7, 3) := by decide +kernel
theorem dX12_kindOfDeed_53 : decode cX12_kindOfDeed 53 = .ok (.iconst 4, 1) := by decide +kernel
theorem dX12_kindOfDeed_54 : decode cX12_kindOfDeed 54 = .ok (.goto 17, 3) := by decide +kernel
theorem dX12_kindOfDeed_57 : decode cX12_kindOfDeed 57 = .ok (.aload_n 0, 1) := by decide +kernel
theorem dX12_kindOfDeed_58 : decode cX12_kindOfDeed 58 = .ok (.bipush 25, 2) := by decide +kernel
theorem dX12_kindOfDeed_60 : decode cX12_kindOfDeed 60 = .ok (.invokevirtual 247, 3) := by decide +kernel
theorem dX12_kindOfDeed_63 : decode cX12_kindOfDeed 63 = .ok (.ifCond .eq 7, 3) := by decide +kernel
theorem dX12_kindOfDeed_66 : decode cX12_kindOfDeed 66 = .ok (.iconst 5, 1) := by decide +kernel
theorem dX12_kindOfDeed_67 : decode cX12_kindOfDeed 67 = .ok (.goto 4, 3) := by decide +kernel
theorem dX12_kindOfDeed_70 : decode cX12_kindOfDeed 70 = .ok (.iconst (-1), 1) := by decide +kernel
theorem dX12_kindOfDeed_71 : decode cX12_kindOfDeed 71 = .ok (.ireturn, 1) := by decide +kernel
def T_X12_kindOfDeed (M : Mm) (K : Int32 → Mm → Prop) : Prop := (T_X12_isWord (22 : Int32) M (fun r3 M2 => ((r3 = 0 → (T_X12_isWord (16 : Int32) M2 (fun r7 M6 => ((r7 = 0 → (T_X12_isWord (15 : Int32) M6 (fun r11 M10 => ((r11 = 0 → (T_X12_isWord (23 : Int32) M10 (fun r15 M14 => ((r15 = 0 → (T_X12_isWord (24 : Int32) M14 (fun r19 M18 => ((r19 = 0 → (T_X12_isWord (25 : Int32) M18 (fun r23 M22 => ((r23 = 0 → (K (-1 : Int32) M22)) ∧ (¬ r23 = 0 → (K (5 : Int32) M22)))))) ∧ (¬ r19 = 0 → (K (4 : Int32) M18)))))) ∧ (¬ r15 = 0 → (K (3 : Int32) M14)))))) ∧ (¬ r11 = 0 → (K (2 : Int32) M10)))))) ∧ (¬ r7 = 0 → (K (1 : Int32) M6)))))) ∧ (¬ r3 = 0 → (K (0 : Int32) M2)))))
set_option maxHeartbeats 4000000 in
set_option maxRecDepth 100000 in
theorem c_X12_kindOfDeed (l : Launch) (G : fx_G) {M : Mm} {K : Int32 → Mm → Prop} (hT : T_X12_kindOfDeed M K) : Met l yX12_kindOfDeed (fx_ws yX12_kindOfDeed cX12_kindOfDeed 1 (some .int)) (fx_rm (1)) (va_Pc [.ref (G.2.2.2 + 159)] (fx_P G SH M)) (va_Qi K (fx_R G SH) (fx_A G)) 0 0 (fx_A G) := by
  refine fx_met (own := RX12) (by decide +kernel) rfl (Nat.le_of_ble_eq_true rfl) (fun p e s m below meth c X hr hk h ls hl => ?_)
  obtain ⟨⟨hx, hb, hml, hown, hts⟩, hK, hQ⟩ := id X
  have hl : lv_has ls 1 [(0, .ref (G.2.2.2 + 159))] := hl
  unfold T_X12_kindOfDeed at hT
  refine lv_aload_n hx hb dX12_kindOfDeed_0 rfl (lv_at hl 0 rfl) ?_
  refine lv_bipush (v := 22) hx hb dX12_kindOfDeed_1 (by decide) ?_
  refine fx_vi X h ym_X12_isWord yi_X12_isWord ys_X12_isWord (fx_s7 (List.mem_of_getElem? (i := 149) rfl) rfl) sh_159 rfl (c_X12_isWord l G hT) (As := [.int (22 : Int32)]) (rest := []) rfl rfl ⟨Nat.le_of_ble_eq_true rfl, Nat.le_of_ble_eq_true rfl⟩ ⟨Nat.le_refl _, Nat.le_refl _⟩ hl.1 (Nat.le_of_ble_eq_true rfl) dX12_kindOfDeed_3 (fun r3 M2 H locs hT h => ?_)
  refine lv_if_eq (tgt := 11) hx hb dX12_kindOfDeed_6 (by decide) (fun hc4 => ?_) (fun hc4 => ?_)
  · have hT := hT.1 hc4
    refine lv_aload_n hx hb dX12_kindOfDeed_11 rfl (lv_at hl 0 rfl) ?_
    refine lv_bipush (v := 16) hx hb dX12_kindOfDeed_12 (by decide) ?_
    refine fx_vi X h ym_X12_isWord yi_X12_isWord ys_X12_isWord (fx_s7 (List.mem_of_getElem? (i := 149) rfl) rfl) sh_159 rfl (c_X12_isWord l G hT) (As := [.int (16 : Int32)]) (rest := []) rfl rfl ⟨Nat.le_of_ble_eq_true rfl, Nat.le_of_ble_eq_true rfl⟩ ⟨Nat.le_refl _, Nat.le_refl _⟩ hl.1 (Nat.le_of_ble_eq_true rfl) dX12_kindOfDeed_14 (fun r7 M6 H locs hT h => ?_)
    refine lv_if_eq (tgt := 22) hx hb dX12_kindOfDeed_17 (by decide) (fun hc8 => ?_) (fun hc8 => ?_)
    · have hT := hT.1 hc8
      refine lv_aload_n hx hb dX12_kindOfDeed_22 rfl (lv_at hl 0 rfl) ?_
      refine lv_bipush (v := 15) hx hb dX12_kindOfDeed_23 (by decide) ?_
      refine fx_vi X h ym_X12_isWord yi_X12_isWord ys_X12_isWord (fx_s7 (List.mem_of_getElem? (i := 149) rfl) rfl) sh_159 rfl (c_X12_isWord l G hT) (As := [.int (15 : Int32)]) (rest := []) rfl rfl ⟨Nat.le_of_ble_eq_true rfl, Nat.le_of_ble_eq_true rfl⟩ ⟨Nat.le_refl _, Nat.le_refl _⟩ hl.1 (Nat.le_of_ble_eq_true rfl) dX12_kindOfDeed_25 (fun r11 M10 H locs hT h => ?_)
      refine lv_if_eq (tgt := 33) hx hb dX12_kindOfDeed_28 (by decide) (fun hc12 => ?_) (fun hc12 => ?_)
      · have hT := hT.1 hc12
        refine lv_aload_n hx hb dX12_kindOfDeed_33 rfl (lv_at hl 0 rfl) ?_
        refine lv_bipush (v := 23) hx hb dX12_kindOfDeed_34 (by decide) ?_
        refine fx_vi X h ym_X12_isWord yi_X12_isWord ys_X12_isWord (fx_s7 (List.mem_of_getElem? (i := 149) rfl) rfl) sh_159 rfl (c_X12_isWord l G hT) (As := [.int (23 : Int32)]) (rest := []) rfl rfl ⟨Nat.le_of_ble_eq_true rfl, Nat.le_of_ble_eq_true rfl⟩ ⟨Nat.le_refl _, Nat.le_refl _⟩ hl.1 (Nat.le_of_ble_eq_true rfl) dX12_kindOfDeed_36 (fun r15 M14 H locs hT h => ?_)
        refine lv_if_eq (tgt := 44) hx hb dX12_kindOfDeed_39 (by decide) (fun hc16 => ?_) (fun hc16 => ?_)
        · have hT := hT.1 hc16
          refine lv_aload_n hx hb dX12_kindOfDeed_44 rfl (lv_at hl 0 rfl) ?_
          refine lv_bipush (v := 24) hx hb dX12_kindOfDeed_45 (by decide) ?_
          refine fx_vi X h ym_X12_isWord yi_X12_isWord ys_X12_isWord (fx_s7 (List.mem_of_getElem? (i := 149) rfl) rfl) sh_159 rfl (c_X12_isWord l G hT) (As := [.int (24 : Int32)]) (rest := []) rfl rfl ⟨Nat.le_of_ble_eq_true rfl, Nat.le_of_ble_eq_true rfl⟩ ⟨Nat.le_refl _, Nat.le_refl _⟩ hl.1 (Nat.le_of_ble_eq_true rfl) dX12_kindOfDeed_47 (fun r19 M18 H locs hT h => ?_)
          refine lv_if_eq (tgt := 57) hx hb dX12_kindOfDeed_50 (by decide) (fun hc20 => ?_) (fun hc20 => ?_)
          · have hT := hT.1 hc20
            refine lv_aload_n hx hb dX12_kindOfDeed_57 rfl (lv_at hl 0 rfl) ?_
            refine lv_bipush (v := 25) hx hb dX12_kindOfDeed_58 (by decide) ?_
            refine fx_vi X h ym_X12_isWord yi_X12_isWord ys_X12_isWord (fx_s7 (List.mem_of_getElem? (i := 149) rfl) rfl) sh_159 rfl (c_X12_isWord l G hT) (As := [.int (25 : Int32)]) (rest := []) rfl rfl ⟨Nat.le_of_ble_eq_true rfl, Nat.le_of_ble_eq_true rfl⟩ ⟨Nat.le_refl _, Nat.le_refl _⟩ hl.1 (Nat.le_of_ble_eq_true rfl) dX12_kindOfDeed_60 (fun r23 M22 H locs hT h => ?_)
            refine lv_if_eq (tgt := 70) hx hb dX12_kindOfDeed_63 (by decide) (fun hc24 => ?_) (fun hc24 => ?_)
            · have hT := hT.1 hc24
              refine lv_iconst (v := -1) hx hb dX12_kindOfDeed_70 (by decide) ?_
              exact fx_iret X hr hk h hT dX12_kindOfDeed_71
            · have hT := hT.2 hc24
              refine lv_iconst (v := 5) hx hb dX12_kindOfDeed_66 (by decide) ?_
              refine lv_goto (tgt := 71) hx hb dX12_kindOfDeed_67 (by decide) ?_
              exact fx_iret X hr hk h hT dX12_kindOfDeed_71
          · have hT := hT.2 hc20
            refine lv_iconst (v := 4) hx hb dX12_kindOfDeed_53 (by decide) ?_
            refine lv_goto (tgt := 71) hx hb dX12_kindOfDeed_54 (by decide) ?_
            exact fx_iret X hr hk h hT dX12_kindOfDeed_71
        · have hT := hT.2 hc16
          refine lv_iconst (v := 3) hx hb dX12_kindOfDeed_42 (by decide) ?_
          exact fx_iret X hr hk h hT dX12_kindOfDeed_43
      · have hT := hT.2 hc12
        refine lv_iconst (v := 2) hx hb dX12_kindOfDeed_31 (by decide) ?_
        exact fx_iret X hr hk h hT dX12_kindOfDeed_32
    · have hT := hT.2 hc8
      refine lv_iconst (v := 1) hx hb dX12_kindOfDeed_20 (by decide) ?_
      exact fx_iret X hr hk h hT dX12_kindOfDeed_21
  · have hT := hT.2 hc4
    refine lv_iconst (v := 0) hx hb dX12_kindOfDeed_9 (by decide) ?_
    exact fx_iret X hr hk h hT dX12_kindOfDeed_10
/-! MockParcelsModel.mostFor(I)I -/
theorem dX12_mostFor_0 : decode cX12_mostFor 0 = .ok (.iload_n 1, 1) := by decide +kernel
theorem dX12_mostFor_1 : decode cX12_mostFor 1 = .ok (.ifCond .eq 8, 3) := by decide +kernel
theorem dX12_mostFor_4 : decode cX12_mostFor 4 = .ok (.iload_n 1, 1) := by decide +kernel
theorem dX12_mostFor_5 : decode cX12_mostFor 5 = .ok (.iconst 4, 1) := by decide +kernel
theorem dX12_mostFor_6 : decode cX12_mostFor 6 = .ok (.if_icmp .ne 10, 3) := by decide +kernel
theorem dX12_mostFor_9 : decode cX12_mostFor 9 = .ok (.aload_n 0, 1) := by decide +kernel
theorem dX12_mostFor_10 : decode cX12_mostFor 10 = .ok (.getfield 147, 3) := by decide +kernel
theorem dX12_mostFor_13 : decode cX12_mostFor 13 = .ok (.iconst 1, 1) := by decide +kernel
theorem dX12_mostFor_14 : decode cX12_mostFor 14 = .ok (.isub, 1) := by decide +kernel
theorem dX12_mostFor_15 : decode cX12_mostFor 15 = .ok (.ireturn, 1) := by decide +kernel
theorem dX12_mostFor_16 : decode cX12_mostFor 16 = .ok (.iload_n 1, 1) := by decide +kernel
theorem dX12_mostFor_17 : decode cX12_mostFor 17 = .ok (.iconst 1, 1) := by decide +kernel
theorem dX12_mostFor_18 : decode cX12_mostFor 18 = .ok (.if_icmp .ne 8, 3) := by decide +kernel
theorem dX12_mostFor_21 : decode cX12_mostFor 21 = .ok (.bipush 9, 2) := by decide +kernel
theorem dX12_mostFor_23 : decode cX12_mostFor 23 = .ok (.goto 19, 3) := by decide +kernel
theorem dX12_mostFor_26 : decode cX12_mostFor 26 = .ok (.iload_n 1, 1) := by decide +kernel
theorem dX12_mostFor_27 : decode cX12_mostFor 27 = .ok (.iconst 2, 1) := by decide +kernel
theorem dX12_mostFor_28 : decode cX12_mostFor 28 = .ok (.if_icmp .ne 8, 3) := by decide +kernel
theorem dX12_mostFor_31 : decode cX12_mostFor 31 = .ok (.bipush 99, 2) := by decide +kernel
theorem dX12_mostFor_33 : decode cX12_mostFor 33 = .ok (.goto 9, 3) := by decide +kernel
theorem dX12_mostFor_36 : decode cX12_mostFor 36 = .ok (.aload_n 0, 1) := by decide +kernel
theorem dX12_mostFor_37 : decode cX12_mostFor 37 = .ok (.getfield 150, 3) := by decide +kernel
theorem dX12_mostFor_40 : decode cX12_mostFor 40 = .ok (.iconst 1, 1) := by decide +kernel
theorem dX12_mostFor_41 : decode cX12_mostFor 41 = .ok (.isub, 1) := by decide +kernel
theorem dX12_mostFor_42 : decode cX12_mostFor 42 = .ok (.ireturn, 1) := by decide +kernel
def T_X12_mostFor_9 (M : Mm) (K : Int32 → Mm → Prop) : Prop := (K ((M 159 6) - (1 : Int32)) M)
set_option maxHeartbeats 4000000 in
set_option maxRecDepth 100000 in
theorem w_X12_mostFor_9 {p : Program} {l : Launch} {e : Env} {s : State} {m : MethodId} {args : Array Value} {below : List Frame} {meth : Method} {c : Code} {G : fx_G} {K : Int32 → Mm → Prop} (X : fx_C G p s m c args cX12_mostFor 2 RX12) (hr : meth.sig.returnType = (some .int)) (hk : meth.locks = false) : ∀ (M : Mm) (H : Heap) (locs : List Loc) (ls : Array Slot), T_X12_mostFor_9  M K → fx_H G SH M s H locs → lv_has ls 2 [(0, .ref (G.2.2.2 + 159))] → W p l e (fx_rm (0)) s m args below meth c H locs 0 0 (MQ below (va_Qi K (fx_R G SH) (fx_A G)) args s 0 0 (fx_A G)) (F0 m 9 ls []) := by
  obtain ⟨⟨hx, hb, hml, hown, hts⟩, hK, hQ⟩ := id X
  intro  M H locs ls hT h hl
  unfold T_X12_mostFor_9 at hT
  refine lv_aload_n hx hb dX12_mostFor_9 rfl (lv_at hl 0 rfl) ?_
  refine fx_getI X h (k := 159) (j := 6) sh_159 rfl fl_RX12_147 dX12_mostFor_10 ?_
  refine lv_iconst (v := 1) hx hb dX12_mostFor_13 (by decide) ?_
  refine lv_isub hx hb dX12_mostFor_14 ?_
  exact fx_iret X hr hk h hT dX12_mostFor_15
def T_X12_mostFor (x1 : Int32) (M : Mm) (K : Int32 → Mm → Prop) : Prop := ((x1 = 0 → (T_X12_mostFor_9 M K)) ∧ (¬ x1 = 0 → ((x1 = (4 : Int32) → (T_X12_mostFor_9 M K)) ∧ (¬ x1 = (4 : Int32) → ((x1 = (1 : Int32) → (K (9 : Int32) M)) ∧ (¬ x1 = (1 : Int32) → ((x1 = (2 : Int32) → (K (99 : Int32) M)) ∧ (¬ x1 = (2 : Int32) → (K ((M 159 7) - (1 : Int32)) M)))))))))
set_option maxHeartbeats 4000000 in
set_option maxRecDepth 100000 in
theorem c_X12_mostFor (l : Launch) (G : fx_G) {x1 : Int32} {M : Mm} {K : Int32 → Mm → Prop} (hT : T_X12_mostFor x1 M K) : Met l yX12_mostFor (fx_ws yX12_mostFor cX12_mostFor 2 (some .int)) (fx_rm (0)) (va_Pc [.ref (G.2.2.2 + 159), .int x1] (fx_P G SH M)) (va_Qi K (fx_R G SH) (fx_A G)) 0 0 (fx_A G) := by
  refine fx_met (own := RX12) (by decide +kernel) rfl (Nat.le_of_ble_eq_true rfl) (fun p e s m below meth c X hr hk h ls hl => ?_)
  obtain ⟨⟨hx, hb, hml, hown, hts⟩, hK, hQ⟩ := id X
  have hl : lv_has ls 2 [(0, .ref (G.2.2.2 + 159)), (1, .int x1)] := hl
  unfold T_X12_mostFor at hT
  refine lv_iload_n hx hb dX12_mostFor_0 rfl (lv_at hl 1 rfl) ?_
  refine lv_if_eq (tgt := 9) hx hb dX12_mostFor_1 (by decide) (fun hc1 => ?_) (fun hc1 => ?_)
  · have hT := hT.1 hc1
    exact w_X12_mostFor_9 X hr hk M _ _ ls hT h (lv_sub hl [0] rfl)
  · have hT := hT.2 hc1
    refine lv_iload_n hx hb dX12_mostFor_4 rfl (lv_at hl 1 rfl) ?_
    refine lv_iconst (v := 4) hx hb dX12_mostFor_5 (by decide) ?_
    refine lv_icmp_ne (tgt := 16) hx hb dX12_mostFor_6 (by decide) (fun hc2 => ?_) (fun hc2 => ?_)
    · have hT := hT.2 hc2
      refine lv_iload_n hx hb dX12_mostFor_16 rfl (lv_at hl 1 rfl) ?_
      refine lv_iconst (v := 1) hx hb dX12_mostFor_17 (by decide) ?_
      refine lv_icmp_ne (tgt := 26) hx hb dX12_mostFor_18 (by decide) (fun hc3 => ?_) (fun hc3 => ?_)
      · have hT := hT.2 hc3
        refine lv_iload_n hx hb dX12_mostFor_26 rfl (lv_at hl 1 rfl) ?_
        refine lv_iconst (v := 2) hx hb dX12_mostFor_27 (by decide) ?_
        refine lv_icmp_ne (tgt := 36) hx hb dX12_mostFor_28 (by decide) (fun hc4 => ?_) (fun hc4 => ?_)
        · have hT := hT.2 hc4
          refine lv_aload_n hx hb dX12_mostFor_36 rfl (lv_at hl 0 rfl) ?_
          refine fx_getI X h (k := 159) (j := 7) sh_159 rfl fl_RX12_150 dX12_mostFor_37 ?_
          refine lv_iconst (v := 1) hx hb dX12_mostFor_40 (by decide) ?_
          refine lv_isub hx hb dX12_mostFor_41 ?_
          exact fx_iret X hr hk h hT dX12_mostFor_42
        · have hT := hT.1 hc4
          refine lv_bipush (v := 99) hx hb dX12_mostFor_31 (by decide) ?_
          refine lv_goto (tgt := 42) hx hb dX12_mostFor_33 (by decide) ?_
          exact fx_iret X hr hk h hT dX12_mostFor_42
      · have hT := hT.1 hc3
        refine lv_bipush (v := 9) hx hb dX12_mostFor_21 (by decide) ?_
        refine lv_goto (tgt := 42) hx hb dX12_mostFor_23 (by decide) ?_
        exact fx_iret X hr hk h hT dX12_mostFor_42
    · have hT := hT.1 hc2
      exact w_X12_mostFor_9 X hr hk M _ _ ls hT h (lv_sub hl [0] rfl)
/-! MockParcelsModel.readDeed(I)I -/
theorem dX12_readDeed_0 : decode cX12_readDeed 0 = .ok (.aload_n 0, 1) := by decide +kernel
theorem dX12_readDeed_1 : decode cX12_readDeed 1 = .ok (.getfield 74, 3) := by decide +kernel
theorem dX12_readDeed_4 : decode cX12_readDeed 4 = .ok (.iload_n 1, 1) := by decide +kernel
theorem dX12_readDeed_5 : decode cX12_readDeed 5 = .ok (.aload_n 0, 1) := by decide +kernel
theorem dX12_readDeed_6 : decode cX12_readDeed 6 = .ok (.bipush 21, 2) := by decide +kernel
theorem dX12_readDeed_8 : decode cX12_readDeed 8 = .ok (.iconst 0, 1) := by decide +kernel
theorem dX12_readDeed_9 : decode cX12_readDeed 9 = .ok (.sipush 999, 3) := by decide +kernel
theorem dX12_readDeed_12 : decode cX12_readDeed 12 = .ok (.invokevirtual 272, 3) := by decide +kernel
theorem dX12_readDeed_15 : decode cX12_readDeed 15 = .ok (.iastore, 1) := by decide +kernel
theorem dX12_readDeed_16 : decode cX12_readDeed 16 = .ok (.aload_n 0, 1) := by decide +kernel
theorem dX12_readDeed_17 : decode cX12_readDeed 17 = .ok (.getfield 74, 3) := by decide +kernel
theorem dX12_readDeed_20 : decode cX12_readDeed 20 = .ok (.iload_n 1, 1) := by decide +kernel
theorem dX12_readDeed_21 : decode cX12_readDeed 21 = .ok (.iaload, 1) := by decide +kernel
theorem dX12_readDeed_22 : decode cX12_readDeed 22 = .ok (.iconst (-1), 1) := by decide +kernel
theorem dX12_readDeed_23 : decode cX12_readDeed 23 = .ok (.if_icmp .ne 5, 3) := by decide +kernel
theorem dX12_readDeed_26 : decode cX12_readDeed 26 = .ok (.iconst (-1), 1) := by decide +kernel
theorem dX12_readDeed_27 : decode cX12_readDeed 27 = .ok (.ireturn, 1) := by decide +kernel
theorem dX12_readDeed_28 : decode cX12_readDeed 28 = .ok (.aload_n 0, 1) := by decide +kernel
theorem dX12_readDeed_29 : decode cX12_readDeed 29 = .ok (.invokevirtual 282, 3) := by decide +kernel
theorem dX12_readDeed_32 : decode cX12_readDeed 32 = .ok (.istore_n 2, 1) := by decide +kernel
theorem dX12_readDeed_33 : decode cX12_readDeed 33 = .ok (.iload_n 2, 1) := by decide +kernel
theorem dX12_readDeed_34 : decode cX12_readDeed 34 = .ok (.iconst (-1), 1) := by decide +kernel
theorem dX12_readDeed_35 : decode cX12_readDeed 35 = .ok (.if_icmp .ne 9, 3) := by decide +kernel
theorem dX12_readDeed_38 : decode cX12_readDeed 38 = .ok (.aload_n 0, 1) := by decide +kernel
theorem dX12_readDeed_39 : decode cX12_readDeed 39 = .ok (.iconst 1, 1) := by decide +kernel
theorem dX12_readDeed_40 : decode cX12_readDeed 40 = .ok (.invokevirtual 218, 3) := by decide +kernel
theorem dX12_readDeed_43 : decode cX12_readDeed 43 = .ok (.ireturn, 1) := by decide +kernel
theorem dX12_readDeed_44 : decode cX12_readDeed 44 = .ok (.aload_n 0, 1) := by decide +kernel
theorem dX12_readDeed_45 : decode cX12_readDeed 45 = .ok (.invokevirtual 225, 3) := by decide +kernel
theorem dX12_readDeed_48 : decode cX12_readDeed 48 = .ok (.aload_n 0, 1) := by decide +kernel
theorem dX12_readDeed_49 : decode cX12_readDeed 49 = .ok (.getfield 74, 3) := by decide +kernel
theorem dX12_readDeed_52 : decode cX12_readDeed 52 = .ok (.iload_n 1, 1) := by decide +kernel
theorem dX12_readDeed_53 : decode cX12_readDeed 53 = .ok (.iconst 1, 1) := by decide +kernel
theorem dX12_readDeed_54 : decode cX12_readDeed 54 = .ok (.iadd, 1) := by decide +kernel
theorem dX12_readDeed_55 : decode cX12_readDeed 55 = .ok (.iload_n 2, 1) := by decide +kernel
theorem dX12_readDeed_56 : decode cX12_readDeed 56 = .ok (.iastore, 1) := by decide +kernel
theorem dX12_readDeed_57 : decode cX12_readDeed 57 = .ok (.aload_n 0, 1) := by decide +kernel
theorem dX12_readDeed_58 : decode cX12_readDeed 58 = .ok (.getfield 74, 3) := by decide +kernel
theorem dX12_readDeed_61 : decode cX12_readDeed 61 = .ok (.iload_n 1, 1) := by decide +kernel
theorem dX12_readDeed_62 : decode cX12_readDeed 62 = .ok (.iconst 2, 1) := by decide +kernel
theorem dX12_readDeed_63 : decode cX12_readDeed 63 = .ok (.iadd, 1) := by decide +kernel
theorem dX12_readDeed_64 : decode cX12_readDeed 64 = .ok (.iload_n 2, 1) := by decide +kernel
theorem dX12_readDeed_65 : decode cX12_readDeed 65 = .ok (.iconst 3, 1) := by decide +kernel
theorem dX12_readDeed_66 : decode cX12_readDeed 66 = .ok (.if_icmp .ne 7, 3) := by decide +kernel
theorem dX12_readDeed_69 : decode cX12_readDeed 69 = .ok (.iconst 0, 1) := by decide +kernel
theorem dX12_readDeed_70 : decode cX12_readDeed 70 = .ok (.goto 13, 3) := by decide +kernel
theorem dX12_readDeed_73 : decode cX12_readDeed 73 = .ok (.aload_n 0, 1) := by decide +kernel
theorem dX12_readDeed_74 : decode cX12_readDeed 74 = .ok (.iconst 0, 1) := by decide +kernel
theorem dX12_readDeed_75 : decode cX12_readDeed 75 = .ok (.aload_n 0, 1) := by decide +kernel
theorem dX12_readDeed_76 : decode cX12_readDeed 76 = .ok (.iload_n 2, 1) := by decide +kernel
theorem dX12_readDeed_77 : decode cX12_readDeed 77 = .ok (.invokevirtual 285, 3) := by decide +kernel
theorem dX12_readDeed_80 : decode cX12_readDeed 80 = .ok (.invokevirtual 269, 3) := by decide +kernel
theorem dX12_readDeed_83 : decode cX12_readDeed 83 = .ok (.iastore, 1) := by decide +kernel
theorem dX12_readDeed_84 : decode cX12_readDeed 84 = .ok (.aload_n 0, 1) := by decide +kernel
theorem dX12_readDeed_85 : decode cX12_readDeed 85 = .ok (.getfield 74, 3) := by decide +kernel
theorem dX12_readDeed_88 : decode cX12_readDeed 88 = .ok (.iload_n 1, 1) := by decide +kernel
theorem dX12_readDeed_89 : decode cX12_readDeed 89 = .ok (.iconst 2, 1) := by decide +kernel
theorem dX12_readDeed_90 : decode cX12_readDeed 90 = .ok (.iadd, 1) := by decide +kernel
theorem dX12_readDeed_91 : decode cX12_readDeed 91 = .ok (.iaload, 1) := by decide +kernel
theorem dX12_readDeed_92 : decode cX12_readDeed 92 = .ok (.iconst (-1), 1) := by decide +kernel
theorem dX12_readDeed_93 : decode cX12_readDeed 93 = .ok (.if_icmp .ne 5, 3) := by decide +kernel
theorem dX12_readDeed_96 : decode cX12_readDeed 96 = .ok (.iconst (-1), 1) := by decide +kernel
theorem dX12_readDeed_97 : decode cX12_readDeed 97 = .ok (.ireturn, 1) := by decide +kernel
theorem dX12_readDeed_98 : decode cX12_readDeed 98 = .ok (.aload_n 0, 1) := by decide +kernel
theorem dX12_readDeed_99 : decode cX12_readDeed 99 = .ok (.getfield 74, 3) := by decide +kernel
theorem dX12_readDeed_102 : decode cX12_readDeed 102 = .ok (.iload_n 1, 1) := by decide +kernel
theorem dX12_readDeed_103 : decode cX12_readDeed 103 = .ok (.iconst 3, 1) := by decide +kernel
theorem dX12_readDeed_104 : decode cX12_readDeed 104 = .ok (.iadd, 1) := by decide +kernel
theorem dX12_readDeed_105 : decode cX12_readDeed 105 = .ok (.iload_n 2, 1) := by decide +kernel
theorem dX12_readDeed_106 : decode cX12_readDeed 106 = .ok (.iconst 4, 1) := by decide +kernel
theorem dX12_readDeed_107 : decode cX12_readDeed 107 = .ok (.if_icmp .ne 13, 3) := by decide +kernel
theorem dX12_readDeed_110 : decode cX12_readDeed 110 = .ok (.aload_n 0, 1) := by decide +kernel
theorem dX12_readDeed_111 : decode cX12_readDeed 111 = .ok (.iconst 0, 1) := by decide +kernel
theorem dX12_readDeed_112 : decode cX12_readDeed 112 = .ok (.bipush 99, 2) := by decide +kernel
theorem dX12_readDeed_114 : decode cX12_readDeed 114 = .ok (.invokevirtual 269, 3) := by decide +kernel
theorem dX12_readDeed_117 : decode cX12_readDeed 117 = .ok (.goto 20, 3) := by decide +kernel
theorem dX12_readDeed_120 : decode cX12_readDeed 120 = .ok (.iload_n 2, 1) := by decide +kernel
theorem dX12_readDeed_121 : decode cX12_readDeed 121 = .ok (.iconst 5, 1) := by decide +kernel
theorem dX12_readDeed_122 : decode cX12_readDeed 122 = .ok (.if_icmp .ne 14, 3) := by decide +kernel
theorem dX12_readDeed_125 : decode cX12_readDeed 125 = .ok (.aload_n 0, 1) := by decide +kernel
theorem dX12_readDeed_126 : decode cX12_readDeed 126 = .ok (.iconst 1, 1) := by decide +kernel
theorem dX12_readDeed_127 : decode cX12_readDeed 127 = .ok (.sipush 999, 3) := by decide +kernel
theorem dX12_readDeed_130 : decode cX12_readDeed 130 = .ok (.invokevirtual 269, 3) := by decide +kernel
theorem dX12_readDeed_133 : decode cX12_readDeed 133 = .ok (.goto 4, 3) := by decide +kernel
theorem dX12_readDeed_136 : decode cX12_readDeed 136 = .ok (.iconst 0, 1) := by decide +kernel
theorem dX12_readDeed_137 : decode cX12_readDeed 137 = .ok (.iastore, 1) := by decide +kernel
theorem dX12_readDeed_138 : decode cX12_readDeed 138 = .ok (.aload_n 0, 1) := by decide +kernel
theorem dX12_readDeed_139 : decode cX12_readDeed 139 = .ok (.getfield 74, 3) := by decide +kernel
theorem dX12_readDeed_142 : decode cX12_readDeed 142 = .ok (.iload_n 1, 1) := by decide +kernel
theorem dX12_readDeed_143 : decode cX12_readDeed 143 = .ok (.iconst 3, 1) := by decide +kernel
theorem dX12_readDeed_144 : decode cX12_readDeed 144 = .ok (.iadd, 1) := by decide +kernel
theorem dX12_readDeed_145 : decode cX12_readDeed 145 = .ok (.iaload, 1) := by decide +kernel
theorem dX12_readDeed_146 : decode cX12_readDeed 146 = .ok (.iconst (-1), 1) := by decide +kernel
theorem dX12_readDeed_147 : decode cX12_readDeed 147 = .ok (.if_icmp .ne 7, 3) := by decide +kernel
theorem dX12_readDeed_150 : decode cX12_readDeed 150 = .ok (.iconst (-1), 1) := by decide +kernel
theorem dX12_readDeed_151 : decode cX12_readDeed 151 = .ok (.goto 9, 3) := by decide +kernel
theorem dX12_readDeed_154 : decode cX12_readDeed 154 = .ok (.aload_n 0, 1) := by decide +kernel
theorem dX12_readDeed_155 : decode cX12_readDeed 155 = .ok (.bipush 59, 2) := by decide +kernel
theorem dX12_readDeed_157 : decode cX12_readDeed 157 = .ok (.invokevirtual 276, 3) := by decide +kernel
theorem dX12_readDeed_160 : decode cX12_readDeed 160 = .ok (.ireturn, 1) := by decide +kernel
def T_X12_readDeed_137 (x1 : Int32) (s1 : Int32) (s2 : Int32) (M : Mm) (K : Int32 → Mm → Prop) : Prop := (vp_in s1 128 ∧ (∀ M1 : Mm, M1 = m_up M 180 (s1).toNatClampNeg s2 → (vp_in (x1 + (3 : Int32)) 128 ∧ (((M1 180 ((x1 + (3 : Int32))).toNatClampNeg) = (-1 : Int32) → (K (-1 : Int32) M1)) ∧ (¬ (M1 180 ((x1 + (3 : Int32))).toNatClampNeg) = (-1 : Int32) → (T_X12_readMark (59 : Int32) M1 (fun r7 M6 => (K r7 M6))))))))
set_option maxHeartbeats 4000000 in
set_option maxRecDepth 100000 in
theorem w_X12_readDeed_137 {p : Program} {l : Launch} {e : Env} {s : State} {m : MethodId} {args : Array Value} {below : List Frame} {meth : Method} {c : Code} {G : fx_G} {K : Int32 → Mm → Prop} (X : fx_C G p s m c args cX12_readDeed 3 RX12) (hr : meth.sig.returnType = (some .int)) (hk : meth.locks = false) : ∀ (x1 : Int32) (s1 : Int32) (s2 : Int32) (M : Mm) (H : Heap) (locs : List Loc) (ls : Array Slot), T_X12_readDeed_137 x1 s1 s2 M K → fx_H G SH M s H locs → lv_has ls 3 [(0, .ref (G.2.2.2 + 159)), (1, .int x1)] → W p l e (fx_rm (5)) s m args below meth c H locs 0 0 (MQ below (va_Qi K (fx_R G SH) (fx_A G)) args s 0 0 (fx_A G)) (F0 m 137 ls [.int s2, .int s1, .ref (G.2.2.2 + 180)]) := by
  obtain ⟨⟨hx, hb, hml, hown, hts⟩, hK, hQ⟩ := id X
  intro x1 s1 s2 M H locs ls hT h hl
  unfold T_X12_readDeed_137 at hT
  obtain ⟨hi2, hT⟩ := hT
  refine fx_iast X h (k := 180) sh_180 hi2 dX12_readDeed_137 (fun H locs h => ?_)
  obtain ⟨M1, eM1⟩ : ∃ z : Mm, z = m_up M 180 (s1).toNatClampNeg s2 := ⟨_, rfl⟩
  have hT := hT M1 eM1
  rw [← eM1] at h
  refine lv_aload_n hx hb dX12_readDeed_138 rfl (lv_at hl 0 rfl) ?_
  refine fx_getR X h (k := 159) (j := 40) (r := 180) sh_159 rfl fl_RX12_74 dX12_readDeed_139 ?_
  refine lv_iload_n hx hb dX12_readDeed_142 rfl (lv_at hl 1 rfl) ?_
  refine lv_iconst (v := 3) hx hb dX12_readDeed_143 (by decide) ?_
  refine lv_iadd hx hb dX12_readDeed_144 ?_
  obtain ⟨hi3, hT⟩ := hT
  refine fx_iald X h (k := 180) sh_180 hi3 dX12_readDeed_145 ?_
  refine lv_iconst (v := -1) hx hb dX12_readDeed_146 (by decide) ?_
  refine lv_icmp_ne (tgt := 154) hx hb dX12_readDeed_147 (by decide) (fun hc4 => ?_) (fun hc4 => ?_)
  · have hT := hT.2 hc4
    refine lv_aload_n hx hb dX12_readDeed_154 rfl (lv_at hl 0 rfl) ?_
    refine lv_bipush (v := 59) hx hb dX12_readDeed_155 (by decide) ?_
    refine fx_vi X h ym_X12_readMark yi_X12_readMark ys_X12_readMark (fx_s7 (List.mem_of_getElem? (i := 169) rfl) rfl) sh_159 rfl (c_X12_readMark l G hT) (As := [.int (59 : Int32)]) (rest := []) rfl rfl ⟨Nat.le_of_ble_eq_true rfl, Nat.le_of_ble_eq_true rfl⟩ ⟨Nat.le_refl _, Nat.le_refl _⟩ hl.1 (Nat.le_of_ble_eq_true rfl) dX12_readDeed_157 (fun r7 M6 H locs hT h => ?_)
    exact fx_iret X hr hk h hT dX12_readDeed_160
  · have hT := hT.1 hc4
    refine lv_iconst (v := -1) hx hb dX12_readDeed_150 (by decide) ?_
    refine lv_goto (tgt := 160) hx hb dX12_readDeed_151 (by decide) ?_
    exact fx_iret X hr hk h hT dX12_readDeed_160
def T_X12_readDeed_83 (x1 : Int32) (x2 : Int32) (s1 : Int32) (s2 : Int32) (M : Mm) (K : Int32 → Mm → Prop) : Prop := (vp_in s1 128 ∧ (∀ M8 : Mm, M8 = m_up M 180 (s1).toNatClampNeg s2 → (vp_in (x1 + (2 : Int32)) 128 ∧ (((M8 180 ((x1 + (2 : Int32))).toNatClampNeg) = (-1 : Int32) → (K (-1 : Int32) M8)) ∧ (¬ (M8 180 ((x1 + (2 : Int32))).toNatClampNeg) = (-1 : Int32) → ((x2 = (4 : Int32) → (T_X12_readNumber (0 : Int32) (99 : Int32) M8 (fun r19 M18 => (T_X12_readDeed_137 x1 (x1 + (3 : Int32)) r19 M18 K)))) ∧ (¬ x2 = (4 : Int32) → ((x2 = (5 : Int32) → (T_X12_readNumber (1 : Int32) (999 : Int32) M8 (fun r16 M15 => (T_X12_readDeed_137 x1 (x1 + (3 : Int32)) r16 M15 K)))) ∧ (¬ x2 = (5 : Int32) → (T_X12_readDeed_137 x1 (x1 + (3 : Int32)) (0 : Int32) M8 K))))))))))
set_option maxHeartbeats 4000000 in
set_option maxRecDepth 100000 in
theorem w_X12_readDeed_83 {p : Program} {l : Launch} {e : Env} {s : State} {m : MethodId} {args : Array Value} {below : List Frame} {meth : Method} {c : Code} {G : fx_G} {K : Int32 → Mm → Prop} (X : fx_C G p s m c args cX12_readDeed 3 RX12) (hr : meth.sig.returnType = (some .int)) (hk : meth.locks = false) : ∀ (x1 : Int32) (x2 : Int32) (s1 : Int32) (s2 : Int32) (M : Mm) (H : Heap) (locs : List Loc) (ls : Array Slot), T_X12_readDeed_83 x1 x2 s1 s2 M K → fx_H G SH M s H locs → lv_has ls 3 [(0, .ref (G.2.2.2 + 159)), (1, .int x1), (2, .int x2)] → W p l e (fx_rm (5)) s m args below meth c H locs 0 0 (MQ below (va_Qi K (fx_R G SH) (fx_A G)) args s 0 0 (fx_A G)) (F0 m 83 ls [.int s2, .int s1, .ref (G.2.2.2 + 180)]) := by
  obtain ⟨⟨hx, hb, hml, hown, hts⟩, hK, hQ⟩ := id X
  intro x1 x2 s1 s2 M H locs ls hT h hl
  unfold T_X12_readDeed_83 at hT
  obtain ⟨hi9, hT⟩ := hT
  refine fx_iast X h (k := 180) sh_180 hi9 dX12_readDeed_83 (fun H locs h => ?_)
  obtain ⟨M8, eM8⟩ : ∃ z : Mm, z = m_up M 180 (s1).toNatClampNeg s2 := ⟨_, rfl⟩
  have hT := hT M8 eM8
  rw [← eM8] at h
  refine lv_aload_n hx hb dX12_readDeed_84 rfl (lv_at hl 0 rfl) ?_
  refine fx_getR X h (k := 159) (j := 40) (r := 180) sh_159 rfl fl_RX12_74 dX12_readDeed_85 ?_
  refine lv_iload_n hx hb dX12_readDeed_88 rfl (lv_at hl 1 rfl) ?_
  refine lv_iconst (v := 2) hx hb dX12_readDeed_89 (by decide) ?_
  refine lv_iadd hx hb dX12_readDeed_90 ?_
  obtain ⟨hi10, hT⟩ := hT
  refine fx_iald X h (k := 180) sh_180 hi10 dX12_readDeed_91 ?_
  refine lv_iconst (v := -1) hx hb dX12_readDeed_92 (by decide) ?_
  refine lv_icmp_ne (tgt := 98) hx hb dX12_readDeed_93 (by decide) (fun hc11 => ?_) (fun hc11 => ?_)
  · have hT := hT.2 hc11
    refine lv_aload_n hx hb dX12_readDeed_98 rfl (lv_at hl 0 rfl) ?_
    refine fx_getR X h (k := 159) (j := 40) (r := 180) sh_159 rfl fl_RX12_74 dX12_readDeed_99 ?_
    refine lv_iload_n hx hb dX12_readDeed_102 rfl (lv_at hl 1 rfl) ?_
    refine lv_iconst (v := 3) hx hb dX12_readDeed_103 (by decide) ?_
    refine lv_iadd hx hb dX12_readDeed_104 ?_
    refine lv_iload_n hx hb dX12_readDeed_105 rfl (lv_at hl 2 rfl) ?_
    refine lv_iconst (v := 4) hx hb dX12_readDeed_106 (by decide) ?_
    refine lv_icmp_ne (tgt := 120) hx hb dX12_readDeed_107 (by decide) (fun hc12 => ?_) (fun hc12 => ?_)
    · have hT := hT.2 hc12
      refine lv_iload_n hx hb dX12_readDeed_120 rfl (lv_at hl 2 rfl) ?_
      refine lv_iconst (v := 5) hx hb dX12_readDeed_121 (by decide) ?_
      refine lv_icmp_ne (tgt := 136) hx hb dX12_readDeed_122 (by decide) (fun hc13 => ?_) (fun hc13 => ?_)
      · have hT := hT.2 hc13
        refine lv_iconst (v := 0) hx hb dX12_readDeed_136 (by decide) ?_
        exact w_X12_readDeed_137 X hr hk x1 (x1 + (3 : Int32)) (0 : Int32) M8 _ _ ls hT h (lv_sub hl [0, 1] rfl)
      · have hT := hT.1 hc13
        refine lv_aload_n hx hb dX12_readDeed_125 rfl (lv_at hl 0 rfl) ?_
        refine lv_iconst (v := 1) hx hb dX12_readDeed_126 (by decide) ?_
        refine lv_sipush (v := 999) hx hb dX12_readDeed_127 (by decide) ?_
        refine fx_vi X h ym_X12_readNumber yi_X12_readNumber ys_X12_readNumber (fx_s7 (List.mem_of_getElem? (i := 165) rfl) rfl) sh_159 rfl (c_X12_readNumber l G hT) (As := [.int (1 : Int32), .int (999 : Int32)]) (rest := [.int (x1 + (3 : Int32)), .ref (G.2.2.2 + 180)]) rfl rfl ⟨Nat.le_of_ble_eq_true rfl, Nat.le_of_ble_eq_true rfl⟩ ⟨Nat.le_refl _, Nat.le_refl _⟩ hl.1 (Nat.le_of_ble_eq_true rfl) dX12_readDeed_130 (fun r16 M15 H locs hT h => ?_)
        refine lv_goto (tgt := 137) hx hb dX12_readDeed_133 (by decide) ?_
        exact w_X12_readDeed_137 X hr hk x1 (x1 + (3 : Int32)) r16 M15 _ _ ls hT h (lv_sub hl [0, 1] rfl)
    · have hT := hT.1 hc12
      refine lv_aload_n hx hb dX12_readDeed_110 rfl (lv_at hl 0 rfl) ?_
      refine lv_iconst (v := 0) hx hb dX12_readDeed_111 (by decide) ?_
      refine lv_bipush (v := 99) hx hb dX12_readDeed_112 (by decide) ?_
      refine fx_vi X h ym_X12_readNumber yi_X12_readNumber ys_X12_readNumber (fx_s7 (List.mem_of_getElem? (i := 165) rfl) rfl) sh_159 rfl (c_X12_readNumber l G hT) (As := [.int (0 : Int32), .int (99 : Int32)]) (rest := [.int (x1 + (3 : Int32)), .ref (G.2.2.2 + 180)]) rfl rfl ⟨Nat.le_of_ble_eq_true rfl, Nat.le_of_ble_eq_true rfl⟩ ⟨Nat.le_refl _, Nat.le_refl _⟩ hl.1 (Nat.le_of_ble_eq_true rfl) dX12_readDeed_114 (fun r19 M18 H locs hT h => ?_)
      refine lv_goto (tgt := 137) hx hb dX12_readDeed_117 (by decide) ?_
      exact w_X12_readDeed_137 X hr hk x1 (x1 + (3 : Int32)) r19 M18 _ _ ls hT h (lv_sub hl [0, 1] rfl)
  · have hT := hT.1 hc11
    refine lv_iconst (v := -1) hx hb dX12_readDeed_96 (by decide) ?_
    exact fx_iret X hr hk h hT dX12_readDeed_97
def T_X12_readDeed (x1 : Int32) (M : Mm) (K : Int32 → Mm → Prop) : Prop := (T_X12_readTold (21 : Int32) (0 : Int32) (999 : Int32) M (fun r22 M21 => (vp_in x1 128 ∧ (∀ M23 : Mm, M23 = m_up M21 180 (x1).toNatClampNeg r22 → (vp_in x1 128 ∧ (((M23 180 (x1).toNatClampNeg) = (-1 : Int32) → (K (-1 : Int32) M23)) ∧ (¬ (M23 180 (x1).toNatClampNeg) = (-1 : Int32) → (T_X12_kindOfDeed M23 (fun r29 M28 => ((r29 = (-1 : Int32) → (T_X12_errs (1 : Int32) M28 (fun r44 M43 => (K r44 M43)))) ∧ (¬ r29 = (-1 : Int32) → (T_X12_reads M28 (fun M32 => (vp_in (x1 + (1 : Int32)) 128 ∧ (∀ M33 : Mm, M33 = m_up M32 180 ((x1 + (1 : Int32))).toNatClampNeg r29 → ((r29 = (3 : Int32) → (T_X12_readDeed_83 x1 r29 (x1 + (2 : Int32)) (0 : Int32) M33 K)) ∧ (¬ r29 = (3 : Int32) → (T_X12_mostFor r29 M33 (fun r38 M37 => (T_X12_readNumber (0 : Int32) r38 M37 (fun r41 M40 => (T_X12_readDeed_83 x1 r29 (x1 + (2 : Int32)) r41 M40 K))))))))))))))))))))))
set_option maxHeartbeats 4000000 in
set_option maxRecDepth 100000 in
theorem c_X12_readDeed (l : Launch) (G : fx_G) {x1 : Int32} {M : Mm} {K : Int32 → Mm → Prop} (hT : T_X12_readDeed x1 M K) : Met l yX12_readDeed (fx_ws yX12_readDeed cX12_readDeed 3 (some .int)) (fx_rm (5)) (va_Pc [.ref (G.2.2.2 + 159), .int x1] (fx_P G SH M)) (va_Qi K (fx_R G SH) (fx_A G)) 0 0 (fx_A G) := by
  refine fx_met (own := RX12) (by decide +kernel) rfl (Nat.le_of_ble_eq_true rfl) (fun p e s m below meth c X hr hk h ls hl => ?_)
  obtain ⟨⟨hx, hb, hml, hown, hts⟩, hK, hQ⟩ := id X
  have hl : lv_has ls 3 [(0, .ref (G.2.2.2 + 159)), (1, .int x1)] := hl
  unfold T_X12_readDeed at hT
  refine lv_aload_n hx hb dX12_readDeed_0 rfl (lv_at hl 0 rfl) ?_
  refine fx_getR X h (k := 159) (j := 40) (r := 180) sh_159 rfl fl_RX12_74 dX12_readDeed_1 ?_
  refine lv_iload_n hx hb dX12_readDeed_4 rfl (lv_at hl 1 rfl) ?_
  refine lv_aload_n hx hb dX12_readDeed_5 rfl (lv_at hl 0 rfl) ?_
  refine lv_bipush (v := 21) hx hb dX12_readDeed_6 (by decide) ?_
  refine lv_iconst (v := 0) hx hb dX12_readDeed_8 (by decide) ?_
  refine lv_sipush (v := 999) hx hb dX12_readDeed_9 (by decide) ?_
  refine fx_vi X h ym_X12_readTold yi_X12_readTold ys_X12_readTold (fx_s7 (List.mem_of_getElem? (i := 161) rfl) rfl) sh_159 rfl (c_X12_readTold l G hT) (As := [.int (21 : Int32), .int (0 : Int32), .int (999 : Int32)]) (rest := [.int x1, .ref (G.2.2.2 + 180)]) rfl rfl ⟨Nat.le_of_ble_eq_true rfl, Nat.le_of_ble_eq_true rfl⟩ ⟨Nat.le_refl _, Nat.le_refl _⟩ hl.1 (Nat.le_of_ble_eq_true rfl) dX12_readDeed_12 (fun r22 M21 H locs hT h => ?_)
  obtain ⟨hi24, hT⟩ := hT
  refine fx_iast X h (k := 180) sh_180 hi24 dX12_readDeed_15 (fun H locs h => ?_)
  obtain ⟨M23, eM23⟩ : ∃ z : Mm, z = m_up M21 180 (x1).toNatClampNeg r22 := ⟨_, rfl⟩
  have hT := hT M23 eM23
  rw [← eM23] at h
  refine lv_aload_n hx hb dX12_readDeed_16 rfl (lv_at hl 0 rfl) ?_
  refine fx_getR X h (k := 159) (j := 40) (r := 180) sh_159 rfl fl_RX12_74 dX12_readDeed_17 ?_
  refine lv_iload_n hx hb dX12_readDeed_20 rfl (lv_at hl 1 rfl) ?_
  obtain ⟨hi25, hT⟩ := hT
  refine fx_iald X h (k := 180) sh_180 hi25 dX12_readDeed_21 ?_
  refine lv_iconst (v := -1) hx hb dX12_readDeed_22 (by decide) ?_
  refine lv_icmp_ne (tgt := 28) hx hb dX12_readDeed_23 (by decide) (fun hc26 => ?_) (fun hc26 => ?_)
  · have hT := hT.2 hc26
    refine lv_aload_n hx hb dX12_readDeed_28 rfl (lv_at hl 0 rfl) ?_
    refine fx_vi X h ym_X12_kindOfDeed yi_X12_kindOfDeed ys_X12_kindOfDeed (fx_s7 (List.mem_of_getElem? (i := 185) rfl) rfl) sh_159 rfl (c_X12_kindOfDeed l G hT) (As := []) (rest := []) rfl rfl ⟨Nat.le_of_ble_eq_true rfl, Nat.le_of_ble_eq_true rfl⟩ ⟨Nat.le_refl _, Nat.le_refl _⟩ hl.1 (Nat.le_of_ble_eq_true rfl) dX12_readDeed_29 (fun r29 M28 H locs hT h => ?_)
    refine lv_istore_n (lv' := [(2, .int r29), (0, .ref (G.2.2.2 + 159)), (1, .int x1)]) hx hb dX12_readDeed_32 rfl hl (by decide) rfl (fun ls hl => ?_)
    refine lv_iload_n hx hb dX12_readDeed_33 rfl (lv_at hl 0 rfl) ?_
    refine lv_iconst (v := -1) hx hb dX12_readDeed_34 (by decide) ?_
    refine lv_icmp_ne (tgt := 44) hx hb dX12_readDeed_35 (by decide) (fun hc30 => ?_) (fun hc30 => ?_)
    · have hT := hT.2 hc30
      refine lv_aload_n hx hb dX12_readDeed_44 rfl (lv_at hl 1 rfl) ?_
      refine fx_vv X h ym_X12_reads yi_X12_reads ys_X12_reads (fx_s7 (List.mem_of_getElem? (i := 121) rfl) rfl) sh_159 rfl (c_X12_reads l G hT) (As := []) (rest := []) rfl rfl ⟨Nat.le_of_ble_eq_true rfl, Nat.le_of_ble_eq_true rfl⟩ ⟨Nat.le_refl _, Nat.le_refl _⟩ hl.1 (Nat.le_of_ble_eq_true rfl) dX12_readDeed_45 (fun M32 H locs hT h => ?_)
      refine lv_aload_n hx hb dX12_readDeed_48 rfl (lv_at hl 1 rfl) ?_
      refine fx_getR X h (k := 159) (j := 40) (r := 180) sh_159 rfl fl_RX12_74 dX12_readDeed_49 ?_
      refine lv_iload_n hx hb dX12_readDeed_52 rfl (lv_at hl 2 rfl) ?_
      refine lv_iconst (v := 1) hx hb dX12_readDeed_53 (by decide) ?_
      refine lv_iadd hx hb dX12_readDeed_54 ?_
      refine lv_iload_n hx hb dX12_readDeed_55 rfl (lv_at hl 0 rfl) ?_
      obtain ⟨hi34, hT⟩ := hT
      refine fx_iast X h (k := 180) sh_180 hi34 dX12_readDeed_56 (fun H locs h => ?_)
      obtain ⟨M33, eM33⟩ : ∃ z : Mm, z = m_up M32 180 ((x1 + (1 : Int32))).toNatClampNeg r29 := ⟨_, rfl⟩
      have hT := hT M33 eM33
      rw [← eM33] at h
      refine lv_aload_n hx hb dX12_readDeed_57 rfl (lv_at hl 1 rfl) ?_
      refine fx_getR X h (k := 159) (j := 40) (r := 180) sh_159 rfl fl_RX12_74 dX12_readDeed_58 ?_
      refine lv_iload_n hx hb dX12_readDeed_61 rfl (lv_at hl 2 rfl) ?_
      refine lv_iconst (v := 2) hx hb dX12_readDeed_62 (by decide) ?_
      refine lv_iadd hx hb dX12_readDeed_63 ?_
      refine lv_iload_n hx hb dX12_readDeed_64 rfl (lv_at hl 0 rfl) ?_
      refine lv_iconst (v := 3) hx hb dX12_readDeed_65 (by decide) ?_
      refine lv_icmp_ne (tgt := 73) hx hb dX12_readDeed_66 (by decide) (fun hc35 => ?_) (fun hc35 => ?_)
      · have hT := hT.2 hc35
        refine lv_aload_n hx hb dX12_readDeed_73 rfl (lv_at hl 1 rfl) ?_
        refine lv_iconst (v := 0) hx hb dX12_readDeed_74 (by decide) ?_
        refine lv_aload_n hx hb dX12_readDeed_75 rfl (lv_at hl 1 rfl) ?_
        refine lv_iload_n hx hb dX12_readDeed_76 rfl (lv_at hl 0 rfl) ?_
        refine fx_vi X h ym_X12_mostFor yi_X12_mostFor ys_X12_mostFor (fx_s7 (List.mem_of_getElem? (i := 189) rfl) rfl) sh_159 rfl (c_X12_mostFor l G hT) (As := [.int r29]) (rest := [.int (0 : Int32), .ref (G.2.2.2 + 159), .int (x1 + (2 : Int32)), .ref (G.2.2.2 + 180)]) rfl rfl ⟨Nat.le_of_ble_eq_true rfl, Nat.le_of_ble_eq_true rfl⟩ ⟨Nat.le_refl _, Nat.le_refl _⟩ hl.1 (Nat.le_of_ble_eq_true rfl) dX12_readDeed_77 (fun r38 M37 H locs hT h => ?_)
        refine fx_vi X h ym_X12_readNumber yi_X12_readNumber ys_X12_readNumber (fx_s7 (List.mem_of_getElem? (i := 165) rfl) rfl) sh_159 rfl (c_X12_readNumber l G hT) (As := [.int (0 : Int32), .int r38]) (rest := [.int (x1 + (2 : Int32)), .ref (G.2.2.2 + 180)]) rfl rfl ⟨Nat.le_of_ble_eq_true rfl, Nat.le_of_ble_eq_true rfl⟩ ⟨Nat.le_refl _, Nat.le_refl _⟩ hl.1 (Nat.le_of_ble_eq_true rfl) dX12_readDeed_80 (fun r41 M40 H locs hT h => ?_)
        exact w_X12_readDeed_83 X hr hk x1 r29 (x1 + (2 : Int32)) r41 M40 _ _ ls hT h (lv_sub hl [1, 2, 0] rfl)
      · have hT := hT.1 hc35
        refine lv_iconst (v := 0) hx hb dX12_readDeed_69 (by decide) ?_
        refine lv_goto (tgt := 83) hx hb dX12_readDeed_70 (by decide) ?_
        exact w_X12_readDeed_83 X hr hk x1 r29 (x1 + (2 : Int32)) (0 : Int32) M33 _ _ ls hT h (lv_sub hl [1, 2, 0] rfl)
    · have hT := hT.1 hc30
      refine lv_aload_n hx hb dX12_readDeed_38 rfl (lv_at hl 1 rfl) ?_
      refine lv_iconst (v := 1) hx hb dX12_readDeed_39 (by decide) ?_
      refine fx_vi X h ym_X12_errs yi_X12_errs ys_X12_errs (fx_s7 (List.mem_of_getElem? (i := 153) rfl) rfl) sh_159 rfl (c_X12_errs l G hT) (As := [.int (1 : Int32)]) (rest := []) rfl rfl ⟨Nat.le_of_ble_eq_true rfl, Nat.le_of_ble_eq_true rfl⟩ ⟨Nat.le_refl _, Nat.le_refl _⟩ hl.1 (Nat.le_of_ble_eq_true rfl) dX12_readDeed_40 (fun r44 M43 H locs hT h => ?_)
      exact fx_iret X hr hk h hT dX12_readDeed_43
  · have hT := hT.1 hc26
    refine lv_iconst (v := -1) hx hb dX12_readDeed_26 (by decide) ?_
    exact fx_iret X hr hk h hT dX12_readDeed_27
/-! MockParcelsModel.readWeek()I -/
theorem dX12_readWeek_0 : decode cX12_readWeek 0 = .ok (.iconst 0, 1) := by decide +kernel
theorem dX12_readWeek_1 : decode cX12_readWeek 1 = .ok (.istore_n 1, 1) := by decide +kernel
theorem dX12_readWeek_2 : decode cX12_readWeek 2 = .ok (.aload_n 0, 1) := by decide +kernel
theorem dX12_readWeek_3 : decode cX12_readWeek 3 = .ok (.bipush 21, 2) := by decide +kernel
theorem dX12_readWeek_5 : decode cX12_readWeek 5 = .ok (.invokevirtual 247, 3) := by decide +kernel
theorem dX12_readWeek_8 : decode cX12_readWeek 8 = .ok (.ifCond .eq 38, 3) := by decide +kernel
theorem dX12_readWeek_11 : decode cX12_readWeek 11 = .ok (.iload_n 1, 1) := by decide +kernel
theorem dX12_readWeek_12 : decode cX12_readWeek 12 = .ok (.bipush 16, 2) := by decide +kernel
theorem dX12_readWeek_14 : decode cX12_readWeek 14 = .ok (.if_icmp .ne 9, 3) := by decide +kernel
theorem dX12_readWeek_17 : decode cX12_readWeek 17 = .ok (.aload_n 0, 1) := by decide +kernel
theorem dX12_readWeek_18 : decode cX12_readWeek 18 = .ok (.iconst 3, 1) := by decide +kernel
theorem dX12_readWeek_19 : decode cX12_readWeek 19 = .ok (.invokevirtual 218, 3) := by decide +kernel
theorem dX12_readWeek_22 : decode cX12_readWeek 22 = .ok (.ireturn, 1) := by decide +kernel
theorem dX12_readWeek_23 : decode cX12_readWeek 23 = .ok (.aload_n 0, 1) := by decide +kernel
theorem dX12_readWeek_24 : decode cX12_readWeek 24 = .ok (.bipush 64, 2) := by decide +kernel
theorem dX12_readWeek_26 : decode cX12_readWeek 26 = .ok (.iconst 4, 1) := by decide +kernel
theorem dX12_readWeek_27 : decode cX12_readWeek 27 = .ok (.iload_n 1, 1) := by decide +kernel
theorem dX12_readWeek_28 : decode cX12_readWeek 28 = .ok (.imul, 1) := by decide +kernel
theorem dX12_readWeek_29 : decode cX12_readWeek 29 = .ok (.iadd, 1) := by decide +kernel
theorem dX12_readWeek_30 : decode cX12_readWeek 30 = .ok (.invokevirtual 288, 3) := by decide +kernel
theorem dX12_readWeek_33 : decode cX12_readWeek 33 = .ok (.iconst (-1), 1) := by decide +kernel
theorem dX12_readWeek_34 : decode cX12_readWeek 34 = .ok (.if_icmp .ne 5, 3) := by decide +kernel
theorem dX12_readWeek_37 : decode cX12_readWeek 37 = .ok (.iconst (-1), 1) := by decide +kernel
theorem dX12_readWeek_38 : decode cX12_readWeek 38 = .ok (.ireturn, 1) := by decide +kernel
theorem dX12_readWeek_39 : decode cX12_readWeek 39 = .ok (.iload_n 1, 1) := by decide +kernel
theorem dX12_readWeek_40 : decode cX12_readWeek 40 = .ok (.iconst 1, 1) := by decide +kernel
theorem dX12_readWeek_41 : decode cX12_readWeek 41 = .ok (.iadd, 1) := by decide +kernel
theorem dX12_readWeek_42 : decode cX12_readWeek 42 = .ok (.istore_n 1, 1) := by decide +kernel
theorem dX12_readWeek_43 : decode cX12_readWeek 43 = .ok (.goto (-41), 3) := by decide +kernel
theorem dX12_readWeek_46 : decode cX12_readWeek 46 = .ok (.aload_n 0, 1) := by decide +kernel
theorem dX12_readWeek_47 : decode cX12_readWeek 47 = .ok (.getfield 188, 3) := by decide +kernel
theorem dX12_readWeek_50 : decode cX12_readWeek 50 = .ok (.ifCond .ne 7, 3) := by decide +kernel
theorem dX12_readWeek_53 : decode cX12_readWeek 53 = .ok (.iload_n 1, 1) := by decide +kernel
theorem dX12_readWeek_54 : decode cX12_readWeek 54 = .ok (.goto 8, 3) := by decide +kernel
theorem dX12_readWeek_57 : decode cX12_readWeek 57 = .ok (.aload_n 0, 1) := by decide +kernel
theorem dX12_readWeek_58 : decode cX12_readWeek 58 = .ok (.iconst 1, 1) := by decide +kernel
theorem dX12_readWeek_59 : decode cX12_readWeek 59 = .ok (.invokevirtual 218, 3) := by decide +kernel
theorem dX12_readWeek_62 : decode cX12_readWeek 62 = .ok (.ireturn, 1) := by decide +kernel
def T_X12_readWeek_2 : Nat → Int32 → Mm → (Int32 → Mm → Prop) → Prop
  | 0, _, _, _ => False
  | n + 1, x1, M, K => (T_X12_isWord (21 : Int32) M (fun r3 M2 => ((r3 = 0 → (((M2 159 18) = 0 → (K x1 M2)) ∧ (¬ (M2 159 18) = 0 → (T_X12_errs (1 : Int32) M2 (fun r8 M7 => (K r8 M7)))))) ∧ (¬ r3 = 0 → ((x1 = (16 : Int32) → (T_X12_errs (3 : Int32) M2 (fun r17 M16 => (K r17 M16)))) ∧ (¬ x1 = (16 : Int32) → (T_X12_readDeed ((64 : Int32) + ((4 : Int32) * x1)) M2 (fun r12 M11 => ((r12 = (-1 : Int32) → (K (-1 : Int32) M11)) ∧ (¬ r12 = (-1 : Int32) → (∀ y14 : Int32, y14 = (x1 + (1 : Int32)) → (T_X12_readWeek_2 n y14 M11 K))))))))))))
set_option maxHeartbeats 4000000 in
set_option maxRecDepth 100000 in
theorem w_X12_readWeek_2 {p : Program} {l : Launch} {e : Env} {s : State} {m : MethodId} {args : Array Value} {below : List Frame} {meth : Method} {c : Code} {G : fx_G} {K : Int32 → Mm → Prop} (X : fx_C G p s m c args cX12_readWeek 2 RX12) (hr : meth.sig.returnType = (some .int)) (hk : meth.locks = false) : ∀ (n : Nat) (x1 : Int32) (M : Mm) (H : Heap) (locs : List Loc) (ls : Array Slot), T_X12_readWeek_2 n x1 M K → fx_H G SH M s H locs → lv_has ls 2 [(0, .ref (G.2.2.2 + 159)), (1, .int x1)] → W p l e (fx_rm (6)) s m args below meth c H locs 0 0 (MQ below (va_Qi K (fx_R G SH) (fx_A G)) args s 0 0 (fx_A G)) (F0 m 2 ls []) := by
  obtain ⟨⟨hx, hb, hml, hown, hts⟩, hK, hQ⟩ := id X
  intro n
  induction n with
  | zero =>
    intro x1 M H locs ls hT
    exact hT.elim
  | succ n ih =>
    intro x1 M H locs ls hT h hl
    rw [T_X12_readWeek_2] at hT
    refine lv_aload_n hx hb dX12_readWeek_2 rfl (lv_at hl 0 rfl) ?_
    refine lv_bipush (v := 21) hx hb dX12_readWeek_3 (by decide) ?_
    refine fx_vi X h ym_X12_isWord yi_X12_isWord ys_X12_isWord (fx_s7 (List.mem_of_getElem? (i := 149) rfl) rfl) sh_159 rfl (c_X12_isWord l G hT) (As := [.int (21 : Int32)]) (rest := []) rfl rfl ⟨Nat.le_of_ble_eq_true rfl, Nat.le_of_ble_eq_true rfl⟩ ⟨Nat.le_refl _, Nat.le_refl _⟩ hl.1 (Nat.le_of_ble_eq_true rfl) dX12_readWeek_5 (fun r3 M2 H locs hT h => ?_)
    refine lv_if_eq (tgt := 46) hx hb dX12_readWeek_8 (by decide) (fun hc4 => ?_) (fun hc4 => ?_)
    · have hT := hT.1 hc4
      refine lv_aload_n hx hb dX12_readWeek_46 rfl (lv_at hl 0 rfl) ?_
      refine fx_getI X h (k := 159) (j := 18) sh_159 rfl fl_RX12_188 dX12_readWeek_47 ?_
      refine lv_if_ne (tgt := 57) hx hb dX12_readWeek_50 (by decide) (fun hc5 => ?_) (fun hc5 => ?_)
      · have hT := hT.2 hc5
        refine lv_aload_n hx hb dX12_readWeek_57 rfl (lv_at hl 0 rfl) ?_
        refine lv_iconst (v := 1) hx hb dX12_readWeek_58 (by decide) ?_
        refine fx_vi X h ym_X12_errs yi_X12_errs ys_X12_errs (fx_s7 (List.mem_of_getElem? (i := 153) rfl) rfl) sh_159 rfl (c_X12_errs l G hT) (As := [.int (1 : Int32)]) (rest := []) rfl rfl ⟨Nat.le_of_ble_eq_true rfl, Nat.le_of_ble_eq_true rfl⟩ ⟨Nat.le_refl _, Nat.le_refl _⟩ hl.1 (Nat.le_of_ble_eq_true rfl) dX12_readWeek_59 (fun r8 M7 H locs hT h => ?_)
        exact fx_iret X hr hk h hT dX12_readWeek_62
      · have hT := hT.1 hc5
        refine lv_iload_n hx hb dX12_readWeek_53 rfl (lv_at hl 1 rfl) ?_
        refine lv_goto (tgt := 62) hx hb dX12_readWeek_54 (by decide) ?_
        exact fx_iret X hr hk h hT dX12_readWeek_62
    · have hT := hT.2 hc4
      refine lv_iload_n hx hb dX12_readWeek_11 rfl (lv_at hl 1 rfl) ?_
      refine lv_bipush (v := 16) hx hb dX12_readWeek_12 (by decide) ?_
      refine lv_icmp_ne (tgt := 23) hx hb dX12_readWeek_14 (by decide) (fun hc9 => ?_) (fun hc9 => ?_)
      · have hT := hT.2 hc9
        refine lv_aload_n hx hb dX12_readWeek_23 rfl (lv_at hl 0 rfl) ?_
        refine lv_bipush (v := 64) hx hb dX12_readWeek_24 (by decide) ?_
        refine lv_iconst (v := 4) hx hb dX12_readWeek_26 (by decide) ?_
        refine lv_iload_n hx hb dX12_readWeek_27 rfl (lv_at hl 1 rfl) ?_
        refine lv_imul hx hb dX12_readWeek_28 ?_
        refine lv_iadd hx hb dX12_readWeek_29 ?_
        refine fx_vi X h ym_X12_readDeed yi_X12_readDeed ys_X12_readDeed (fx_s7 (List.mem_of_getElem? (i := 181) rfl) rfl) sh_159 rfl (c_X12_readDeed l G hT) (As := [.int ((64 : Int32) + ((4 : Int32) * x1))]) (rest := []) rfl rfl ⟨Nat.le_of_ble_eq_true rfl, Nat.le_of_ble_eq_true rfl⟩ ⟨Nat.le_refl _, Nat.le_refl _⟩ hl.1 (Nat.le_of_ble_eq_true rfl) dX12_readWeek_30 (fun r12 M11 H locs hT h => ?_)
        refine lv_iconst (v := -1) hx hb dX12_readWeek_33 (by decide) ?_
        refine lv_icmp_ne (tgt := 39) hx hb dX12_readWeek_34 (by decide) (fun hc13 => ?_) (fun hc13 => ?_)
        · have hT := hT.2 hc13
          refine lv_iload_n hx hb dX12_readWeek_39 rfl (lv_at hl 1 rfl) ?_
          refine lv_iconst (v := 1) hx hb dX12_readWeek_40 (by decide) ?_
          refine lv_iadd hx hb dX12_readWeek_41 ?_
          refine lv_topi (fun y14 ey14 => ?_)
          have hT := hT y14 ey14
          refine lv_istore_n (lv' := [(1, .int y14), (0, .ref (G.2.2.2 + 159))]) hx hb dX12_readWeek_42 rfl hl (by decide) rfl (fun ls hl => ?_)
          refine lv_goto (tgt := 2) hx hb dX12_readWeek_43 (by decide) ?_
          exact ih y14 M11 _ _ ls hT h (lv_sub hl [1, 0] rfl)
        · have hT := hT.1 hc13
          refine lv_iconst (v := -1) hx hb dX12_readWeek_37 (by decide) ?_
          exact fx_iret X hr hk h hT dX12_readWeek_38
      · have hT := hT.1 hc9
        refine lv_aload_n hx hb dX12_readWeek_17 rfl (lv_at hl 0 rfl) ?_
        refine lv_iconst (v := 3) hx hb dX12_readWeek_18 (by decide) ?_
        refine fx_vi X h ym_X12_errs yi_X12_errs ys_X12_errs (fx_s7 (List.mem_of_getElem? (i := 153) rfl) rfl) sh_159 rfl (c_X12_errs l G hT) (As := [.int (3 : Int32)]) (rest := []) rfl rfl ⟨Nat.le_of_ble_eq_true rfl, Nat.le_of_ble_eq_true rfl⟩ ⟨Nat.le_refl _, Nat.le_refl _⟩ hl.1 (Nat.le_of_ble_eq_true rfl) dX12_readWeek_19 (fun r17 M16 H locs hT h => ?_)
        exact fx_iret X hr hk h hT dX12_readWeek_22
def T_X12_readWeek (M : Mm) (K : Int32 → Mm → Prop) : Prop := (T_X12_readWeek_2 5000 (0 : Int32) M K)
set_option maxHeartbeats 4000000 in
set_option maxRecDepth 100000 in
theorem c_X12_readWeek (l : Launch) (G : fx_G) {M : Mm} {K : Int32 → Mm → Prop} (hT : T_X12_readWeek M K) : Met l yX12_readWeek (fx_ws yX12_readWeek cX12_readWeek 2 (some .int)) (fx_rm (6)) (va_Pc [.ref (G.2.2.2 + 159)] (fx_P G SH M)) (va_Qi K (fx_R G SH) (fx_A G)) 0 0 (fx_A G) := by
  refine fx_met (own := RX12) (by decide +kernel) rfl (Nat.le_of_ble_eq_true rfl) (fun p e s m below meth c X hr hk h ls hl => ?_)
  obtain ⟨⟨hx, hb, hml, hown, hts⟩, hK, hQ⟩ := id X
  have hl : lv_has ls 2 [(0, .ref (G.2.2.2 + 159))] := hl
  unfold T_X12_readWeek at hT
  refine lv_iconst (v := 0) hx hb dX12_readWeek_0 (by decide) ?_
  refine lv_istore_n (lv' := [(1, .int (0 : Int32)), (0, .ref (G.2.2.2 + 159))]) hx hb dX12_readWeek_1 rfl hl (by decide) rfl (fun ls hl => ?_)
  exact w_X12_readWeek_2 X hr hk 5000 (0 : Int32) M _ _ ls hT h (lv_sub hl [1, 0] rfl)
/-! MockParcelsModel.readWant()I -/
theorem dX12_readWant_0 : decode cX12_readWant 0 = .ok (.aload_n 0, 1) := by decide +kernel
theorem dX12_readWant_1 : decode cX12_readWant 1 = .ok (.bipush 19, 2) := by decide +kernel
theorem dX12_readWant_3 : decode cX12_readWant 3 = .ok (.iconst 0, 1) := by decide +kernel
theorem dX12_readWant_4 : decode cX12_readWant 4 = .ok (.aload_n 0, 1) := by decide +kernel
theorem dX12_readWant_5 : decode cX12_readWant 5 = .ok (.getfield 150, 3) := by decide +kernel
theorem dX12_readWant_8 : decode cX12_readWant 8 = .ok (.iconst 1, 1) := by decide +kernel
theorem dX12_readWant_9 : decode cX12_readWant 9 = .ok (.isub, 1) := by decide +kernel
theorem dX12_readWant_10 : decode cX12_readWant 10 = .ok (.invokevirtual 272, 3) := by decide +kernel
theorem dX12_readWant_13 : decode cX12_readWant 13 = .ok (.istore_n 1, 1) := by decide +kernel
theorem dX12_readWant_14 : decode cX12_readWant 14 = .ok (.iload_n 1, 1) := by decide +kernel
theorem dX12_readWant_15 : decode cX12_readWant 15 = .ok (.iconst (-1), 1) := by decide +kernel
theorem dX12_readWant_16 : decode cX12_readWant 16 = .ok (.if_icmp .ne 5, 3) := by decide +kernel
theorem dX12_readWant_19 : decode cX12_readWant 19 = .ok (.iconst (-1), 1) := by decide +kernel
theorem dX12_readWant_20 : decode cX12_readWant 20 = .ok (.ireturn, 1) := by decide +kernel
theorem dX12_readWant_21 : decode cX12_readWant 21 = .ok (.aload_n 0, 1) := by decide +kernel
theorem dX12_readWant_22 : decode cX12_readWant 22 = .ok (.bipush 26, 2) := by decide +kernel
theorem dX12_readWant_24 : decode cX12_readWant 24 = .ok (.iconst 1, 1) := by decide +kernel
theorem dX12_readWant_25 : decode cX12_readWant 25 = .ok (.bipush 7, 2) := by decide +kernel
theorem dX12_readWant_27 : decode cX12_readWant 27 = .ok (.invokevirtual 272, 3) := by decide +kernel
theorem dX12_readWant_30 : decode cX12_readWant 30 = .ok (.istore_n 2, 1) := by decide +kernel
theorem dX12_readWant_31 : decode cX12_readWant 31 = .ok (.iload_n 2, 1) := by decide +kernel
theorem dX12_readWant_32 : decode cX12_readWant 32 = .ok (.iconst (-1), 1) := by decide +kernel
theorem dX12_readWant_33 : decode cX12_readWant 33 = .ok (.if_icmp .ne 5, 3) := by decide +kernel
theorem dX12_readWant_36 : decode cX12_readWant 36 = .ok (.iconst (-1), 1) := by decide +kernel
theorem dX12_readWant_37 : decode cX12_readWant 37 = .ok (.ireturn, 1) := by decide +kernel
theorem dX12_readWant_38 : decode cX12_readWant 38 = .ok (.aload_n 0, 1) := by decide +kernel
theorem dX12_readWant_39 : decode cX12_readWant 39 = .ok (.bipush 27, 2) := by decide +kernel
theorem dX12_readWant_41 : decode cX12_readWant 41 = .ok (.iconst 0, 1) := by decide +kernel
theorem dX12_readWant_42 : decode cX12_readWant 42 = .ok (.bipush 99, 2) := by decide +kernel
theorem dX12_readWant_44 : decode cX12_readWant 44 = .ok (.invokevirtual 272, 3) := by decide +kernel
theorem dX12_readWant_47 : decode cX12_readWant 47 = .ok (.istore_n 3, 1) := by decide +kernel
theorem dX12_readWant_48 : decode cX12_readWant 48 = .ok (.iload_n 3, 1) := by decide +kernel
theorem dX12_readWant_49 : decode cX12_readWant 49 = .ok (.iconst (-1), 1) := by decide +kernel
theorem dX12_readWant_50 : decode cX12_readWant 50 = .ok (.if_icmp .ne 5, 3) := by decide +kernel
theorem dX12_readWant_53 : decode cX12_readWant 53 = .ok (.iconst (-1), 1) := by decide +kernel
theorem dX12_readWant_54 : decode cX12_readWant 54 = .ok (.ireturn, 1) := by decide +kernel
theorem dX12_readWant_55 : decode cX12_readWant 55 = .ok (.aload_n 0, 1) := by decide +kernel
theorem dX12_readWant_56 : decode cX12_readWant 56 = .ok (.getfield 77, 3) := by decide +kernel
theorem dX12_readWant_59 : decode cX12_readWant 59 = .ok (.bipush 64, 2) := by decide +kernel
theorem dX12_readWant_61 : decode cX12_readWant 61 = .ok (.bipush 8, 2) := by decide +kernel
theorem dX12_readWant_63 : decode cX12_readWant 63 = .ok (.iload_n 1, 1) := by decide +kernel
theorem dX12_readWant_64 : decode cX12_readWant 64 = .ok (.imul, 1) := by decide +kernel
theorem dX12_readWant_65 : decode cX12_readWant 65 = .ok (.iadd, 1) := by decide +kernel
theorem dX12_readWant_66 : decode cX12_readWant 66 = .ok (.iload_n 2, 1) := by decide +kernel
theorem dX12_readWant_67 : decode cX12_readWant 67 = .ok (.iadd, 1) := by decide +kernel
theorem dX12_readWant_68 : decode cX12_readWant 68 = .ok (.iload_n 3, 1) := by decide +kernel
theorem dX12_readWant_69 : decode cX12_readWant 69 = .ok (.iastore, 1) := by decide +kernel
theorem dX12_readWant_70 : decode cX12_readWant 70 = .ok (.aload_n 0, 1) := by decide +kernel
theorem dX12_readWant_71 : decode cX12_readWant 71 = .ok (.bipush 59, 2) := by decide +kernel
theorem dX12_readWant_73 : decode cX12_readWant 73 = .ok (.invokevirtual 276, 3) := by decide +kernel
theorem dX12_readWant_76 : decode cX12_readWant 76 = .ok (.ireturn, 1) := by decide +kernel
def T_X12_readWant (M : Mm) (K : Int32 → Mm → Prop) : Prop := (T_X12_readTold (19 : Int32) (0 : Int32) ((M 159 7) - (1 : Int32)) M (fun r3 M2 => ((r3 = (-1 : Int32) → (K (-1 : Int32) M2)) ∧ (¬ r3 = (-1 : Int32) → (T_X12_readTold (26 : Int32) (1 : Int32) (7 : Int32) M2 (fun r7 M6 => ((r7 = (-1 : Int32) → (K (-1 : Int32) M6)) ∧ (¬ r7 = (-1 : Int32) → (T_X12_readTold (27 : Int32) (0 : Int32) (99 : Int32) M6 (fun r11 M10 => ((r11 = (-1 : Int32) → (K (-1 : Int32) M10)) ∧ (¬ r11 = (-1 : Int32) → (vp_in (((64 : Int32) + ((8 : Int32) * r3)) + r7) 128 ∧ (∀ M13 : Mm, M13 = m_up M10 181 ((((64 : Int32) + ((8 : Int32) * r3)) + r7)).toNatClampNeg r11 → (T_X12_readMark (59 : Int32) M13 (fun r17 M16 => (K r17 M16)))))))))))))))))
set_option maxHeartbeats 4000000 in
set_option maxRecDepth 100000 in
theorem c_X12_readWant (l : Launch) (G : fx_G) {M : Mm} {K : Int32 → Mm → Prop} (hT : T_X12_readWant M K) : Met l yX12_readWant (fx_ws yX12_readWant cX12_readWant 4 (some .int)) (fx_rm (5)) (va_Pc [.ref (G.2.2.2 + 159)] (fx_P G SH M)) (va_Qi K (fx_R G SH) (fx_A G)) 0 0 (fx_A G) := by
  refine fx_met (own := RX12) (by decide +kernel) rfl (Nat.le_of_ble_eq_true rfl) (fun p e s m below meth c X hr hk h ls hl => ?_)
  obtain ⟨⟨hx, hb, hml, hown, hts⟩, hK, hQ⟩ := id X
  have hl : lv_has ls 4 [(0, .ref (G.2.2.2 + 159))] := hl
  unfold T_X12_readWant at hT
  refine lv_aload_n hx hb dX12_readWant_0 rfl (lv_at hl 0 rfl) ?_
  refine lv_bipush (v := 19) hx hb dX12_readWant_1 (by decide) ?_
  refine lv_iconst (v := 0) hx hb dX12_readWant_3 (by decide) ?_
  refine lv_aload_n hx hb dX12_readWant_4 rfl (lv_at hl 0 rfl) ?_
  refine fx_getI X h (k := 159) (j := 7) sh_159 rfl fl_RX12_150 dX12_readWant_5 ?_
  refine lv_iconst (v := 1) hx hb dX12_readWant_8 (by decide) ?_
  refine lv_isub hx hb dX12_readWant_9 ?_
  refine fx_vi X h ym_X12_readTold yi_X12_readTold ys_X12_readTold (fx_s7 (List.mem_of_getElem? (i := 161) rfl) rfl) sh_159 rfl (c_X12_readTold l G hT) (As := [.int (19 : Int32), .int (0 : Int32), .int ((M 159 7) - (1 : Int32))]) (rest := []) rfl rfl ⟨Nat.le_of_ble_eq_true rfl, Nat.le_of_ble_eq_true rfl⟩ ⟨Nat.le_refl _, Nat.le_refl _⟩ hl.1 (Nat.le_of_ble_eq_true rfl) dX12_readWant_10 (fun r3 M2 H locs hT h => ?_)
  refine lv_istore_n (lv' := [(1, .int r3), (0, .ref (G.2.2.2 + 159))]) hx hb dX12_readWant_13 rfl hl (by decide) rfl (fun ls hl => ?_)
  refine lv_iload_n hx hb dX12_readWant_14 rfl (lv_at hl 0 rfl) ?_
  refine lv_iconst (v := -1) hx hb dX12_readWant_15 (by decide) ?_
  refine lv_icmp_ne (tgt := 21) hx hb dX12_readWant_16 (by decide) (fun hc4 => ?_) (fun hc4 => ?_)
  · have hT := hT.2 hc4
    refine lv_aload_n hx hb dX12_readWant_21 rfl (lv_at hl 1 rfl) ?_
    refine lv_bipush (v := 26) hx hb dX12_readWant_22 (by decide) ?_
    refine lv_iconst (v := 1) hx hb dX12_readWant_24 (by decide) ?_
    refine lv_bipush (v := 7) hx hb dX12_readWant_25 (by decide) ?_
    refine fx_vi X h ym_X12_readTold yi_X12_readTold ys_X12_readTold (fx_s7 (List.mem_of_getElem? (i := 161) rfl) rfl) sh_159 rfl (c_X12_readTold l G hT) (As := [.int (26 : Int32), .int (1 : Int32), .int (7 : Int32)]) (rest := []) rfl rfl ⟨Nat.le_of_ble_eq_true rfl, Nat.le_of_ble_eq_true rfl⟩ ⟨Nat.le_refl _, Nat.le_refl _⟩ hl.1 (Nat.le_of_ble_eq_true rfl) dX12_readWant_27 (fun r7 M6 H locs hT h => ?_)
    refine lv_istore_n (lv' := [(2, .int r7), (1, .int r3), (0, .ref (G.2.2.2 + 159))]) hx hb dX12_readWant_30 rfl hl (by decide) rfl (fun ls hl => ?_)
    refine lv_iload_n hx hb dX12_readWant_31 rfl (lv_at hl 0 rfl) ?_
    refine lv_iconst (v := -1) hx hb dX12_readWant_32 (by decide) ?_
    refine lv_icmp_ne (tgt := 38) hx hb dX12_readWant_33 (by decide) (fun hc8 => ?_) (fun hc8 => ?_)
    · have hT := hT.2 hc8
      refine lv_aload_n hx hb dX12_readWant_38 rfl (lv_at hl 2 rfl) ?_
      refine lv_bipush (v := 27) hx hb dX12_readWant_39 (by decide) ?_
      refine lv_iconst (v := 0) hx hb dX12_readWant_41 (by decide) ?_
      refine lv_bipush (v := 99) hx hb dX12_readWant_42 (by decide) ?_
      refine fx_vi X h ym_X12_readTold yi_X12_readTold ys_X12_readTold (fx_s7 (List.mem_of_getElem? (i := 161) rfl) rfl) sh_159 rfl (c_X12_readTold l G hT) (As := [.int (27 : Int32), .int (0 : Int32), .int (99 : Int32)]) (rest := []) rfl rfl ⟨Nat.le_of_ble_eq_true rfl, Nat.le_of_ble_eq_true rfl⟩ ⟨Nat.le_refl _, Nat.le_refl _⟩ hl.1 (Nat.le_of_ble_eq_true rfl) dX12_readWant_44 (fun r11 M10 H locs hT h => ?_)
      refine lv_istore_n (lv' := [(3, .int r11), (2, .int r7), (1, .int r3), (0, .ref (G.2.2.2 + 159))]) hx hb dX12_readWant_47 rfl hl (by decide) rfl (fun ls hl => ?_)
      refine lv_iload_n hx hb dX12_readWant_48 rfl (lv_at hl 0 rfl) ?_
      refine lv_iconst (v := -1) hx hb dX12_readWant_49 (by decide) ?_
      refine lv_icmp_ne (tgt := 55) hx hb dX12_readWant_50 (by decide) (fun hc12 => ?_) (fun hc12 => ?_)
      · have hT := hT.2 hc12
        refine lv_aload_n hx hb dX12_readWant_55 rfl (lv_at hl 3 rfl) ?_
        refine fx_getR X h (k := 159) (j := 42) (r := 181) sh_159 rfl fl_RX12_77 dX12_readWant_56 ?_
        refine lv_bipush (v := 64) hx hb dX12_readWant_59 (by decide) ?_
        refine lv_bipush (v := 8) hx hb dX12_readWant_61 (by decide) ?_
        refine lv_iload_n hx hb dX12_readWant_63 rfl (lv_at hl 2 rfl) ?_
        refine lv_imul hx hb dX12_readWant_64 ?_
        refine lv_iadd hx hb dX12_readWant_65 ?_
        refine lv_iload_n hx hb dX12_readWant_66 rfl (lv_at hl 1 rfl) ?_
        refine lv_iadd hx hb dX12_readWant_67 ?_
        refine lv_iload_n hx hb dX12_readWant_68 rfl (lv_at hl 0 rfl) ?_
        obtain ⟨hi14, hT⟩ := hT
        refine fx_iast X h (k := 181) sh_181 hi14 dX12_readWant_69 (fun H locs h => ?_)
        obtain ⟨M13, eM13⟩ : ∃ z : Mm, z = m_up M10 181 ((((64 : Int32) + ((8 : Int32) * r3)) + r7)).toNatClampNeg r11 := ⟨_, rfl⟩
        have hT := hT M13 eM13
        rw [← eM13] at h
        refine lv_aload_n hx hb dX12_readWant_70 rfl (lv_at hl 3 rfl) ?_
        refine lv_bipush (v := 59) hx hb dX12_readWant_71 (by decide) ?_
        refine fx_vi X h ym_X12_readMark yi_X12_readMark ys_X12_readMark (fx_s7 (List.mem_of_getElem? (i := 169) rfl) rfl) sh_159 rfl (c_X12_readMark l G hT) (As := [.int (59 : Int32)]) (rest := []) rfl rfl ⟨Nat.le_of_ble_eq_true rfl, Nat.le_of_ble_eq_true rfl⟩ ⟨Nat.le_refl _, Nat.le_refl _⟩ hl.1 (Nat.le_of_ble_eq_true rfl) dX12_readWant_73 (fun r17 M16 H locs hT h => ?_)
        exact fx_iret X hr hk h hT dX12_readWant_76
      · have hT := hT.1 hc12
        refine lv_iconst (v := -1) hx hb dX12_readWant_53 (by decide) ?_
        exact fx_iret X hr hk h hT dX12_readWant_54
    · have hT := hT.1 hc8
      refine lv_iconst (v := -1) hx hb dX12_readWant_36 (by decide) ?_
      exact fx_iret X hr hk h hT dX12_readWant_37
  · have hT := hT.1 hc4
    refine lv_iconst (v := -1) hx hb dX12_readWant_19 (by decide) ?_
    exact fx_iret X hr hk h hT dX12_readWant_20
/-! MockParcelsModel.readWants()I -/
theorem dX12_readWants_0 : decode cX12_readWants 0 = .ok (.iconst 0, 1) := by decide +kernel
theorem dX12_readWants_1 : decode cX12_readWants 1 = .ok (.istore_n 1, 1) := by decide +kernel
theorem dX12_readWants_2 : decode cX12_readWants 2 = .ok (.iload_n 1, 1) := by decide +kernel
theorem dX12_readWants_3 : decode cX12_readWants 3 = .ok (.bipush 64, 2) := by decide +kernel
theorem dX12_readWants_5 : decode cX12_readWants 5 = .ok (.if_icmp .ge 19, 3) := by decide +kernel
theorem dX12_readWants_8 : decode cX12_readWants 8 = .ok (.aload_n 0, 1) := by decide +kernel
theorem dX12_readWants_9 : decode cX12_readWants 9 = .ok (.getfield 77, 3) := by decide +kernel
theorem dX12_readWants_12 : decode cX12_readWants 12 = .ok (.bipush 64, 2) := by decide +kernel
theorem dX12_readWants_14 : decode cX12_readWants 14 = .ok (.iload_n 1, 1) := by decide +kernel
theorem dX12_readWants_15 : decode cX12_readWants 15 = .ok (.iadd, 1) := by decide +kernel
theorem dX12_readWants_16 : decode cX12_readWants 16 = .ok (.iconst 0, 1) := by decide +kernel
theorem dX12_readWants_17 : decode cX12_readWants 17 = .ok (.iastore, 1) := by decide +kernel
theorem dX12_readWants_18 : decode cX12_readWants 18 = .ok (.iinc 1 1, 3) := by decide +kernel
theorem dX12_readWants_21 : decode cX12_readWants 21 = .ok (.goto (-19), 3) := by decide +kernel
theorem dX12_readWants_24 : decode cX12_readWants 24 = .ok (.iconst 0, 1) := by decide +kernel
theorem dX12_readWants_25 : decode cX12_readWants 25 = .ok (.istore_n 1, 1) := by decide +kernel
theorem dX12_readWants_26 : decode cX12_readWants 26 = .ok (.aload_n 0, 1) := by decide +kernel
theorem dX12_readWants_27 : decode cX12_readWants 27 = .ok (.bipush 19, 2) := by decide +kernel
theorem dX12_readWants_29 : decode cX12_readWants 29 = .ok (.invokevirtual 247, 3) := by decide +kernel
theorem dX12_readWants_32 : decode cX12_readWants 32 = .ok (.ifCond .eq 32, 3) := by decide +kernel
theorem dX12_readWants_35 : decode cX12_readWants 35 = .ok (.iload_n 1, 1) := by decide +kernel
theorem dX12_readWants_36 : decode cX12_readWants 36 = .ok (.bipush 16, 2) := by decide +kernel
theorem dX12_readWants_38 : decode cX12_readWants 38 = .ok (.if_icmp .ne 9, 3) := by decide +kernel
theorem dX12_readWants_41 : decode cX12_readWants 41 = .ok (.aload_n 0, 1) := by decide +kernel
theorem dX12_readWants_42 : decode cX12_readWants 42 = .ok (.iconst 3, 1) := by decide +kernel
theorem dX12_readWants_43 : decode cX12_readWants 43 = .ok (.invokevirtual 218, 3) := by decide +kernel
theorem dX12_readWants_46 : decode cX12_readWants 46 = .ok (.ireturn, 1) := by decide +kernel
theorem dX12_readWants_47 : decode cX12_readWants 47 = .ok (.aload_n 0, 1) := by decide +kernel
theorem dX12_readWants_48 : decode cX12_readWants 48 = .ok (.invokevirtual 291, 3) := by decide +kernel
theorem dX12_readWants_51 : decode cX12_readWants 51 = .ok (.iconst (-1), 1) := by decide +kernel
theorem dX12_readWants_52 : decode cX12_readWants 52 = .ok (.if_icmp .ne 5, 3) := by decide +kernel
theorem dX12_readWants_55 : decode cX12_readWants 55 = .ok (.iconst (-1), 1) := by decide +kernel
theorem dX12_readWants_56 : decode cX12_readWants 56 = .ok (.ireturn, 1) := by decide +kernel
theorem dX12_readWants_57 : decode cX12_readWants 57 = .ok (.iload_n 1, 1) := by decide +kernel
theorem dX12_readWants_58 : decode cX12_readWants 58 = .ok (.iconst 1, 1) := by decide +kernel
theorem dX12_readWants_59 : decode cX12_readWants 59 = .ok (.iadd, 1) := by decide +kernel
theorem dX12_readWants_60 : decode cX12_readWants 60 = .ok (.istore_n 1, 1) := by decide +kernel
theorem dX12_readWants_61 : decode cX12_readWants 61 = .ok (.goto (-35), 3) := by decide +kernel
theorem dX12_readWants_64 : decode cX12_readWants 64 = .ok (.aload_n 0, 1) := by decide +kernel
theorem dX12_readWants_65 : decode cX12_readWants 65 = .ok (.getfield 188, 3) := by decide +kernel
theorem dX12_readWants_68 : decode cX12_readWants 68 = .ok (.ifCond .ne 7, 3) := by decide +kernel
theorem dX12_readWants_71 : decode cX12_readWants 71 = .ok (.iload_n 1, 1) := by decide +kernel
theorem dX12_readWants_72 : decode cX12_readWants 72 = .ok (.goto 8, 3) := by decide +kernel
theorem dX12_readWants_75 : decode cX12_readWants 75 = .ok (.aload_n 0, 1) := by decide +kernel
theorem dX12_readWants_76 : decode cX12_readWants 76 = .ok (.iconst 1, 1) := by decide +kernel
theorem dX12_readWants_77 : decode cX12_readWants 77 = .ok (.invokevirtual 218, 3) := by decide +kernel
theorem dX12_readWants_80 : decode cX12_readWants 80 = .ok (.ireturn, 1) := by decide +kernel
def T_X12_readWants_26 : Nat → Int32 → Mm → (Int32 → Mm → Prop) → Prop
  | 0, _, _, _ => False
  | n + 1, x1, M, K => (T_X12_isWord (19 : Int32) M (fun r3 M2 => ((r3 = 0 → (((M2 159 18) = 0 → (K x1 M2)) ∧ (¬ (M2 159 18) = 0 → (T_X12_errs (1 : Int32) M2 (fun r8 M7 => (K r8 M7)))))) ∧ (¬ r3 = 0 → ((x1 = (16 : Int32) → (T_X12_errs (3 : Int32) M2 (fun r17 M16 => (K r17 M16)))) ∧ (¬ x1 = (16 : Int32) → (T_X12_readWant M2 (fun r12 M11 => ((r12 = (-1 : Int32) → (K (-1 : Int32) M11)) ∧ (¬ r12 = (-1 : Int32) → (∀ y14 : Int32, y14 = (x1 + (1 : Int32)) → (T_X12_readWants_26 n y14 M11 K))))))))))))
set_option maxHeartbeats 4000000 in
set_option maxRecDepth 100000 in
theorem w_X12_readWants_26 {p : Program} {l : Launch} {e : Env} {s : State} {m : MethodId} {args : Array Value} {below : List Frame} {meth : Method} {c : Code} {G : fx_G} {K : Int32 → Mm → Prop} (X : fx_C G p s m c args cX12_readWants 2 RX12) (hr : meth.sig.returnType = (some .int)) (hk : meth.locks = false) : ∀ (n : Nat) (x1 : Int32) (M : Mm) (H : Heap) (locs : List Loc) (ls : Array Slot), T_X12_readWants_26 n x1 M K → fx_H G SH M s H locs → lv_has ls 2 [(0, .ref (G.2.2.2 + 159)), (1, .int x1)] → W p l e (fx_rm (6)) s m args below meth c H locs 0 0 (MQ below (va_Qi K (fx_R G SH) (fx_A G)) args s 0 0 (fx_A G)) (F0 m 26 ls []) := by
  obtain ⟨⟨hx, hb, hml, hown, hts⟩, hK, hQ⟩ := id X
  intro n
  induction n with
  | zero =>
    intro x1 M H locs ls hT
    exact hT.elim
  | succ n ih =>
    intro x1 M H locs ls hT h hl
    rw [T_X12_readWants_26] at hT
    refine lv_aload_n hx hb dX12_readWants_26 rfl (lv_at hl 0 rfl) ?_
    refine lv_bipush (v := 19) hx hb dX12_readWants_27 (by decide) ?_
    refine fx_vi X h ym_X12_isWord yi_X12_isWord ys_X12_isWord (fx_s7 (List.mem_of_getElem? (i := 149) rfl) rfl) sh_159 rfl (c_X12_isWord l G hT) (As := [.int (19 : Int32)]) (rest := []) rfl rfl ⟨Nat.le_of_ble_eq_true rfl, Nat.le_of_ble_eq_true rfl⟩ ⟨Nat.le_refl _, Nat.le_refl _⟩ hl.1 (Nat.le_of_ble_eq_true rfl) dX12_readWants_29 (fun r3 M2 H locs hT h => ?_)
    refine lv_if_eq (tgt := 64) hx hb dX12_readWants_32 (by decide) (fun hc4 => ?_) (fun hc4 => ?_)
    · have hT := hT.1 hc4
      refine lv_aload_n hx hb dX12_readWants_64 rfl (lv_at hl 0 rfl) ?_
      refine fx_getI X h (k := 159) (j := 18) sh_159 rfl fl_RX12_188 dX12_readWants_65 ?_
      refine lv_if_ne (tgt := 75) hx hb dX12_readWants_68 (by decide) (fun hc5 => ?_) (fun hc5 => ?_)
      · have hT := hT.2 hc5
        refine lv_aload_n hx hb dX12_readWants_75 rfl (lv_at hl 0 rfl) ?_
        refine lv_iconst (v := 1) hx hb dX12_readWants_76 (by decide) ?_
        refine fx_vi X h ym_X12_errs yi_X12_errs ys_X12_errs (fx_s7 (List.mem_of_getElem? (i := 153) rfl) rfl) sh_159 rfl (c_X12_errs l G hT) (As := [.int (1 : Int32)]) (rest := []) rfl rfl ⟨Nat.le_of_ble_eq_true rfl, Nat.le_of_ble_eq_true rfl⟩ ⟨Nat.le_refl _, Nat.le_refl _⟩ hl.1 (Nat.le_of_ble_eq_true rfl) dX12_readWants_77 (fun r8 M7 H locs hT h => ?_)
        exact fx_iret X hr hk h hT dX12_readWants_80
      · have hT := hT.1 hc5
        refine lv_iload_n hx hb dX12_readWants_71 rfl (lv_at hl 1 rfl) ?_
        refine lv_goto (tgt := 80) hx hb dX12_readWants_72 (by decide) ?_
        exact fx_iret X hr hk h hT dX12_readWants_80
    · have hT := hT.2 hc4
      refine lv_iload_n hx hb dX12_readWants_35 rfl (lv_at hl 1 rfl) ?_
      refine lv_bipush (v := 16) hx hb dX12_readWants_36 (by decide) ?_
      refine lv_icmp_ne (tgt := 47) hx hb dX12_readWants_38 (by decide) (fun hc9 => ?_) (fun hc9 => ?_)
      · have hT := hT.2 hc9
        refine lv_aload_n hx hb dX12_readWants_47 rfl (lv_at hl 0 rfl) ?_
        refine fx_vi X h ym_X12_readWant yi_X12_readWant ys_X12_readWant (fx_s7 (List.mem_of_getElem? (i := 197) rfl) rfl) sh_159 rfl (c_X12_readWant l G hT) (As := []) (rest := []) rfl rfl ⟨Nat.le_of_ble_eq_true rfl, Nat.le_of_ble_eq_true rfl⟩ ⟨Nat.le_refl _, Nat.le_refl _⟩ hl.1 (Nat.le_of_ble_eq_true rfl) dX12_readWants_48 (fun r12 M11 H locs hT h => ?_)
        refine lv_iconst (v := -1) hx hb dX12_readWants_51 (by decide) ?_
        refine lv_icmp_ne (tgt := 57) hx hb dX12_readWants_52 (by decide) (fun hc13 => ?_) (fun hc13 => ?_)
        · have hT := hT.2 hc13
          refine lv_iload_n hx hb dX12_readWants_57 rfl (lv_at hl 1 rfl) ?_
          refine lv_iconst (v := 1) hx hb dX12_readWants_58 (by decide) ?_
          refine lv_iadd hx hb dX12_readWants_59 ?_
          refine lv_topi (fun y14 ey14 => ?_)
          have hT := hT y14 ey14
          refine lv_istore_n (lv' := [(1, .int y14), (0, .ref (G.2.2.2 + 159))]) hx hb dX12_readWants_60 rfl hl (by decide) rfl (fun ls hl => ?_)
          refine lv_goto (tgt := 26) hx hb dX12_readWants_61 (by decide) ?_
          exact ih y14 M11 _ _ ls hT h (lv_sub hl [1, 0] rfl)
        · have hT := hT.1 hc13
          refine lv_iconst (v := -1) hx hb dX12_readWants_55 (by decide) ?_
          exact fx_iret X hr hk h hT dX12_readWants_56
      · have hT := hT.1 hc9
        refine lv_aload_n hx hb dX12_readWants_41 rfl (lv_at hl 0 rfl) ?_
        refine lv_iconst (v := 3) hx hb dX12_readWants_42 (by decide) ?_
        refine fx_vi X h ym_X12_errs yi_X12_errs ys_X12_errs (fx_s7 (List.mem_of_getElem? (i := 153) rfl) rfl) sh_159 rfl (c_X12_errs l G hT) (As := [.int (3 : Int32)]) (rest := []) rfl rfl ⟨Nat.le_of_ble_eq_true rfl, Nat.le_of_ble_eq_true rfl⟩ ⟨Nat.le_refl _, Nat.le_refl _⟩ hl.1 (Nat.le_of_ble_eq_true rfl) dX12_readWants_43 (fun r17 M16 H locs hT h => ?_)
        exact fx_iret X hr hk h hT dX12_readWants_46
def T_X12_readWants_2 : Nat → Int32 → Mm → (Int32 → Mm → Prop) → Prop
  | 0, _, _, _ => False
  | n + 1, x1, M, K => (((64 : Int32) ≤ x1 → (T_X12_readWants_26 5000 (0 : Int32) M K)) ∧ (¬ (64 : Int32) ≤ x1 → (vp_in ((64 : Int32) + x1) 128 ∧ (∀ M19 : Mm, M19 = m_up M 181 (((64 : Int32) + x1)).toNatClampNeg (0 : Int32) → (∀ y21 : Int32, y21 = x1 + (1 : Int32) → (T_X12_readWants_2 n y21 M19 K))))))
set_option maxHeartbeats 4000000 in
set_option maxRecDepth 100000 in
theorem w_X12_readWants_2 {p : Program} {l : Launch} {e : Env} {s : State} {m : MethodId} {args : Array Value} {below : List Frame} {meth : Method} {c : Code} {G : fx_G} {K : Int32 → Mm → Prop} (X : fx_C G p s m c args cX12_readWants 2 RX12) (hr : meth.sig.returnType = (some .int)) (hk : meth.locks = false) : ∀ (n : Nat) (x1 : Int32) (M : Mm) (H : Heap) (locs : List Loc) (ls : Array Slot), T_X12_readWants_2 n x1 M K → fx_H G SH M s H locs → lv_has ls 2 [(0, .ref (G.2.2.2 + 159)), (1, .int x1)] → W p l e (fx_rm (6)) s m args below meth c H locs 0 0 (MQ below (va_Qi K (fx_R G SH) (fx_A G)) args s 0 0 (fx_A G)) (F0 m 2 ls []) := by
  obtain ⟨⟨hx, hb, hml, hown, hts⟩, hK, hQ⟩ := id X
  intro n
  induction n with
  | zero =>
    intro x1 M H locs ls hT
    exact hT.elim
  | succ n ih =>
    intro x1 M H locs ls hT h hl
    rw [T_X12_readWants_2] at hT
    refine lv_iload_n hx hb dX12_readWants_2 rfl (lv_at hl 1 rfl) ?_
    refine lv_bipush (v := 64) hx hb dX12_readWants_3 (by decide) ?_
    refine lv_icmp_ge (tgt := 24) hx hb dX12_readWants_5 (by decide) (fun hc18 => ?_) (fun hc18 => ?_)
    · have hT := hT.1 hc18
      refine lv_iconst (v := 0) hx hb dX12_readWants_24 (by decide) ?_
      refine lv_istore_n (lv' := [(1, .int (0 : Int32)), (0, .ref (G.2.2.2 + 159))]) hx hb dX12_readWants_25 rfl hl (by decide) rfl (fun ls hl => ?_)
      exact w_X12_readWants_26 X hr hk 5000 (0 : Int32) M _ _ ls hT h (lv_sub hl [1, 0] rfl)
    · have hT := hT.2 hc18
      refine lv_aload_n hx hb dX12_readWants_8 rfl (lv_at hl 0 rfl) ?_
      refine fx_getR X h (k := 159) (j := 42) (r := 181) sh_159 rfl fl_RX12_77 dX12_readWants_9 ?_
      refine lv_bipush (v := 64) hx hb dX12_readWants_12 (by decide) ?_
      refine lv_iload_n hx hb dX12_readWants_14 rfl (lv_at hl 1 rfl) ?_
      refine lv_iadd hx hb dX12_readWants_15 ?_
      refine lv_iconst (v := 0) hx hb dX12_readWants_16 (by decide) ?_
      obtain ⟨hi20, hT⟩ := hT
      refine fx_iast X h (k := 181) sh_181 hi20 dX12_readWants_17 (fun H locs h => ?_)
      obtain ⟨M19, eM19⟩ : ∃ z : Mm, z = m_up M 181 (((64 : Int32) + x1)).toNatClampNeg (0 : Int32) := ⟨_, rfl⟩
      have hT := hT M19 eM19
      rw [← eM19] at h
      obtain ⟨y21, ey21⟩ : ∃ z : Int32, z = x1 + (1 : Int32) := ⟨_, rfl⟩
      have hT := hT y21 ey21
      refine lv_iinc (v := y21) (lv' := [(1, .int y21), (0, .ref (G.2.2.2 + 159))]) hx hb dX12_readWants_18 hl (k := 1) rfl (by rw [ey21]; rfl) (by decide) rfl (fun ls hl => ?_)
      refine lv_goto (tgt := 2) hx hb dX12_readWants_21 (by decide) ?_
      exact ih y21 M19 _ _ ls hT h (lv_sub hl [1, 0] rfl)
def T_X12_readWants (M : Mm) (K : Int32 → Mm → Prop) : Prop := (T_X12_readWants_2 5000 (0 : Int32) M K)
set_option maxHeartbeats 4000000 in
set_option maxRecDepth 100000 in
theorem c_X12_readWants (l : Launch) (G : fx_G) {M : Mm} {K : Int32 → Mm → Prop} (hT : T_X12_readWants M K) : Met l yX12_readWants (fx_ws yX12_readWants cX12_readWants 2 (some .int)) (fx_rm (6)) (va_Pc [.ref (G.2.2.2 + 159)] (fx_P G SH M)) (va_Qi K (fx_R G SH) (fx_A G)) 0 0 (fx_A G) := by
  refine fx_met (own := RX12) (by decide +kernel) rfl (Nat.le_of_ble_eq_true rfl) (fun p e s m below meth c X hr hk h ls hl => ?_)
  obtain ⟨⟨hx, hb, hml, hown, hts⟩, hK, hQ⟩ := id X
  have hl : lv_has ls 2 [(0, .ref (G.2.2.2 + 159))] := hl
  unfold T_X12_readWants at hT
  refine lv_iconst (v := 0) hx hb dX12_readWants_0 (by decide) ?_
  refine lv_istore_n (lv' := [(1, .int (0 : Int32)), (0, .ref (G.2.2.2 + 159))]) hx hb dX12_readWants_1 rfl hl (by decide) rfl (fun ls hl => ?_)
  exact w_X12_readWants_2 X hr hk 5000 (0 : Int32) M _ _ ls hT h (lv_sub hl [1, 0] rfl)
/-! MockParcelsModel.readsText(I)I -/
theorem dX12_readsText_0 : decode cX12_readsText 0 = .ok (.aload_n 0, 1) := by decide +kernel
theorem dX12_readsText_1 : decode cX12_readsText 1 = .ok (.iconst 0, 1) := by decide +kernel
theorem dX12_readsText_2 : decode cX12_readsText 2 = .ok (.putfield 266, 3) := by decide +kernel
theorem dX12_readsText_5 : decode cX12_readsText 5 = .ok (.aload_n 0, 1) := by decide +kernel
theorem dX12_readsText_6 : decode cX12_readsText 6 = .ok (.invokevirtual 225, 3) := by decide +kernel
theorem dX12_readsText_9 : decode cX12_readsText 9 = .ok (.iload_n 1, 1) := by decide +kernel
theorem dX12_readsText_10 : decode cX12_readsText 10 = .ok (.iconst 1, 1) := by decide +kernel
theorem dX12_readsText_11 : decode cX12_readsText 11 = .ok (.if_icmp .ne 8, 3) := by decide +kernel
theorem dX12_readsText_14 : decode cX12_readsText 14 = .ok (.aload_n 0, 1) := by decide +kernel
theorem dX12_readsText_15 : decode cX12_readsText 15 = .ok (.invokevirtual 294, 3) := by decide +kernel
theorem dX12_readsText_18 : decode cX12_readsText 18 = .ok (.ireturn, 1) := by decide +kernel
theorem dX12_readsText_19 : decode cX12_readsText 19 = .ok (.iload_n 1, 1) := by decide +kernel
theorem dX12_readsText_20 : decode cX12_readsText 20 = .ok (.iconst 2, 1) := by decide +kernel
theorem dX12_readsText_21 : decode cX12_readsText 21 = .ok (.if_icmp .ne 8, 3) := by decide +kernel
theorem dX12_readsText_24 : decode cX12_readsText 24 = .ok (.aload_n 0, 1) := by decide +kernel
theorem dX12_readsText_25 : decode cX12_readsText 25 = .ok (.invokevirtual 297, 3) := by decide +kernel
theorem dX12_readsText_28 : decode cX12_readsText 28 = .ok (.ireturn, 1) := by decide +kernel
theorem dX12_readsText_29 : decode cX12_readsText 29 = .ok (.iload_n 1, 1) := by decide +kernel
theorem dX12_readsText_30 : decode cX12_readsText 30 = .ok (.iconst 3, 1) := by decide +kernel
theorem dX12_readsText_31 : decode cX12_readsText 31 = .ok (.if_icmp .ne 10, 3) := by decide +kernel
theorem dX12_readsText_34 : decode cX12_readsText 34 = .ok (.aload_n 0, 1) := by decide +kernel
theorem dX12_readsText_35 : decode cX12_readsText 35 = .ok (.invokevirtual 300, 3) := by decide +kernel
theorem dX12_readsText_38 : decode cX12_readsText 38 = .ok (.goto 7, 3) := by decide +kernel
theorem dX12_readsText_41 : decode cX12_readsText 41 = .ok (.aload_n 0, 1) := by decide +kernel
theorem dX12_readsText_42 : decode cX12_readsText 42 = .ok (.invokevirtual 303, 3) := by decide +kernel
theorem dX12_readsText_45 : decode cX12_readsText 45 = .ok (.ireturn, 1) := by decide +kernel
def T_X12_readsText (x1 : Int32) (M : Mm) (K : Int32 → Mm → Prop) : Prop := (∀ M1 : Mm, M1 = m_up M 159 28 (0 : Int32) → (T_X12_reads M1 (fun M3 => ((x1 = (1 : Int32) → (T_X12_readFollows M3 (fun r18 M17 => (K r18 M17)))) ∧ (¬ x1 = (1 : Int32) → ((x1 = (2 : Int32) → (T_X12_readWeek M3 (fun r15 M14 => (K r15 M14)))) ∧ (¬ x1 = (2 : Int32) → ((x1 = (3 : Int32) → (T_X12_readWants M3 (fun r12 M11 => (K r12 M11)))) ∧ (¬ x1 = (3 : Int32) → (T_X12_readLaw M3 (fun r9 M8 => (K r9 M8))))))))))))
set_option maxHeartbeats 4000000 in
set_option maxRecDepth 100000 in
theorem c_X12_readsText (l : Launch) (G : fx_G) {x1 : Int32} {M : Mm} {K : Int32 → Mm → Prop} (hT : T_X12_readsText x1 M K) : Met l yX12_readsText (fx_ws yX12_readsText cX12_readsText 2 (some .int)) (fx_rm (9)) (va_Pc [.ref (G.2.2.2 + 159), .int x1] (fx_P G SH M)) (va_Qi K (fx_R G SH) (fx_A G)) 0 0 (fx_A G) := by
  refine fx_met (own := RX12) (by decide +kernel) rfl (Nat.le_of_ble_eq_true rfl) (fun p e s m below meth c X hr hk h ls hl => ?_)
  obtain ⟨⟨hx, hb, hml, hown, hts⟩, hK, hQ⟩ := id X
  have hl : lv_has ls 2 [(0, .ref (G.2.2.2 + 159)), (1, .int x1)] := hl
  unfold T_X12_readsText at hT
  refine lv_aload_n hx hb dX12_readsText_0 rfl (lv_at hl 0 rfl) ?_
  refine lv_iconst (v := 0) hx hb dX12_readsText_1 (by decide) ?_
  refine fx_putI X h (k := 159) (j := 28) sh_159 rfl fl_RX12_266 dX12_readsText_2 (fun H locs h => ?_)
  obtain ⟨M1, eM1⟩ : ∃ z : Mm, z = m_up M 159 28 (0 : Int32) := ⟨_, rfl⟩
  have hT := hT M1 eM1
  rw [← eM1] at h
  refine lv_aload_n hx hb dX12_readsText_5 rfl (lv_at hl 0 rfl) ?_
  refine fx_vv X h ym_X12_reads yi_X12_reads ys_X12_reads (fx_s7 (List.mem_of_getElem? (i := 121) rfl) rfl) sh_159 rfl (c_X12_reads l G hT) (As := []) (rest := []) rfl rfl ⟨Nat.le_of_ble_eq_true rfl, Nat.le_of_ble_eq_true rfl⟩ ⟨Nat.le_refl _, Nat.le_refl _⟩ hl.1 (Nat.le_of_ble_eq_true rfl) dX12_readsText_6 (fun M3 H locs hT h => ?_)
  refine lv_iload_n hx hb dX12_readsText_9 rfl (lv_at hl 1 rfl) ?_
  refine lv_iconst (v := 1) hx hb dX12_readsText_10 (by decide) ?_
  refine lv_icmp_ne (tgt := 19) hx hb dX12_readsText_11 (by decide) (fun hc4 => ?_) (fun hc4 => ?_)
  · have hT := hT.2 hc4
    refine lv_iload_n hx hb dX12_readsText_19 rfl (lv_at hl 1 rfl) ?_
    refine lv_iconst (v := 2) hx hb dX12_readsText_20 (by decide) ?_
    refine lv_icmp_ne (tgt := 29) hx hb dX12_readsText_21 (by decide) (fun hc5 => ?_) (fun hc5 => ?_)
    · have hT := hT.2 hc5
      refine lv_iload_n hx hb dX12_readsText_29 rfl (lv_at hl 1 rfl) ?_
      refine lv_iconst (v := 3) hx hb dX12_readsText_30 (by decide) ?_
      refine lv_icmp_ne (tgt := 41) hx hb dX12_readsText_31 (by decide) (fun hc6 => ?_) (fun hc6 => ?_)
      · have hT := hT.2 hc6
        refine lv_aload_n hx hb dX12_readsText_41 rfl (lv_at hl 0 rfl) ?_
        refine fx_vi X h ym_X12_readLaw yi_X12_readLaw ys_X12_readLaw (fx_s7 (List.mem_of_getElem? (i := 201) rfl) rfl) sh_159 rfl (c_X12_readLaw l G hT) (As := []) (rest := []) rfl rfl ⟨Nat.le_of_ble_eq_true rfl, Nat.le_of_ble_eq_true rfl⟩ ⟨Nat.le_refl _, Nat.le_refl _⟩ hl.1 (Nat.le_of_ble_eq_true rfl) dX12_readsText_42 (fun r9 M8 H locs hT h => ?_)
        exact fx_iret X hr hk h hT dX12_readsText_45
      · have hT := hT.1 hc6
        refine lv_aload_n hx hb dX12_readsText_34 rfl (lv_at hl 0 rfl) ?_
        refine fx_vi X h ym_X12_readWants yi_X12_readWants ys_X12_readWants (fx_s7 (List.mem_of_getElem? (i := 193) rfl) rfl) sh_159 rfl (c_X12_readWants l G hT) (As := []) (rest := []) rfl rfl ⟨Nat.le_of_ble_eq_true rfl, Nat.le_of_ble_eq_true rfl⟩ ⟨Nat.le_refl _, Nat.le_refl _⟩ hl.1 (Nat.le_of_ble_eq_true rfl) dX12_readsText_35 (fun r12 M11 H locs hT h => ?_)
        refine lv_goto (tgt := 45) hx hb dX12_readsText_38 (by decide) ?_
        exact fx_iret X hr hk h hT dX12_readsText_45
    · have hT := hT.1 hc5
      refine lv_aload_n hx hb dX12_readsText_24 rfl (lv_at hl 0 rfl) ?_
      refine fx_vi X h ym_X12_readWeek yi_X12_readWeek ys_X12_readWeek (fx_s7 (List.mem_of_getElem? (i := 177) rfl) rfl) sh_159 rfl (c_X12_readWeek l G hT) (As := []) (rest := []) rfl rfl ⟨Nat.le_of_ble_eq_true rfl, Nat.le_of_ble_eq_true rfl⟩ ⟨Nat.le_refl _, Nat.le_refl _⟩ hl.1 (Nat.le_of_ble_eq_true rfl) dX12_readsText_25 (fun r15 M14 H locs hT h => ?_)
      exact fx_iret X hr hk h hT dX12_readsText_28
  · have hT := hT.1 hc4
    refine lv_aload_n hx hb dX12_readsText_14 rfl (lv_at hl 0 rfl) ?_
    refine fx_vi X h ym_X12_readFollows yi_X12_readFollows ys_X12_readFollows (fx_s7 (List.mem_of_getElem? (i := 145) rfl) rfl) sh_159 rfl (c_X12_readFollows l G hT) (As := []) (rest := []) rfl rfl ⟨Nat.le_of_ble_eq_true rfl, Nat.le_of_ble_eq_true rfl⟩ ⟨Nat.le_refl _, Nat.le_refl _⟩ hl.1 (Nat.le_of_ble_eq_true rfl) dX12_readsText_15 (fun r18 M17 H locs hT h => ?_)
    exact fx_iret X hr hk h hT dX12_readsText_18
/-! MockParcelsModel.takesOther(II)V -/
theorem dX12_takesOther_0 : decode cX12_takesOther 0 = .ok (.iload_n 1, 1) := by decide +kernel
theorem dX12_takesOther_1 : decode cX12_takesOther 1 = .ok (.iconst 3, 1) := by decide +kernel
theorem dX12_takesOther_2 : decode cX12_takesOther 2 = .ok (.if_icmp .ne 38, 3) := by decide +kernel
theorem dX12_takesOther_5 : decode cX12_takesOther 5 = .ok (.iconst 0, 1) := by decide +kernel
theorem dX12_takesOther_6 : decode cX12_takesOther 6 = .ok (.istore_n 3, 1) := by decide +kernel
theorem dX12_takesOther_7 : decode cX12_takesOther 7 = .ok (.iload_n 3, 1) := by decide +kernel
theorem dX12_takesOther_8 : decode cX12_takesOther 8 = .ok (.bipush 64, 2) := by decide +kernel
theorem dX12_takesOther_10 : decode cX12_takesOther 10 = .ok (.if_icmp .ge 24, 3) := by decide +kernel
theorem dX12_takesOther_13 : decode cX12_takesOther 13 = .ok (.aload_n 0, 1) := by decide +kernel
theorem dX12_takesOther_14 : decode cX12_takesOther 14 = .ok (.getfield 77, 3) := by decide +kernel
theorem dX12_takesOther_17 : decode cX12_takesOther 17 = .ok (.iload_n 3, 1) := by decide +kernel
theorem dX12_takesOther_18 : decode cX12_takesOther 18 = .ok (.aload_n 0, 1) := by decide +kernel
theorem dX12_takesOther_19 : decode cX12_takesOther 19 = .ok (.getfield 77, 3) := by decide +kernel
theorem dX12_takesOther_22 : decode cX12_takesOther 22 = .ok (.bipush 64, 2) := by decide +kernel
theorem dX12_takesOther_24 : decode cX12_takesOther 24 = .ok (.iload_n 3, 1) := by decide +kernel
theorem dX12_takesOther_25 : decode cX12_takesOther 25 = .ok (.iadd, 1) := by decide +kernel
theorem dX12_takesOther_26 : decode cX12_takesOther 26 = .ok (.iaload, 1) := by decide +kernel
theorem dX12_takesOther_27 : decode cX12_takesOther 27 = .ok (.iastore, 1) := by decide +kernel
theorem dX12_takesOther_28 : decode cX12_takesOther 28 = .ok (.iinc 3 1, 3) := by decide +kernel
theorem dX12_takesOther_31 : decode cX12_takesOther 31 = .ok (.goto (-24), 3) := by decide +kernel
theorem dX12_takesOther_34 : decode cX12_takesOther 34 = .ok (.aload_n 0, 1) := by decide +kernel
theorem dX12_takesOther_35 : decode cX12_takesOther 35 = .ok (.iload_n 2, 1) := by decide +kernel
theorem dX12_takesOther_36 : decode cX12_takesOther 36 = .ok (.putfield 306, 3) := by decide +kernel
theorem dX12_takesOther_39 : decode cX12_takesOther 39 = .ok (.return_, 1) := by decide +kernel
theorem dX12_takesOther_40 : decode cX12_takesOther 40 = .ok (.iload_n 1, 1) := by decide +kernel
theorem dX12_takesOther_41 : decode cX12_takesOther 41 = .ok (.iconst 1, 1) := by decide +kernel
theorem dX12_takesOther_42 : decode cX12_takesOther 42 = .ok (.if_icmp .ne 40, 3) := by decide +kernel
theorem dX12_takesOther_45 : decode cX12_takesOther 45 = .ok (.iconst 0, 1) := by decide +kernel
theorem dX12_takesOther_46 : decode cX12_takesOther 46 = .ok (.istore_n 3, 1) := by decide +kernel
theorem dX12_takesOther_47 : decode cX12_takesOther 47 = .ok (.iload_n 3, 1) := by decide +kernel
theorem dX12_takesOther_48 : decode cX12_takesOther 48 = .ok (.bipush 8, 2) := by decide +kernel
theorem dX12_takesOther_50 : decode cX12_takesOther 50 = .ok (.if_icmp .ge 24, 3) := by decide +kernel
theorem dX12_takesOther_53 : decode cX12_takesOther 53 = .ok (.aload_n 0, 1) := by decide +kernel
theorem dX12_takesOther_54 : decode cX12_takesOther 54 = .ok (.getfield 71, 3) := by decide +kernel
theorem dX12_takesOther_57 : decode cX12_takesOther 57 = .ok (.iload_n 3, 1) := by decide +kernel
theorem dX12_takesOther_58 : decode cX12_takesOther 58 = .ok (.aload_n 0, 1) := by decide +kernel
theorem dX12_takesOther_59 : decode cX12_takesOther 59 = .ok (.getfield 71, 3) := by decide +kernel
theorem dX12_takesOther_62 : decode cX12_takesOther 62 = .ok (.bipush 8, 2) := by decide +kernel
theorem dX12_takesOther_64 : decode cX12_takesOther 64 = .ok (.iload_n 3, 1) := by decide +kernel
theorem dX12_takesOther_65 : decode cX12_takesOther 65 = .ok (.iadd, 1) := by decide +kernel
theorem dX12_takesOther_66 : decode cX12_takesOther 66 = .ok (.iaload, 1) := by decide +kernel
theorem dX12_takesOther_67 : decode cX12_takesOther 67 = .ok (.iastore, 1) := by decide +kernel
theorem dX12_takesOther_68 : decode cX12_takesOther 68 = .ok (.iinc 3 1, 3) := by decide +kernel
theorem dX12_takesOther_71 : decode cX12_takesOther 71 = .ok (.goto (-24), 3) := by decide +kernel
theorem dX12_takesOther_74 : decode cX12_takesOther 74 = .ok (.aload_n 0, 1) := by decide +kernel
theorem dX12_takesOther_75 : decode cX12_takesOther 75 = .ok (.iload_n 2, 1) := by decide +kernel
theorem dX12_takesOther_76 : decode cX12_takesOther 76 = .ok (.putfield 309, 3) := by decide +kernel
theorem dX12_takesOther_79 : decode cX12_takesOther 79 = .ok (.goto 38, 3) := by decide +kernel
theorem dX12_takesOther_82 : decode cX12_takesOther 82 = .ok (.iconst 0, 1) := by decide +kernel
theorem dX12_takesOther_83 : decode cX12_takesOther 83 = .ok (.istore_n 3, 1) := by decide +kernel
theorem dX12_takesOther_84 : decode cX12_takesOther 84 = .ok (.iload_n 3, 1) := by decide +kernel
theorem dX12_takesOther_85 : decode cX12_takesOther 85 = .ok (.iconst 4, 1) := by decide +kernel
theorem dX12_takesOther_86 : decode cX12_takesOther 86 = .ok (.iload_n 2, 1) := by decide +kernel
theorem dX12_takesOther_87 : decode cX12_takesOther 87 = .ok (.imul, 1) := by decide +kernel
theorem dX12_takesOther_88 : decode cX12_takesOther 88 = .ok (.if_icmp .ge 24, 3) := by decide +kernel
theorem dX12_takesOther_91 : decode cX12_takesOther 91 = .ok (.aload_n 0, 1) := by decide +kernel
theorem dX12_takesOther_92 : decode cX12_takesOther 92 = .ok (.getfield 74, 3) := by decide +kernel
theorem dX12_takesOther_95 : decode cX12_takesOther 95 = .ok (.iload_n 3, 1) := by decide +kernel
theorem dX12_takesOther_96 : decode cX12_takesOther 96 = .ok (.aload_n 0, 1) := by decide +kernel
theorem dX12_takesOther_97 : decode cX12_takesOther 97 = .ok (.getfield 74, 3) := by decide +kernel
theorem dX12_takesOther_100 : decode cX12_takesOther 100 = .ok (.bipush 64, 2) := by decide +kernel
theorem dX12_takesOther_102 : decode cX12_takesOther 102 = .ok (.iload_n 3, 1) := by decide +kernel
theorem dX12_takesOther_103 : decode cX12_takesOther 103 = .ok (.iadd, 1) := by decide +kernel
theorem dX12_takesOther_104 : decode cX12_takesOther 104 = .ok (.iaload, 1) := by decide +kernel
theorem dX12_takesOther_105 : decode cX12_takesOther 105 = .ok (.iastore, 1) := by decide +kernel
theorem dX12_takesOther_106 : decode cX12_takesOther 106 = .ok (.iinc 3 1, 3) := by decide +kernel
theorem dX12_takesOther_109 : decode cX12_takesOther 109 = .ok (.goto (-25), 3) := by decide +kernel
theorem dX12_takesOther_112 : decode cX12_takesOther 112 = .ok (.aload_n 0, 1) := by decide +kernel
theorem dX12_takesOther_113 : decode cX12_takesOther 113 = .ok (.iload_n 2, 1) := by decide +kernel
theorem dX12_takesOther_114 : decode cX12_takesOther 114 = .ok (.putfield 312, 3) := by decide +kernel
theorem dX12_takesOther_117 : decode cX12_takesOther 117 = .ok (.aload_n 0, 1) := by decide +kernel
theorem dX12_takesOther_118 : decode cX12_takesOther 118 = .ok (.iconst 0, 1) := by decide +kernel
theorem dX12_takesOther_119 : decode cX12_takesOther 119 = .ok (.putfield 138, 3) := by decide +kernel
theorem dX12_takesOther_122 : decode cX12_takesOther 122 = .ok (.return_, 1) := by decide +kernel
def T_X12_takesOther_117 (M : Mm) (K : Mm → Prop) : Prop := (∀ M1 : Mm, M1 = m_up M 159 3 (0 : Int32) → (K M1))
set_option maxHeartbeats 4000000 in
set_option maxRecDepth 100000 in
theorem w_X12_takesOther_117 {p : Program} {l : Launch} {e : Env} {s : State} {m : MethodId} {args : Array Value} {below : List Frame} {meth : Method} {c : Code} {G : fx_G} {K : Mm → Prop} (X : fx_C G p s m c args cX12_takesOther 4 RX12) (hr : meth.sig.returnType = none) (hk : meth.locks = false) : ∀ (M : Mm) (H : Heap) (locs : List Loc) (ls : Array Slot), T_X12_takesOther_117  M K → fx_H G SH M s H locs → lv_has ls 4 [(0, .ref (G.2.2.2 + 159))] → W p l e (fx_rm (0)) s m args below meth c H locs 0 0 (MQ below (va_Qv K (fx_R G SH) (fx_A G)) args s 0 0 (fx_A G)) (F0 m 117 ls []) := by
  obtain ⟨⟨hx, hb, hml, hown, hts⟩, hK, hQ⟩ := id X
  intro  M H locs ls hT h hl
  unfold T_X12_takesOther_117 at hT
  refine lv_aload_n hx hb dX12_takesOther_117 rfl (lv_at hl 0 rfl) ?_
  refine lv_iconst (v := 0) hx hb dX12_takesOther_118 (by decide) ?_
  refine fx_putI X h (k := 159) (j := 3) sh_159 rfl fl_RX12_138 dX12_takesOther_119 (fun H locs h => ?_)
  obtain ⟨M1, eM1⟩ : ∃ z : Mm, z = m_up M 159 3 (0 : Int32) := ⟨_, rfl⟩
  have hT := hT M1 eM1
  rw [← eM1] at h
  exact fx_vret X hr hk h hT dX12_takesOther_122
def T_X12_takesOther_84 : Nat → Int32 → Int32 → Mm → (Mm → Prop) → Prop
  | 0, _, _, _, _ => False
  | n + 1, x2, x3, M, K => ((((4 : Int32) * x2) ≤ x3 → (∀ M3 : Mm, M3 = m_up M 159 39 x2 → (T_X12_takesOther_117 M3 K))) ∧ (¬ ((4 : Int32) * x2) ≤ x3 → (vp_in ((64 : Int32) + x3) 128 ∧ (vp_in x3 128 ∧ (∀ M5 : Mm, M5 = m_up M 180 (x3).toNatClampNeg (M 180 (((64 : Int32) + x3)).toNatClampNeg) → (∀ y7 : Int32, y7 = x3 + (1 : Int32) → (T_X12_takesOther_84 n x2 y7 M5 K)))))))
set_option maxHeartbeats 4000000 in
set_option maxRecDepth 100000 in
theorem w_X12_takesOther_84 {p : Program} {l : Launch} {e : Env} {s : State} {m : MethodId} {args : Array Value} {below : List Frame} {meth : Method} {c : Code} {G : fx_G} {K : Mm → Prop} (X : fx_C G p s m c args cX12_takesOther 4 RX12) (hr : meth.sig.returnType = none) (hk : meth.locks = false) : ∀ (n : Nat) (x2 : Int32) (x3 : Int32) (M : Mm) (H : Heap) (locs : List Loc) (ls : Array Slot), T_X12_takesOther_84 n x2 x3 M K → fx_H G SH M s H locs → lv_has ls 4 [(0, .ref (G.2.2.2 + 159)), (2, .int x2), (3, .int x3)] → W p l e (fx_rm (0)) s m args below meth c H locs 0 0 (MQ below (va_Qv K (fx_R G SH) (fx_A G)) args s 0 0 (fx_A G)) (F0 m 84 ls []) := by
  obtain ⟨⟨hx, hb, hml, hown, hts⟩, hK, hQ⟩ := id X
  intro n
  induction n with
  | zero =>
    intro x2 x3 M H locs ls hT
    exact hT.elim
  | succ n ih =>
    intro x2 x3 M H locs ls hT h hl
    rw [T_X12_takesOther_84] at hT
    refine lv_iload_n hx hb dX12_takesOther_84 rfl (lv_at hl 2 rfl) ?_
    refine lv_iconst (v := 4) hx hb dX12_takesOther_85 (by decide) ?_
    refine lv_iload_n hx hb dX12_takesOther_86 rfl (lv_at hl 1 rfl) ?_
    refine lv_imul hx hb dX12_takesOther_87 ?_
    refine lv_icmp_ge (tgt := 112) hx hb dX12_takesOther_88 (by decide) (fun hc2 => ?_) (fun hc2 => ?_)
    · have hT := hT.1 hc2
      refine lv_aload_n hx hb dX12_takesOther_112 rfl (lv_at hl 0 rfl) ?_
      refine lv_iload_n hx hb dX12_takesOther_113 rfl (lv_at hl 1 rfl) ?_
      refine fx_putI X h (k := 159) (j := 39) sh_159 rfl fl_RX12_312 dX12_takesOther_114 (fun H locs h => ?_)
      obtain ⟨M3, eM3⟩ : ∃ z : Mm, z = m_up M 159 39 x2 := ⟨_, rfl⟩
      have hT := hT M3 eM3
      rw [← eM3] at h
      exact w_X12_takesOther_117 X hr hk M3 _ _ ls hT h (lv_sub hl [0] rfl)
    · have hT := hT.2 hc2
      refine lv_aload_n hx hb dX12_takesOther_91 rfl (lv_at hl 0 rfl) ?_
      refine fx_getR X h (k := 159) (j := 40) (r := 180) sh_159 rfl fl_RX12_74 dX12_takesOther_92 ?_
      refine lv_iload_n hx hb dX12_takesOther_95 rfl (lv_at hl 2 rfl) ?_
      refine lv_aload_n hx hb dX12_takesOther_96 rfl (lv_at hl 0 rfl) ?_
      refine fx_getR X h (k := 159) (j := 40) (r := 180) sh_159 rfl fl_RX12_74 dX12_takesOther_97 ?_
      refine lv_bipush (v := 64) hx hb dX12_takesOther_100 (by decide) ?_
      refine lv_iload_n hx hb dX12_takesOther_102 rfl (lv_at hl 2 rfl) ?_
      refine lv_iadd hx hb dX12_takesOther_103 ?_
      obtain ⟨hi4, hT⟩ := hT
      refine fx_iald X h (k := 180) sh_180 hi4 dX12_takesOther_104 ?_
      obtain ⟨hi6, hT⟩ := hT
      refine fx_iast X h (k := 180) sh_180 hi6 dX12_takesOther_105 (fun H locs h => ?_)
      obtain ⟨M5, eM5⟩ : ∃ z : Mm, z = m_up M 180 (x3).toNatClampNeg (M 180 (((64 : Int32) + x3)).toNatClampNeg) := ⟨_, rfl⟩
      have hT := hT M5 eM5
      rw [← eM5] at h
      obtain ⟨y7, ey7⟩ : ∃ z : Int32, z = x3 + (1 : Int32) := ⟨_, rfl⟩
      have hT := hT y7 ey7
      refine lv_iinc (v := y7) (lv' := [(3, .int y7), (0, .ref (G.2.2.2 + 159)), (2, .int x2)]) hx hb dX12_takesOther_106 hl (k := 2) rfl (by rw [ey7]; rfl) (by decide) rfl (fun ls hl => ?_)
      refine lv_goto (tgt := 84) hx hb dX12_takesOther_109 (by decide) ?_
      exact ih x2 y7 M5 _ _ ls hT h (lv_sub hl [1, 2, 0] rfl)
def T_X12_takesOther_47 : Nat → Int32 → Int32 → Mm → (Mm → Prop) → Prop
  | 0, _, _, _, _ => False
  | n + 1, x2, x3, M, K => (((8 : Int32) ≤ x3 → (∀ M9 : Mm, M9 = m_up M 159 37 x2 → (T_X12_takesOther_117 M9 K))) ∧ (¬ (8 : Int32) ≤ x3 → (vp_in ((8 : Int32) + x3) 16 ∧ (vp_in x3 16 ∧ (∀ M11 : Mm, M11 = m_up M 179 (x3).toNatClampNeg (M 179 (((8 : Int32) + x3)).toNatClampNeg) → (∀ y13 : Int32, y13 = x3 + (1 : Int32) → (T_X12_takesOther_47 n x2 y13 M11 K)))))))
set_option maxHeartbeats 4000000 in
set_option maxRecDepth 100000 in
theorem w_X12_takesOther_47 {p : Program} {l : Launch} {e : Env} {s : State} {m : MethodId} {args : Array Value} {below : List Frame} {meth : Method} {c : Code} {G : fx_G} {K : Mm → Prop} (X : fx_C G p s m c args cX12_takesOther 4 RX12) (hr : meth.sig.returnType = none) (hk : meth.locks = false) : ∀ (n : Nat) (x2 : Int32) (x3 : Int32) (M : Mm) (H : Heap) (locs : List Loc) (ls : Array Slot), T_X12_takesOther_47 n x2 x3 M K → fx_H G SH M s H locs → lv_has ls 4 [(0, .ref (G.2.2.2 + 159)), (2, .int x2), (3, .int x3)] → W p l e (fx_rm (0)) s m args below meth c H locs 0 0 (MQ below (va_Qv K (fx_R G SH) (fx_A G)) args s 0 0 (fx_A G)) (F0 m 47 ls []) := by
  obtain ⟨⟨hx, hb, hml, hown, hts⟩, hK, hQ⟩ := id X
  intro n
  induction n with
  | zero =>
    intro x2 x3 M H locs ls hT
    exact hT.elim
  | succ n ih =>
    intro x2 x3 M H locs ls hT h hl
    rw [T_X12_takesOther_47] at hT
    refine lv_iload_n hx hb dX12_takesOther_47 rfl (lv_at hl 2 rfl) ?_
    refine lv_bipush (v := 8) hx hb dX12_takesOther_48 (by decide) ?_
    refine lv_icmp_ge (tgt := 74) hx hb dX12_takesOther_50 (by decide) (fun hc8 => ?_) (fun hc8 => ?_)
    · have hT := hT.1 hc8
      refine lv_aload_n hx hb dX12_takesOther_74 rfl (lv_at hl 0 rfl) ?_
      refine lv_iload_n hx hb dX12_takesOther_75 rfl (lv_at hl 1 rfl) ?_
      refine fx_putI X h (k := 159) (j := 37) sh_159 rfl fl_RX12_309 dX12_takesOther_76 (fun H locs h => ?_)
      obtain ⟨M9, eM9⟩ : ∃ z : Mm, z = m_up M 159 37 x2 := ⟨_, rfl⟩
      have hT := hT M9 eM9
      rw [← eM9] at h
      refine lv_goto (tgt := 117) hx hb dX12_takesOther_79 (by decide) ?_
      exact w_X12_takesOther_117 X hr hk M9 _ _ ls hT h (lv_sub hl [0] rfl)
    · have hT := hT.2 hc8
      refine lv_aload_n hx hb dX12_takesOther_53 rfl (lv_at hl 0 rfl) ?_
      refine fx_getR X h (k := 159) (j := 38) (r := 179) sh_159 rfl fl_RX12_71 dX12_takesOther_54 ?_
      refine lv_iload_n hx hb dX12_takesOther_57 rfl (lv_at hl 2 rfl) ?_
      refine lv_aload_n hx hb dX12_takesOther_58 rfl (lv_at hl 0 rfl) ?_
      refine fx_getR X h (k := 159) (j := 38) (r := 179) sh_159 rfl fl_RX12_71 dX12_takesOther_59 ?_
      refine lv_bipush (v := 8) hx hb dX12_takesOther_62 (by decide) ?_
      refine lv_iload_n hx hb dX12_takesOther_64 rfl (lv_at hl 2 rfl) ?_
      refine lv_iadd hx hb dX12_takesOther_65 ?_
      obtain ⟨hi10, hT⟩ := hT
      refine fx_iald X h (k := 179) sh_179 hi10 dX12_takesOther_66 ?_
      obtain ⟨hi12, hT⟩ := hT
      refine fx_iast X h (k := 179) sh_179 hi12 dX12_takesOther_67 (fun H locs h => ?_)
      obtain ⟨M11, eM11⟩ : ∃ z : Mm, z = m_up M 179 (x3).toNatClampNeg (M 179 (((8 : Int32) + x3)).toNatClampNeg) := ⟨_, rfl⟩
      have hT := hT M11 eM11
      rw [← eM11] at h
      obtain ⟨y13, ey13⟩ : ∃ z : Int32, z = x3 + (1 : Int32) := ⟨_, rfl⟩
      have hT := hT y13 ey13
      refine lv_iinc (v := y13) (lv' := [(3, .int y13), (0, .ref (G.2.2.2 + 159)), (2, .int x2)]) hx hb dX12_takesOther_68 hl (k := 2) rfl (by rw [ey13]; rfl) (by decide) rfl (fun ls hl => ?_)
      refine lv_goto (tgt := 47) hx hb dX12_takesOther_71 (by decide) ?_
      exact ih x2 y13 M11 _ _ ls hT h (lv_sub hl [1, 2, 0] rfl)
def T_X12_takesOther_7 : Nat → Int32 → Int32 → Mm → (Mm → Prop) → Prop
  | 0, _, _, _, _ => False
  | n + 1, x2, x3, M, K => (((64 : Int32) ≤ x3 → (∀ M15 : Mm, M15 = m_up M 159 41 x2 → (K M15))) ∧ (¬ (64 : Int32) ≤ x3 → (vp_in ((64 : Int32) + x3) 128 ∧ (vp_in x3 128 ∧ (∀ M17 : Mm, M17 = m_up M 181 (x3).toNatClampNeg (M 181 (((64 : Int32) + x3)).toNatClampNeg) → (∀ y19 : Int32, y19 = x3 + (1 : Int32) → (T_X12_takesOther_7 n x2 y19 M17 K)))))))
set_option maxHeartbeats 4000000 in
set_option maxRecDepth 100000 in
theorem w_X12_takesOther_7 {p : Program} {l : Launch} {e : Env} {s : State} {m : MethodId} {args : Array Value} {below : List Frame} {meth : Method} {c : Code} {G : fx_G} {K : Mm → Prop} (X : fx_C G p s m c args cX12_takesOther 4 RX12) (hr : meth.sig.returnType = none) (hk : meth.locks = false) : ∀ (n : Nat) (x2 : Int32) (x3 : Int32) (M : Mm) (H : Heap) (locs : List Loc) (ls : Array Slot), T_X12_takesOther_7 n x2 x3 M K → fx_H G SH M s H locs → lv_has ls 4 [(0, .ref (G.2.2.2 + 159)), (2, .int x2), (3, .int x3)] → W p l e (fx_rm (0)) s m args below meth c H locs 0 0 (MQ below (va_Qv K (fx_R G SH) (fx_A G)) args s 0 0 (fx_A G)) (F0 m 7 ls []) := by
  obtain ⟨⟨hx, hb, hml, hown, hts⟩, hK, hQ⟩ := id X
  intro n
  induction n with
  | zero =>
    intro x2 x3 M H locs ls hT
    exact hT.elim
  | succ n ih =>
    intro x2 x3 M H locs ls hT h hl
    rw [T_X12_takesOther_7] at hT
    refine lv_iload_n hx hb dX12_takesOther_7 rfl (lv_at hl 2 rfl) ?_
    refine lv_bipush (v := 64) hx hb dX12_takesOther_8 (by decide) ?_
    refine lv_icmp_ge (tgt := 34) hx hb dX12_takesOther_10 (by decide) (fun hc14 => ?_) (fun hc14 => ?_)
    · have hT := hT.1 hc14
      refine lv_aload_n hx hb dX12_takesOther_34 rfl (lv_at hl 0 rfl) ?_
      refine lv_iload_n hx hb dX12_takesOther_35 rfl (lv_at hl 1 rfl) ?_
      refine fx_putI X h (k := 159) (j := 41) sh_159 rfl fl_RX12_306 dX12_takesOther_36 (fun H locs h => ?_)
      obtain ⟨M15, eM15⟩ : ∃ z : Mm, z = m_up M 159 41 x2 := ⟨_, rfl⟩
      have hT := hT M15 eM15
      rw [← eM15] at h
      exact fx_vret X hr hk h hT dX12_takesOther_39
    · have hT := hT.2 hc14
      refine lv_aload_n hx hb dX12_takesOther_13 rfl (lv_at hl 0 rfl) ?_
      refine fx_getR X h (k := 159) (j := 42) (r := 181) sh_159 rfl fl_RX12_77 dX12_takesOther_14 ?_
      refine lv_iload_n hx hb dX12_takesOther_17 rfl (lv_at hl 2 rfl) ?_
      refine lv_aload_n hx hb dX12_takesOther_18 rfl (lv_at hl 0 rfl) ?_
      refine fx_getR X h (k := 159) (j := 42) (r := 181) sh_159 rfl fl_RX12_77 dX12_takesOther_19 ?_
      refine lv_bipush (v := 64) hx hb dX12_takesOther_22 (by decide) ?_
      refine lv_iload_n hx hb dX12_takesOther_24 rfl (lv_at hl 2 rfl) ?_
      refine lv_iadd hx hb dX12_takesOther_25 ?_
      obtain ⟨hi16, hT⟩ := hT
      refine fx_iald X h (k := 181) sh_181 hi16 dX12_takesOther_26 ?_
      obtain ⟨hi18, hT⟩ := hT
      refine fx_iast X h (k := 181) sh_181 hi18 dX12_takesOther_27 (fun H locs h => ?_)
      obtain ⟨M17, eM17⟩ : ∃ z : Mm, z = m_up M 181 (x3).toNatClampNeg (M 181 (((64 : Int32) + x3)).toNatClampNeg) := ⟨_, rfl⟩
      have hT := hT M17 eM17
      rw [← eM17] at h
      obtain ⟨y19, ey19⟩ : ∃ z : Int32, z = x3 + (1 : Int32) := ⟨_, rfl⟩
      have hT := hT y19 ey19
      refine lv_iinc (v := y19) (lv' := [(3, .int y19), (0, .ref (G.2.2.2 + 159)), (2, .int x2)]) hx hb dX12_takesOther_28 hl (k := 2) rfl (by rw [ey19]; rfl) (by decide) rfl (fun ls hl => ?_)
      refine lv_goto (tgt := 7) hx hb dX12_takesOther_31 (by decide) ?_
      exact ih x2 y19 M17 _ _ ls hT h (lv_sub hl [1, 2, 0] rfl)
def T_X12_takesOther (x1 : Int32) (x2 : Int32) (M : Mm) (K : Mm → Prop) : Prop := ((x1 = (3 : Int32) → (T_X12_takesOther_7 5000 x2 (0 : Int32) M K)) ∧ (¬ x1 = (3 : Int32) → ((x1 = (1 : Int32) → (T_X12_takesOther_47 5000 x2 (0 : Int32) M K)) ∧ (¬ x1 = (1 : Int32) → (T_X12_takesOther_84 5000 x2 (0 : Int32) M K)))))
set_option maxHeartbeats 4000000 in
set_option maxRecDepth 100000 in
theorem c_X12_takesOther (l : Launch) (G : fx_G) {x1 : Int32} {x2 : Int32} {M : Mm} {K : Mm → Prop} (hT : T_X12_takesOther x1 x2 M K) : Met l yX12_takesOther (fx_ws yX12_takesOther cX12_takesOther 4 none) (fx_rm (0)) (va_Pc [.ref (G.2.2.2 + 159), .int x1, .int x2] (fx_P G SH M)) (va_Qv K (fx_R G SH) (fx_A G)) 0 0 (fx_A G) := by
  refine fx_met (own := RX12) (by decide +kernel) rfl (Nat.le_of_ble_eq_true rfl) (fun p e s m below meth c X hr hk h ls hl => ?_)
  obtain ⟨⟨hx, hb, hml, hown, hts⟩, hK, hQ⟩ := id X
  have hl : lv_has ls 4 [(0, .ref (G.2.2.2 + 159)), (1, .int x1), (2, .int x2)] := hl
  unfold T_X12_takesOther at hT
  refine lv_iload_n hx hb dX12_takesOther_0 rfl (lv_at hl 1 rfl) ?_
  refine lv_iconst (v := 3) hx hb dX12_takesOther_1 (by decide) ?_
  refine lv_icmp_ne (tgt := 40) hx hb dX12_takesOther_2 (by decide) (fun hc20 => ?_) (fun hc20 => ?_)
  · have hT := hT.2 hc20
    refine lv_iload_n hx hb dX12_takesOther_40 rfl (lv_at hl 1 rfl) ?_
    refine lv_iconst (v := 1) hx hb dX12_takesOther_41 (by decide) ?_
    refine lv_icmp_ne (tgt := 82) hx hb dX12_takesOther_42 (by decide) (fun hc21 => ?_) (fun hc21 => ?_)
    · have hT := hT.2 hc21
      refine lv_iconst (v := 0) hx hb dX12_takesOther_82 (by decide) ?_
      refine lv_istore_n (lv' := [(3, .int (0 : Int32)), (0, .ref (G.2.2.2 + 159)), (1, .int x1), (2, .int x2)]) hx hb dX12_takesOther_83 rfl hl (by decide) rfl (fun ls hl => ?_)
      exact w_X12_takesOther_84 X hr hk 5000 x2 (0 : Int32) M _ _ ls hT h (lv_sub hl [1, 3, 0] rfl)
    · have hT := hT.1 hc21
      refine lv_iconst (v := 0) hx hb dX12_takesOther_45 (by decide) ?_
      refine lv_istore_n (lv' := [(3, .int (0 : Int32)), (0, .ref (G.2.2.2 + 159)), (1, .int x1), (2, .int x2)]) hx hb dX12_takesOther_46 rfl hl (by decide) rfl (fun ls hl => ?_)
      exact w_X12_takesOther_47 X hr hk 5000 x2 (0 : Int32) M _ _ ls hT h (lv_sub hl [1, 3, 0] rfl)
  · have hT := hT.1 hc20
    refine lv_iconst (v := 0) hx hb dX12_takesOther_5 (by decide) ?_
    refine lv_istore_n (lv' := [(3, .int (0 : Int32)), (0, .ref (G.2.2.2 + 159)), (1, .int x1), (2, .int x2)]) hx hb dX12_takesOther_6 rfl hl (by decide) rfl (fun ls hl => ?_)
    exact w_X12_takesOther_7 X hr hk 5000 x2 (0 : Int32) M _ _ ls hT h (lv_sub hl [1, 3, 0] rfl)
/-! MockParcelsModel.text(I)I -/
theorem dX12_text_0 : decode cX12_text 0 = .ok (.aload_n 0, 1) := by decide +kernel
theorem dX12_text_1 : decode cX12_text 1 = .ok (.iconst 0, 1) := by decide +kernel
theorem dX12_text_2 : decode cX12_text 2 = .ok (.putfield 134, 3) := by decide +kernel
theorem dX12_text_5 : decode cX12_text 5 = .ok (.aload_n 0, 1) := by decide +kernel
theorem dX12_text_6 : decode cX12_text 6 = .ok (.iconst 0, 1) := by decide +kernel
theorem dX12_text_7 : decode cX12_text 7 = .ok (.putfield 315, 3) := by decide +kernel
theorem dX12_text_10 : decode cX12_text 10 = .ok (.aload_n 0, 1) := by decide +kernel
theorem dX12_text_11 : decode cX12_text 11 = .ok (.iconst (-1), 1) := by decide +kernel
theorem dX12_text_12 : decode cX12_text 12 = .ok (.putfield 67, 3) := by decide +kernel
theorem dX12_text_15 : decode cX12_text 15 = .ok (.aload_n 0, 1) := by decide +kernel
theorem dX12_text_16 : decode cX12_text 16 = .ok (.iconst 0, 1) := by decide +kernel
theorem dX12_text_17 : decode cX12_text 17 = .ok (.putfield 178, 3) := by decide +kernel
theorem dX12_text_20 : decode cX12_text 20 = .ok (.aload_n 0, 1) := by decide +kernel
theorem dX12_text_21 : decode cX12_text 21 = .ok (.iconst 0, 1) := by decide +kernel
theorem dX12_text_22 : decode cX12_text 22 = .ok (.putfield 212, 3) := by decide +kernel
theorem dX12_text_25 : decode cX12_text 25 = .ok (.aload_n 0, 1) := by decide +kernel
theorem dX12_text_26 : decode cX12_text 26 = .ok (.iconst 0, 1) := by decide +kernel
theorem dX12_text_27 : decode cX12_text 27 = .ok (.putfield 244, 3) := by decide +kernel
theorem dX12_text_30 : decode cX12_text 30 = .ok (.iconst (-1), 1) := by decide +kernel
theorem dX12_text_31 : decode cX12_text 31 = .ok (.istore_n 2, 1) := by decide +kernel
theorem dX12_text_32 : decode cX12_text 32 = .ok (.aload_n 0, 1) := by decide +kernel
theorem dX12_text_33 : decode cX12_text 33 = .ok (.iload_n 1, 1) := by decide +kernel
theorem dX12_text_34 : decode cX12_text 34 = .ok (.iconst 0, 1) := by decide +kernel
theorem dX12_text_35 : decode cX12_text 35 = .ok (.iconst 3, 1) := by decide +kernel
theorem dX12_text_36 : decode cX12_text 36 = .ok (.invokevirtual 157, 3) := by decide +kernel
theorem dX12_text_39 : decode cX12_text 39 = .ok (.ifCond .eq 30, 3) := by decide +kernel
theorem dX12_text_42 : decode cX12_text 42 = .ok (.aload_n 0, 1) := by decide +kernel
theorem dX12_text_43 : decode cX12_text 43 = .ok (.iload_n 1, 1) := by decide +kernel
theorem dX12_text_44 : decode cX12_text 44 = .ok (.invokevirtual 318, 3) := by decide +kernel
theorem dX12_text_47 : decode cX12_text 47 = .ok (.istore_n 2, 1) := by decide +kernel
theorem dX12_text_48 : decode cX12_text 48 = .ok (.iload_n 2, 1) := by decide +kernel
theorem dX12_text_49 : decode cX12_text 49 = .ok (.iconst (-1), 1) := by decide +kernel
theorem dX12_text_50 : decode cX12_text 50 = .ok (.if_icmp .ne 19, 3) := by decide +kernel
theorem dX12_text_53 : decode cX12_text 53 = .ok (.aload_n 0, 1) := by decide +kernel
theorem dX12_text_54 : decode cX12_text 54 = .ok (.aload_n 0, 1) := by decide +kernel
theorem dX12_text_55 : decode cX12_text 55 = .ok (.getfield 206, 3) := by decide +kernel
theorem dX12_text_58 : decode cX12_text 58 = .ok (.putfield 315, 3) := by decide +kernel
theorem dX12_text_61 : decode cX12_text 61 = .ok (.aload_n 0, 1) := by decide +kernel
theorem dX12_text_62 : decode cX12_text 62 = .ok (.aload_n 0, 1) := by decide +kernel
theorem dX12_text_63 : decode cX12_text 63 = .ok (.getfield 209, 3) := by decide +kernel
theorem dX12_text_66 : decode cX12_text 66 = .ok (.putfield 67, 3) := by decide +kernel
theorem dX12_text_69 : decode cX12_text 69 = .ok (.aload_n 0, 1) := by decide +kernel
theorem dX12_text_70 : decode cX12_text 70 = .ok (.iconst 0, 1) := by decide +kernel
theorem dX12_text_71 : decode cX12_text 71 = .ok (.putfield 171, 3) := by decide +kernel
theorem dX12_text_74 : decode cX12_text 74 = .ok (.iload_n 2, 1) := by decide +kernel
theorem dX12_text_75 : decode cX12_text 75 = .ok (.iconst (-1), 1) := by decide +kernel
theorem dX12_text_76 : decode cX12_text 76 = .ok (.if_icmp .ne 5, 3) := by decide +kernel
theorem dX12_text_79 : decode cX12_text 79 = .ok (.iconst (-1), 1) := by decide +kernel
theorem dX12_text_80 : decode cX12_text 80 = .ok (.ireturn, 1) := by decide +kernel
theorem dX12_text_81 : decode cX12_text 81 = .ok (.iload_n 1, 1) := by decide +kernel
theorem dX12_text_82 : decode cX12_text 82 = .ok (.ifCond .ne 11, 3) := by decide +kernel
theorem dX12_text_85 : decode cX12_text 85 = .ok (.aload_n 0, 1) := by decide +kernel
theorem dX12_text_86 : decode cX12_text 86 = .ok (.iload_n 2, 1) := by decide +kernel
theorem dX12_text_87 : decode cX12_text 87 = .ok (.invokevirtual 321, 3) := by decide +kernel
theorem dX12_text_90 : decode cX12_text 90 = .ok (.goto 9, 3) := by decide +kernel
theorem dX12_text_93 : decode cX12_text 93 = .ok (.aload_n 0, 1) := by decide +kernel
theorem dX12_text_94 : decode cX12_text 94 = .ok (.iload_n 1, 1) := by decide +kernel
theorem dX12_text_95 : decode cX12_text 95 = .ok (.iload_n 2, 1) := by decide +kernel
theorem dX12_text_96 : decode cX12_text 96 = .ok (.invokevirtual 324, 3) := by decide +kernel
theorem dX12_text_99 : decode cX12_text 99 = .ok (.iload_n 2, 1) := by decide +kernel
theorem dX12_text_100 : decode cX12_text 100 = .ok (.ireturn, 1) := by decide +kernel
def T_X12_text_69 (x1 : Int32) (x2 : Int32) (M : Mm) (K : Int32 → Mm → Prop) : Prop := (∀ M1 : Mm, M1 = m_up M 159 15 (0 : Int32) → ((x2 = (-1 : Int32) → (K (-1 : Int32) M1)) ∧ (¬ x2 = (-1 : Int32) → ((x1 = 0 → (T_X12_takesLaw x2 M1 (fun M7 => (K x2 M7)))) ∧ (¬ x1 = 0 → (T_X12_takesOther x1 x2 M1 (fun M5 => (K x2 M5))))))))
set_option maxHeartbeats 4000000 in
set_option maxRecDepth 100000 in
theorem w_X12_text_69 {p : Program} {l : Launch} {e : Env} {s : State} {m : MethodId} {args : Array Value} {below : List Frame} {meth : Method} {c : Code} {G : fx_G} {K : Int32 → Mm → Prop} (X : fx_C G p s m c args cX12_text 3 RX12) (hr : meth.sig.returnType = (some .int)) (hk : meth.locks = false) : ∀ (x1 : Int32) (x2 : Int32) (M : Mm) (H : Heap) (locs : List Loc) (ls : Array Slot), T_X12_text_69 x1 x2 M K → fx_H G SH M s H locs → lv_has ls 3 [(0, .ref (G.2.2.2 + 159)), (1, .int x1), (2, .int x2)] → W p l e (fx_rm (10)) s m args below meth c H locs 0 0 (MQ below (va_Qi K (fx_R G SH) (fx_A G)) args s 0 0 (fx_A G)) (F0 m 69 ls []) := by
  obtain ⟨⟨hx, hb, hml, hown, hts⟩, hK, hQ⟩ := id X
  intro x1 x2 M H locs ls hT h hl
  unfold T_X12_text_69 at hT
  refine lv_aload_n hx hb dX12_text_69 rfl (lv_at hl 0 rfl) ?_
  refine lv_iconst (v := 0) hx hb dX12_text_70 (by decide) ?_
  refine fx_putI X h (k := 159) (j := 15) sh_159 rfl fl_RX12_171 dX12_text_71 (fun H locs h => ?_)
  obtain ⟨M1, eM1⟩ : ∃ z : Mm, z = m_up M 159 15 (0 : Int32) := ⟨_, rfl⟩
  have hT := hT M1 eM1
  rw [← eM1] at h
  refine lv_iload_n hx hb dX12_text_74 rfl (lv_at hl 2 rfl) ?_
  refine lv_iconst (v := -1) hx hb dX12_text_75 (by decide) ?_
  refine lv_icmp_ne (tgt := 81) hx hb dX12_text_76 (by decide) (fun hc2 => ?_) (fun hc2 => ?_)
  · have hT := hT.2 hc2
    refine lv_iload_n hx hb dX12_text_81 rfl (lv_at hl 1 rfl) ?_
    refine lv_if_ne (tgt := 93) hx hb dX12_text_82 (by decide) (fun hc3 => ?_) (fun hc3 => ?_)
    · have hT := hT.2 hc3
      refine lv_aload_n hx hb dX12_text_93 rfl (lv_at hl 0 rfl) ?_
      refine lv_iload_n hx hb dX12_text_94 rfl (lv_at hl 1 rfl) ?_
      refine lv_iload_n hx hb dX12_text_95 rfl (lv_at hl 2 rfl) ?_
      refine fx_vv X h ym_X12_takesOther yi_X12_takesOther ys_X12_takesOther (fx_s8 (List.mem_of_getElem? (i := 9) rfl) rfl) sh_159 rfl (c_X12_takesOther l G hT) (As := [.int x1, .int x2]) (rest := []) rfl rfl ⟨Nat.le_of_ble_eq_true rfl, Nat.le_of_ble_eq_true rfl⟩ ⟨Nat.le_refl _, Nat.le_refl _⟩ hl.1 (Nat.le_of_ble_eq_true rfl) dX12_text_96 (fun M5 H locs hT h => ?_)
      refine lv_iload_n hx hb dX12_text_99 rfl (lv_at hl 2 rfl) ?_
      exact fx_iret X hr hk h hT dX12_text_100
    · have hT := hT.1 hc3
      refine lv_aload_n hx hb dX12_text_85 rfl (lv_at hl 0 rfl) ?_
      refine lv_iload_n hx hb dX12_text_86 rfl (lv_at hl 2 rfl) ?_
      refine fx_vv X h ym_X12_takesLaw yi_X12_takesLaw ys_X12_takesLaw (fx_s8 (List.mem_of_getElem? (i := 5) rfl) rfl) sh_159 rfl (c_X12_takesLaw l G hT) (As := [.int x2]) (rest := []) rfl rfl ⟨Nat.le_of_ble_eq_true rfl, Nat.le_of_ble_eq_true rfl⟩ ⟨Nat.le_refl _, Nat.le_refl _⟩ hl.1 (Nat.le_of_ble_eq_true rfl) dX12_text_87 (fun M7 H locs hT h => ?_)
      refine lv_goto (tgt := 99) hx hb dX12_text_90 (by decide) ?_
      refine lv_iload_n hx hb dX12_text_99 rfl (lv_at hl 2 rfl) ?_
      exact fx_iret X hr hk h hT dX12_text_100
  · have hT := hT.1 hc2
    refine lv_iconst (v := -1) hx hb dX12_text_79 (by decide) ?_
    exact fx_iret X hr hk h hT dX12_text_80
def T_X12_text (x1 : Int32) (M : Mm) (K : Int32 → Mm → Prop) : Prop := (∀ M8 : Mm, M8 = m_up M 159 0 (0 : Int32) → (∀ M9 : Mm, M9 = m_up M8 159 35 (0 : Int32) → (∀ M10 : Mm, M10 = m_up M9 159 36 (-1 : Int32) → (∀ M11 : Mm, M11 = m_up M10 159 16 (0 : Int32) → (∀ M12 : Mm, M12 = m_up M11 159 29 (0 : Int32) → (∀ M13 : Mm, M13 = m_up M12 159 30 (0 : Int32) → (T_X12_isIn x1 (0 : Int32) (3 : Int32) M13 (fun r16 M15 => ((r16 = 0 → (T_X12_text_69 x1 (-1 : Int32) M15 K)) ∧ (¬ r16 = 0 → (T_X12_readsText x1 M15 (fun r20 M19 => ((r20 = (-1 : Int32) → (∀ M22 : Mm, M22 = m_up M19 159 35 (M19 159 33) → (∀ M23 : Mm, M23 = m_up M22 159 36 (M22 159 34) → (T_X12_text_69 x1 r20 M23 K)))) ∧ (¬ r20 = (-1 : Int32) → (T_X12_text_69 x1 r20 M19 K)))))))))))))))
set_option maxHeartbeats 4000000 in
set_option maxRecDepth 100000 in
theorem c_X12_text (l : Launch) (G : fx_G) {x1 : Int32} {M : Mm} {K : Int32 → Mm → Prop} (hT : T_X12_text x1 M K) : Met l yX12_text (fx_ws yX12_text cX12_text 3 (some .int)) (fx_rm (10)) (va_Pc [.ref (G.2.2.2 + 159), .int x1] (fx_P G SH M)) (va_Qi K (fx_R G SH) (fx_A G)) 0 0 (fx_A G) := by
  refine fx_met (own := RX12) (by decide +kernel) rfl (Nat.le_of_ble_eq_true rfl) (fun p e s m below meth c X hr hk h ls hl => ?_)
  obtain ⟨⟨hx, hb, hml, hown, hts⟩, hK, hQ⟩ := id X
  have hl : lv_has ls 3 [(0, .ref (G.2.2.2 + 159)), (1, .int x1)] := hl
  unfold T_X12_text at hT
  refine lv_aload_n hx hb dX12_text_0 rfl (lv_at hl 0 rfl) ?_
  refine lv_iconst (v := 0) hx hb dX12_text_1 (by decide) ?_
  refine fx_putI X h (k := 159) (j := 0) sh_159 rfl fl_RX12_134 dX12_text_2 (fun H locs h => ?_)
  obtain ⟨M8, eM8⟩ : ∃ z : Mm, z = m_up M 159 0 (0 : Int32) := ⟨_, rfl⟩
  have hT := hT M8 eM8
  rw [← eM8] at h
  refine lv_aload_n hx hb dX12_text_5 rfl (lv_at hl 0 rfl) ?_
  refine lv_iconst (v := 0) hx hb dX12_text_6 (by decide) ?_
  refine fx_putI X h (k := 159) (j := 35) sh_159 rfl fl_RX12_315 dX12_text_7 (fun H locs h => ?_)
  obtain ⟨M9, eM9⟩ : ∃ z : Mm, z = m_up M8 159 35 (0 : Int32) := ⟨_, rfl⟩
  have hT := hT M9 eM9
  rw [← eM9] at h
  refine lv_aload_n hx hb dX12_text_10 rfl (lv_at hl 0 rfl) ?_
  refine lv_iconst (v := -1) hx hb dX12_text_11 (by decide) ?_
  refine fx_putI X h (k := 159) (j := 36) sh_159 rfl fl_RX12_67 dX12_text_12 (fun H locs h => ?_)
  obtain ⟨M10, eM10⟩ : ∃ z : Mm, z = m_up M9 159 36 (-1 : Int32) := ⟨_, rfl⟩
  have hT := hT M10 eM10
  rw [← eM10] at h
  refine lv_aload_n hx hb dX12_text_15 rfl (lv_at hl 0 rfl) ?_
  refine lv_iconst (v := 0) hx hb dX12_text_16 (by decide) ?_
  refine fx_putI X h (k := 159) (j := 16) sh_159 rfl fl_RX12_178 dX12_text_17 (fun H locs h => ?_)
  obtain ⟨M11, eM11⟩ : ∃ z : Mm, z = m_up M10 159 16 (0 : Int32) := ⟨_, rfl⟩
  have hT := hT M11 eM11
  rw [← eM11] at h
  refine lv_aload_n hx hb dX12_text_20 rfl (lv_at hl 0 rfl) ?_
  refine lv_iconst (v := 0) hx hb dX12_text_21 (by decide) ?_
  refine fx_putI X h (k := 159) (j := 29) sh_159 rfl fl_RX12_212 dX12_text_22 (fun H locs h => ?_)
  obtain ⟨M12, eM12⟩ : ∃ z : Mm, z = m_up M11 159 29 (0 : Int32) := ⟨_, rfl⟩
  have hT := hT M12 eM12
  rw [← eM12] at h
  refine lv_aload_n hx hb dX12_text_25 rfl (lv_at hl 0 rfl) ?_
  refine lv_iconst (v := 0) hx hb dX12_text_26 (by decide) ?_
  refine fx_putI X h (k := 159) (j := 30) sh_159 rfl fl_RX12_244 dX12_text_27 (fun H locs h => ?_)
  obtain ⟨M13, eM13⟩ : ∃ z : Mm, z = m_up M12 159 30 (0 : Int32) := ⟨_, rfl⟩
  have hT := hT M13 eM13
  rw [← eM13] at h
  refine lv_iconst (v := -1) hx hb dX12_text_30 (by decide) ?_
  refine lv_istore_n (lv' := [(2, .int (-1 : Int32)), (0, .ref (G.2.2.2 + 159)), (1, .int x1)]) hx hb dX12_text_31 rfl hl (by decide) rfl (fun ls hl => ?_)
  refine lv_aload_n hx hb dX12_text_32 rfl (lv_at hl 1 rfl) ?_
  refine lv_iload_n hx hb dX12_text_33 rfl (lv_at hl 2 rfl) ?_
  refine lv_iconst (v := 0) hx hb dX12_text_34 (by decide) ?_
  refine lv_iconst (v := 3) hx hb dX12_text_35 (by decide) ?_
  refine fx_vi X h ym_X12_isIn yi_X12_isIn ys_X12_isIn (fx_s7 (List.mem_of_getElem? (i := 77) rfl) rfl) sh_159 rfl (c_X12_isIn l G hT) (As := [.int x1, .int (0 : Int32), .int (3 : Int32)]) (rest := []) rfl rfl ⟨Nat.le_of_ble_eq_true rfl, Nat.le_of_ble_eq_true rfl⟩ ⟨Nat.le_refl _, Nat.le_refl _⟩ hl.1 (Nat.le_of_ble_eq_true rfl) dX12_text_36 (fun r16 M15 H locs hT h => ?_)
  refine lv_if_eq (tgt := 69) hx hb dX12_text_39 (by decide) (fun hc17 => ?_) (fun hc17 => ?_)
  · have hT := hT.1 hc17
    exact w_X12_text_69 X hr hk x1 (-1 : Int32) M15 _ _ ls hT h (lv_sub hl [1, 2, 0] rfl)
  · have hT := hT.2 hc17
    refine lv_aload_n hx hb dX12_text_42 rfl (lv_at hl 1 rfl) ?_
    refine lv_iload_n hx hb dX12_text_43 rfl (lv_at hl 2 rfl) ?_
    refine fx_vi X h ym_X12_readsText yi_X12_readsText ys_X12_readsText (fx_s7 (List.mem_of_getElem? (i := 117) rfl) rfl) sh_159 rfl (c_X12_readsText l G hT) (As := [.int x1]) (rest := []) rfl rfl ⟨Nat.le_of_ble_eq_true rfl, Nat.le_of_ble_eq_true rfl⟩ ⟨Nat.le_refl _, Nat.le_refl _⟩ hl.1 (Nat.le_of_ble_eq_true rfl) dX12_text_44 (fun r20 M19 H locs hT h => ?_)
    refine lv_istore_n (lv' := [(2, .int r20), (0, .ref (G.2.2.2 + 159)), (1, .int x1)]) hx hb dX12_text_47 rfl hl (by decide) rfl (fun ls hl => ?_)
    refine lv_iload_n hx hb dX12_text_48 rfl (lv_at hl 0 rfl) ?_
    refine lv_iconst (v := -1) hx hb dX12_text_49 (by decide) ?_
    refine lv_icmp_ne (tgt := 69) hx hb dX12_text_50 (by decide) (fun hc21 => ?_) (fun hc21 => ?_)
    · have hT := hT.2 hc21
      exact w_X12_text_69 X hr hk x1 r20 M19 _ _ ls hT h (lv_sub hl [1, 2, 0] rfl)
    · have hT := hT.1 hc21
      refine lv_aload_n hx hb dX12_text_53 rfl (lv_at hl 1 rfl) ?_
      refine lv_aload_n hx hb dX12_text_54 rfl (lv_at hl 1 rfl) ?_
      refine fx_getI X h (k := 159) (j := 33) sh_159 rfl fl_RX12_206 dX12_text_55 ?_
      refine fx_putI X h (k := 159) (j := 35) sh_159 rfl fl_RX12_315 dX12_text_58 (fun H locs h => ?_)
      obtain ⟨M22, eM22⟩ : ∃ z : Mm, z = m_up M19 159 35 (M19 159 33) := ⟨_, rfl⟩
      have hT := hT M22 eM22
      rw [← eM22] at h
      refine lv_aload_n hx hb dX12_text_61 rfl (lv_at hl 1 rfl) ?_
      refine lv_aload_n hx hb dX12_text_62 rfl (lv_at hl 1 rfl) ?_
      refine fx_getI X h (k := 159) (j := 34) sh_159 rfl fl_RX12_209 dX12_text_63 ?_
      refine fx_putI X h (k := 159) (j := 36) sh_159 rfl fl_RX12_67 dX12_text_66 (fun H locs h => ?_)
      obtain ⟨M23, eM23⟩ : ∃ z : Mm, z = m_up M22 159 36 (M22 159 34) := ⟨_, rfl⟩
      have hT := hT M23 eM23
      rw [← eM23] at h
      exact w_X12_text_69 X hr hk x1 r20 M23 _ _ ls hT h (lv_sub hl [1, 2, 0] rfl)
/-! MockParcelsModel.fault(I)I -/
theorem dX12_fault_0 : decode cX12_fault 0 = .ok (.aload_n 0, 1) := by decide +kernel
theorem dX12_fault_1 : decode cX12_fault 1 = .ok (.iconst 0, 1) := by decide +kernel
theorem dX12_fault_2 : decode cX12_fault 2 = .ok (.putfield 134, 3) := by decide +kernel
theorem dX12_fault_5 : decode cX12_fault 5 = .ok (.iload_n 1, 1) := by decide +kernel
theorem dX12_fault_6 : decode cX12_fault 6 = .ok (.ifCond .ne 10, 3) := by decide +kernel
theorem dX12_fault_9 : decode cX12_fault 9 = .ok (.aload_n 0, 1) := by decide +kernel
theorem dX12_fault_10 : decode cX12_fault 10 = .ok (.getfield 315, 3) := by decide +kernel
theorem dX12_fault_13 : decode cX12_fault 13 = .ok (.goto 16, 3) := by decide +kernel
theorem dX12_fault_16 : decode cX12_fault 16 = .ok (.iload_n 1, 1) := by decide +kernel
theorem dX12_fault_17 : decode cX12_fault 17 = .ok (.iconst 1, 1) := by decide +kernel
theorem dX12_fault_18 : decode cX12_fault 18 = .ok (.if_icmp .ne 10, 3) := by decide +kernel
theorem dX12_fault_21 : decode cX12_fault 21 = .ok (.aload_n 0, 1) := by decide +kernel
theorem dX12_fault_22 : decode cX12_fault 22 = .ok (.getfield 67, 3) := by decide +kernel
theorem dX12_fault_25 : decode cX12_fault 25 = .ok (.goto 4, 3) := by decide +kernel
theorem dX12_fault_28 : decode cX12_fault 28 = .ok (.iconst (-1), 1) := by decide +kernel
theorem dX12_fault_29 : decode cX12_fault 29 = .ok (.ireturn, 1) := by decide +kernel
def T_X12_fault (x1 : Int32) (M : Mm) (K : Int32 → Mm → Prop) : Prop := (∀ M1 : Mm, M1 = m_up M 159 0 (0 : Int32) → ((x1 = 0 → (K (M1 159 35) M1)) ∧ (¬ x1 = 0 → ((x1 = (1 : Int32) → (K (M1 159 36) M1)) ∧ (¬ x1 = (1 : Int32) → (K (-1 : Int32) M1))))))
set_option maxHeartbeats 4000000 in
set_option maxRecDepth 100000 in
theorem c_X12_fault (l : Launch) (G : fx_G) {x1 : Int32} {M : Mm} {K : Int32 → Mm → Prop} (hT : T_X12_fault x1 M K) : Met l yX12_fault (fx_ws yX12_fault cX12_fault 2 (some .int)) (fx_rm (0)) (va_Pc [.ref (G.2.2.2 + 159), .int x1] (fx_P G SH M)) (va_Qi K (fx_R G SH) (fx_A G)) 0 0 (fx_A G) := by
  refine fx_met (own := RX12) (by decide +kernel) rfl (Nat.le_of_ble_eq_true rfl) (fun p e s m below meth c X hr hk h ls hl => ?_)
  obtain ⟨⟨hx, hb, hml, hown, hts⟩, hK, hQ⟩ := id X
  have hl : lv_has ls 2 [(0, .ref (G.2.2.2 + 159)), (1, .int x1)] := hl
  unfold T_X12_fault at hT
  refine lv_aload_n hx hb dX12_fault_0 rfl (lv_at hl 0 rfl) ?_
  refine lv_iconst (v := 0) hx hb dX12_fault_1 (by decide) ?_
  refine fx_putI X h (k := 159) (j := 0) sh_159 rfl fl_RX12_134 dX12_fault_2 (fun H locs h => ?_)
  obtain ⟨M1, eM1⟩ : ∃ z : Mm, z = m_up M 159 0 (0 : Int32) := ⟨_, rfl⟩
  have hT := hT M1 eM1
  rw [← eM1] at h
  refine lv_iload_n hx hb dX12_fault_5 rfl (lv_at hl 1 rfl) ?_
  refine lv_if_ne (tgt := 16) hx hb dX12_fault_6 (by decide) (fun hc2 => ?_) (fun hc2 => ?_)
  · have hT := hT.2 hc2
    refine lv_iload_n hx hb dX12_fault_16 rfl (lv_at hl 1 rfl) ?_
    refine lv_iconst (v := 1) hx hb dX12_fault_17 (by decide) ?_
    refine lv_icmp_ne (tgt := 28) hx hb dX12_fault_18 (by decide) (fun hc3 => ?_) (fun hc3 => ?_)
    · have hT := hT.2 hc3
      refine lv_iconst (v := -1) hx hb dX12_fault_28 (by decide) ?_
      exact fx_iret X hr hk h hT dX12_fault_29
    · have hT := hT.1 hc3
      refine lv_aload_n hx hb dX12_fault_21 rfl (lv_at hl 0 rfl) ?_
      refine fx_getI X h (k := 159) (j := 36) sh_159 rfl fl_RX12_67 dX12_fault_22 ?_
      refine lv_goto (tgt := 29) hx hb dX12_fault_25 (by decide) ?_
      exact fx_iret X hr hk h hT dX12_fault_29
  · have hT := hT.1 hc2
    refine lv_aload_n hx hb dX12_fault_9 rfl (lv_at hl 0 rfl) ?_
    refine fx_getI X h (k := 159) (j := 35) sh_159 rfl fl_RX12_315 dX12_fault_10 ?_
    refine lv_goto (tgt := 29) hx hb dX12_fault_13 (by decide) ?_
    exact fx_iret X hr hk h hT dX12_fault_29
/-! MockParcelsModel.twoOf(III)I -/
theorem dX12_twoOf_0 : decode cX12_twoOf 0 = .ok (.iload_n 1, 1) := by decide +kernel
theorem dX12_twoOf_1 : decode cX12_twoOf 1 = .ok (.iconst 2, 1) := by decide +kernel
theorem dX12_twoOf_2 : decode cX12_twoOf 2 = .ok (.if_icmp .ne 7, 3) := by decide +kernel
theorem dX12_twoOf_5 : decode cX12_twoOf 5 = .ok (.iload_n 2, 1) := by decide +kernel
theorem dX12_twoOf_6 : decode cX12_twoOf 6 = .ok (.iload_n 3, 1) := by decide +kernel
theorem dX12_twoOf_7 : decode cX12_twoOf 7 = .ok (.iadd, 1) := by decide +kernel
theorem dX12_twoOf_8 : decode cX12_twoOf 8 = .ok (.ireturn, 1) := by decide +kernel
theorem dX12_twoOf_9 : decode cX12_twoOf 9 = .ok (.iload_n 1, 1) := by decide +kernel
theorem dX12_twoOf_10 : decode cX12_twoOf 10 = .ok (.iconst 3, 1) := by decide +kernel
theorem dX12_twoOf_11 : decode cX12_twoOf 11 = .ok (.if_icmp .ne 7, 3) := by decide +kernel
theorem dX12_twoOf_14 : decode cX12_twoOf 14 = .ok (.iload_n 2, 1) := by decide +kernel
theorem dX12_twoOf_15 : decode cX12_twoOf 15 = .ok (.iload_n 3, 1) := by decide +kernel
theorem dX12_twoOf_16 : decode cX12_twoOf 16 = .ok (.isub, 1) := by decide +kernel
theorem dX12_twoOf_17 : decode cX12_twoOf 17 = .ok (.ireturn, 1) := by decide +kernel
theorem dX12_twoOf_18 : decode cX12_twoOf 18 = .ok (.iload_n 1, 1) := by decide +kernel
theorem dX12_twoOf_19 : decode cX12_twoOf 19 = .ok (.iconst 4, 1) := by decide +kernel
theorem dX12_twoOf_20 : decode cX12_twoOf 20 = .ok (.if_icmp .ne 7, 3) := by decide +kernel
theorem dX12_twoOf_23 : decode cX12_twoOf 23 = .ok (.iload_n 2, 1) := by decide +kernel
theorem dX12_twoOf_24 : decode cX12_twoOf 24 = .ok (.iload_n 3, 1) := by decide +kernel
theorem dX12_twoOf_25 : decode cX12_twoOf 25 = .ok (.imul, 1) := by decide +kernel
theorem dX12_twoOf_26 : decode cX12_twoOf 26 = .ok (.ireturn, 1) := by decide +kernel
theorem dX12_twoOf_27 : decode cX12_twoOf 27 = .ok (.iload_n 1, 1) := by decide +kernel
theorem dX12_twoOf_28 : decode cX12_twoOf 28 = .ok (.iconst 5, 1) := by decide +kernel
theorem dX12_twoOf_29 : decode cX12_twoOf 29 = .ok (.if_icmp .ne 7, 3) := by decide +kernel
theorem dX12_twoOf_32 : decode cX12_twoOf 32 = .ok (.iload_n 2, 1) := by decide +kernel
theorem dX12_twoOf_33 : decode cX12_twoOf 33 = .ok (.iload_n 3, 1) := by decide +kernel
theorem dX12_twoOf_34 : decode cX12_twoOf 34 = .ok (.idiv, 1) := by decide +kernel
theorem dX12_twoOf_35 : decode cX12_twoOf 35 = .ok (.ireturn, 1) := by decide +kernel
theorem dX12_twoOf_36 : decode cX12_twoOf 36 = .ok (.iload_n 1, 1) := by decide +kernel
theorem dX12_twoOf_37 : decode cX12_twoOf 37 = .ok (.bipush 6, 2) := by decide +kernel
theorem dX12_twoOf_39 : decode cX12_twoOf 39 = .ok (.if_icmp .ne 14, 3) := by decide +kernel
theorem dX12_twoOf_42 : decode cX12_twoOf 42 = .ok (.iload_n 2, 1) := by decide +kernel
theorem dX12_twoOf_43 : decode cX12_twoOf 43 = .ok (.iload_n 3, 1) := by decide +kernel
theorem dX12_twoOf_44 : decode cX12_twoOf 44 = .ok (.if_icmp .ge 7, 3) := by decide +kernel
theorem dX12_twoOf_47 : decode cX12_twoOf 47 = .ok (.iconst 1, 1) := by decide +kernel
theorem dX12_twoOf_48 : decode cX12_twoOf 48 = .ok (.goto 4, 3) := by decide +kernel
theorem dX12_twoOf_51 : decode cX12_twoOf 51 = .ok (.iconst 0, 1) := by decide +kernel
theorem dX12_twoOf_52 : decode cX12_twoOf 52 = .ok (.ireturn, 1) := by decide +kernel
theorem dX12_twoOf_53 : decode cX12_twoOf 53 = .ok (.iload_n 1, 1) := by decide +kernel
theorem dX12_twoOf_54 : decode cX12_twoOf 54 = .ok (.bipush 7, 2) := by decide +kernel
theorem dX12_twoOf_56 : decode cX12_twoOf 56 = .ok (.if_icmp .ne 14, 3) := by decide +kernel
theorem dX12_twoOf_59 : decode cX12_twoOf 59 = .ok (.iload_n 2, 1) := by decide +kernel
theorem dX12_twoOf_60 : decode cX12_twoOf 60 = .ok (.iload_n 3, 1) := by decide +kernel
theorem dX12_twoOf_61 : decode cX12_twoOf 61 = .ok (.if_icmp .ne 7, 3) := by decide +kernel
theorem dX12_twoOf_64 : decode cX12_twoOf 64 = .ok (.iconst 1, 1) := by decide +kernel
theorem dX12_twoOf_65 : decode cX12_twoOf 65 = .ok (.goto 4, 3) := by decide +kernel
theorem dX12_twoOf_68 : decode cX12_twoOf 68 = .ok (.iconst 0, 1) := by decide +kernel
theorem dX12_twoOf_69 : decode cX12_twoOf 69 = .ok (.ireturn, 1) := by decide +kernel
theorem dX12_twoOf_70 : decode cX12_twoOf 70 = .ok (.iload_n 1, 1) := by decide +kernel
theorem dX12_twoOf_71 : decode cX12_twoOf 71 = .ok (.bipush 8, 2) := by decide +kernel
theorem dX12_twoOf_73 : decode cX12_twoOf 73 = .ok (.if_icmp .ne 14, 3) := by decide +kernel
theorem dX12_twoOf_76 : decode cX12_twoOf 76 = .ok (.iload_n 2, 1) := by decide +kernel
theorem dX12_twoOf_77 : decode cX12_twoOf 77 = .ok (.iload_n 3, 1) := by decide +kernel
theorem dX12_twoOf_78 : decode cX12_twoOf 78 = .ok (.if_icmp .le 7, 3) := by decide +kernel
theorem dX12_twoOf_81 : decode cX12_twoOf 81 = .ok (.iconst 1, 1) := by decide +kernel
theorem dX12_twoOf_82 : decode cX12_twoOf 82 = .ok (.goto 4, 3) := by decide +kernel
theorem dX12_twoOf_85 : decode cX12_twoOf 85 = .ok (.iconst 0, 1) := by decide +kernel
theorem dX12_twoOf_86 : decode cX12_twoOf 86 = .ok (.ireturn, 1) := by decide +kernel
theorem dX12_twoOf_87 : decode cX12_twoOf 87 = .ok (.iload_n 1, 1) := by decide +kernel
theorem dX12_twoOf_88 : decode cX12_twoOf 88 = .ok (.bipush 10, 2) := by decide +kernel
theorem dX12_twoOf_90 : decode cX12_twoOf 90 = .ok (.if_icmp .ne 9, 3) := by decide +kernel
theorem dX12_twoOf_93 : decode cX12_twoOf 93 = .ok (.iload_n 2, 1) := by decide +kernel
theorem dX12_twoOf_94 : decode cX12_twoOf 94 = .ok (.iload_n 3, 1) := by decide +kernel
theorem dX12_twoOf_95 : decode cX12_twoOf 95 = .ok (.imul, 1) := by decide +kernel
theorem dX12_twoOf_96 : decode cX12_twoOf 96 = .ok (.goto 14, 3) := by decide +kernel
theorem dX12_twoOf_99 : decode cX12_twoOf 99 = .ok (.iload_n 2, 1) := by decide +kernel
theorem dX12_twoOf_100 : decode cX12_twoOf 100 = .ok (.iload_n 3, 1) := by decide +kernel
theorem dX12_twoOf_101 : decode cX12_twoOf 101 = .ok (.iadd, 1) := by decide +kernel
theorem dX12_twoOf_102 : decode cX12_twoOf 102 = .ok (.ifCond .le 7, 3) := by decide +kernel
theorem dX12_twoOf_105 : decode cX12_twoOf 105 = .ok (.iconst 1, 1) := by decide +kernel
theorem dX12_twoOf_106 : decode cX12_twoOf 106 = .ok (.goto 4, 3) := by decide +kernel
theorem dX12_twoOf_109 : decode cX12_twoOf 109 = .ok (.iconst 0, 1) := by decide +kernel
theorem dX12_twoOf_110 : decode cX12_twoOf 110 = .ok (.ireturn, 1) := by decide +kernel
def T_X12_twoOf (x1 : Int32) (x2 : Int32) (x3 : Int32) (M : Mm) (K : Int32 → Mm → Prop) : Prop := ((x1 = (2 : Int32) → (K (x2 + x3) M)) ∧ (¬ x1 = (2 : Int32) → ((x1 = (3 : Int32) → (K (x2 - x3) M)) ∧ (¬ x1 = (3 : Int32) → ((x1 = (4 : Int32) → (K (x2 * x3) M)) ∧ (¬ x1 = (4 : Int32) → ((x1 = (5 : Int32) → (¬ x3 = 0 ∧ (K (x2 / x3) M))) ∧ (¬ x1 = (5 : Int32) → ((x1 = (6 : Int32) → ((x3 ≤ x2 → (K (0 : Int32) M)) ∧ (¬ x3 ≤ x2 → (K (1 : Int32) M)))) ∧ (¬ x1 = (6 : Int32) → ((x1 = (7 : Int32) → ((x2 = x3 → (K (1 : Int32) M)) ∧ (¬ x2 = x3 → (K (0 : Int32) M)))) ∧ (¬ x1 = (7 : Int32) → ((x1 = (8 : Int32) → ((x2 ≤ x3 → (K (0 : Int32) M)) ∧ (¬ x2 ≤ x3 → (K (1 : Int32) M)))) ∧ (¬ x1 = (8 : Int32) → ((x1 = (10 : Int32) → (K (x2 * x3) M)) ∧ (¬ x1 = (10 : Int32) → (((x2 + x3) ≤ 0 → (K (0 : Int32) M)) ∧ (¬ (x2 + x3) ≤ 0 → (K (1 : Int32) M)))))))))))))))))))
set_option maxHeartbeats 4000000 in
set_option maxRecDepth 100000 in
theorem c_X12_twoOf (l : Launch) (G : fx_G) {x1 : Int32} {x2 : Int32} {x3 : Int32} {M : Mm} {K : Int32 → Mm → Prop} (hT : T_X12_twoOf x1 x2 x3 M K) : Met l yX12_twoOf (fx_ws yX12_twoOf cX12_twoOf 4 (some .int)) (fx_rm (0)) (va_Pc [.ref (G.2.2.2 + 159), .int x1, .int x2, .int x3] (fx_P G SH M)) (va_Qi K (fx_R G SH) (fx_A G)) 0 0 (fx_A G) := by
  refine fx_met (own := RX12) (by decide +kernel) rfl (Nat.le_of_ble_eq_true rfl) (fun p e s m below meth c X hr hk h ls hl => ?_)
  obtain ⟨⟨hx, hb, hml, hown, hts⟩, hK, hQ⟩ := id X
  have hl : lv_has ls 4 [(0, .ref (G.2.2.2 + 159)), (1, .int x1), (2, .int x2), (3, .int x3)] := hl
  unfold T_X12_twoOf at hT
  refine lv_iload_n hx hb dX12_twoOf_0 rfl (lv_at hl 1 rfl) ?_
  refine lv_iconst (v := 2) hx hb dX12_twoOf_1 (by decide) ?_
  refine lv_icmp_ne (tgt := 9) hx hb dX12_twoOf_2 (by decide) (fun hc1 => ?_) (fun hc1 => ?_)
  · have hT := hT.2 hc1
    refine lv_iload_n hx hb dX12_twoOf_9 rfl (lv_at hl 1 rfl) ?_
    refine lv_iconst (v := 3) hx hb dX12_twoOf_10 (by decide) ?_
    refine lv_icmp_ne (tgt := 18) hx hb dX12_twoOf_11 (by decide) (fun hc2 => ?_) (fun hc2 => ?_)
    · have hT := hT.2 hc2
      refine lv_iload_n hx hb dX12_twoOf_18 rfl (lv_at hl 1 rfl) ?_
      refine lv_iconst (v := 4) hx hb dX12_twoOf_19 (by decide) ?_
      refine lv_icmp_ne (tgt := 27) hx hb dX12_twoOf_20 (by decide) (fun hc3 => ?_) (fun hc3 => ?_)
      · have hT := hT.2 hc3
        refine lv_iload_n hx hb dX12_twoOf_27 rfl (lv_at hl 1 rfl) ?_
        refine lv_iconst (v := 5) hx hb dX12_twoOf_28 (by decide) ?_
        refine lv_icmp_ne (tgt := 36) hx hb dX12_twoOf_29 (by decide) (fun hc4 => ?_) (fun hc4 => ?_)
        · have hT := hT.2 hc4
          refine lv_iload_n hx hb dX12_twoOf_36 rfl (lv_at hl 1 rfl) ?_
          refine lv_bipush (v := 6) hx hb dX12_twoOf_37 (by decide) ?_
          refine lv_icmp_ne (tgt := 53) hx hb dX12_twoOf_39 (by decide) (fun hc5 => ?_) (fun hc5 => ?_)
          · have hT := hT.2 hc5
            refine lv_iload_n hx hb dX12_twoOf_53 rfl (lv_at hl 1 rfl) ?_
            refine lv_bipush (v := 7) hx hb dX12_twoOf_54 (by decide) ?_
            refine lv_icmp_ne (tgt := 70) hx hb dX12_twoOf_56 (by decide) (fun hc6 => ?_) (fun hc6 => ?_)
            · have hT := hT.2 hc6
              refine lv_iload_n hx hb dX12_twoOf_70 rfl (lv_at hl 1 rfl) ?_
              refine lv_bipush (v := 8) hx hb dX12_twoOf_71 (by decide) ?_
              refine lv_icmp_ne (tgt := 87) hx hb dX12_twoOf_73 (by decide) (fun hc7 => ?_) (fun hc7 => ?_)
              · have hT := hT.2 hc7
                refine lv_iload_n hx hb dX12_twoOf_87 rfl (lv_at hl 1 rfl) ?_
                refine lv_bipush (v := 10) hx hb dX12_twoOf_88 (by decide) ?_
                refine lv_icmp_ne (tgt := 99) hx hb dX12_twoOf_90 (by decide) (fun hc8 => ?_) (fun hc8 => ?_)
                · have hT := hT.2 hc8
                  refine lv_iload_n hx hb dX12_twoOf_99 rfl (lv_at hl 2 rfl) ?_
                  refine lv_iload_n hx hb dX12_twoOf_100 rfl (lv_at hl 3 rfl) ?_
                  refine lv_iadd hx hb dX12_twoOf_101 ?_
                  refine lv_if_le (tgt := 109) hx hb dX12_twoOf_102 (by decide) (fun hc9 => ?_) (fun hc9 => ?_)
                  · have hT := hT.1 hc9
                    refine lv_iconst (v := 0) hx hb dX12_twoOf_109 (by decide) ?_
                    exact fx_iret X hr hk h hT dX12_twoOf_110
                  · have hT := hT.2 hc9
                    refine lv_iconst (v := 1) hx hb dX12_twoOf_105 (by decide) ?_
                    refine lv_goto (tgt := 110) hx hb dX12_twoOf_106 (by decide) ?_
                    exact fx_iret X hr hk h hT dX12_twoOf_110
                · have hT := hT.1 hc8
                  refine lv_iload_n hx hb dX12_twoOf_93 rfl (lv_at hl 2 rfl) ?_
                  refine lv_iload_n hx hb dX12_twoOf_94 rfl (lv_at hl 3 rfl) ?_
                  refine lv_imul hx hb dX12_twoOf_95 ?_
                  refine lv_goto (tgt := 110) hx hb dX12_twoOf_96 (by decide) ?_
                  exact fx_iret X hr hk h hT dX12_twoOf_110
              · have hT := hT.1 hc7
                refine lv_iload_n hx hb dX12_twoOf_76 rfl (lv_at hl 2 rfl) ?_
                refine lv_iload_n hx hb dX12_twoOf_77 rfl (lv_at hl 3 rfl) ?_
                refine lv_icmp_le (tgt := 85) hx hb dX12_twoOf_78 (by decide) (fun hc10 => ?_) (fun hc10 => ?_)
                · have hT := hT.1 hc10
                  refine lv_iconst (v := 0) hx hb dX12_twoOf_85 (by decide) ?_
                  exact fx_iret X hr hk h hT dX12_twoOf_86
                · have hT := hT.2 hc10
                  refine lv_iconst (v := 1) hx hb dX12_twoOf_81 (by decide) ?_
                  refine lv_goto (tgt := 86) hx hb dX12_twoOf_82 (by decide) ?_
                  exact fx_iret X hr hk h hT dX12_twoOf_86
            · have hT := hT.1 hc6
              refine lv_iload_n hx hb dX12_twoOf_59 rfl (lv_at hl 2 rfl) ?_
              refine lv_iload_n hx hb dX12_twoOf_60 rfl (lv_at hl 3 rfl) ?_
              refine lv_icmp_ne (tgt := 68) hx hb dX12_twoOf_61 (by decide) (fun hc11 => ?_) (fun hc11 => ?_)
              · have hT := hT.2 hc11
                refine lv_iconst (v := 0) hx hb dX12_twoOf_68 (by decide) ?_
                exact fx_iret X hr hk h hT dX12_twoOf_69
              · have hT := hT.1 hc11
                refine lv_iconst (v := 1) hx hb dX12_twoOf_64 (by decide) ?_
                refine lv_goto (tgt := 69) hx hb dX12_twoOf_65 (by decide) ?_
                exact fx_iret X hr hk h hT dX12_twoOf_69
          · have hT := hT.1 hc5
            refine lv_iload_n hx hb dX12_twoOf_42 rfl (lv_at hl 2 rfl) ?_
            refine lv_iload_n hx hb dX12_twoOf_43 rfl (lv_at hl 3 rfl) ?_
            refine lv_icmp_ge (tgt := 51) hx hb dX12_twoOf_44 (by decide) (fun hc12 => ?_) (fun hc12 => ?_)
            · have hT := hT.1 hc12
              refine lv_iconst (v := 0) hx hb dX12_twoOf_51 (by decide) ?_
              exact fx_iret X hr hk h hT dX12_twoOf_52
            · have hT := hT.2 hc12
              refine lv_iconst (v := 1) hx hb dX12_twoOf_47 (by decide) ?_
              refine lv_goto (tgt := 52) hx hb dX12_twoOf_48 (by decide) ?_
              exact fx_iret X hr hk h hT dX12_twoOf_52
        · have hT := hT.1 hc4
          refine lv_iload_n hx hb dX12_twoOf_32 rfl (lv_at hl 2 rfl) ?_
          refine lv_iload_n hx hb dX12_twoOf_33 rfl (lv_at hl 3 rfl) ?_
          obtain ⟨hz13, hT⟩ := hT
          refine lv_idiv hx hb dX12_twoOf_34 hz13 ?_
          exact fx_iret X hr hk h hT dX12_twoOf_35
      · have hT := hT.1 hc3
        refine lv_iload_n hx hb dX12_twoOf_23 rfl (lv_at hl 2 rfl) ?_
        refine lv_iload_n hx hb dX12_twoOf_24 rfl (lv_at hl 3 rfl) ?_
        refine lv_imul hx hb dX12_twoOf_25 ?_
        exact fx_iret X hr hk h hT dX12_twoOf_26
    · have hT := hT.1 hc2
      refine lv_iload_n hx hb dX12_twoOf_14 rfl (lv_at hl 2 rfl) ?_
      refine lv_iload_n hx hb dX12_twoOf_15 rfl (lv_at hl 3 rfl) ?_
      refine lv_isub hx hb dX12_twoOf_16 ?_
      exact fx_iret X hr hk h hT dX12_twoOf_17
  · have hT := hT.1 hc1
    refine lv_iload_n hx hb dX12_twoOf_5 rfl (lv_at hl 2 rfl) ?_
    refine lv_iload_n hx hb dX12_twoOf_6 rfl (lv_at hl 3 rfl) ?_
    refine lv_iadd hx hb dX12_twoOf_7 ?_
    exact fx_iret X hr hk h hT dX12_twoOf_8
/-! MockParcelsModel.runs(III)I -/
theorem dX12_runs_0 : decode cX12_runs 0 = .ok (.iconst 0, 1) := by decide +kernel
theorem dX12_runs_1 : decode cX12_runs 1 = .ok (.istore 4, 2) := by decide +kernel
theorem dX12_runs_3 : decode cX12_runs 3 = .ok (.sipush 400, 3) := by decide +kernel
theorem dX12_runs_6 : decode cX12_runs 6 = .ok (.iload_n 1, 1) := by decide +kernel
theorem dX12_runs_7 : decode cX12_runs 7 = .ok (.imul, 1) := by decide +kernel
theorem dX12_runs_8 : decode cX12_runs 8 = .ok (.iload_n 2, 1) := by decide +kernel
theorem dX12_runs_9 : decode cX12_runs 9 = .ok (.iadd, 1) := by decide +kernel
theorem dX12_runs_10 : decode cX12_runs 10 = .ok (.istore 5, 2) := by decide +kernel
theorem dX12_runs_12 : decode cX12_runs 12 = .ok (.iload 5, 2) := by decide +kernel
theorem dX12_runs_14 : decode cX12_runs 14 = .ok (.sipush 400, 3) := by decide +kernel
theorem dX12_runs_17 : decode cX12_runs 17 = .ok (.iload_n 1, 1) := by decide +kernel
theorem dX12_runs_18 : decode cX12_runs 18 = .ok (.imul, 1) := by decide +kernel
theorem dX12_runs_19 : decode cX12_runs 19 = .ok (.iload_n 3, 1) := by decide +kernel
theorem dX12_runs_20 : decode cX12_runs 20 = .ok (.iadd, 1) := by decide +kernel
theorem dX12_runs_21 : decode cX12_runs 21 = .ok (.if_icmp .ge 155, 3) := by decide +kernel
theorem dX12_runs_24 : decode cX12_runs 24 = .ok (.aload_n 0, 1) := by decide +kernel
theorem dX12_runs_25 : decode cX12_runs 25 = .ok (.getfield 58, 3) := by decide +kernel
theorem dX12_runs_28 : decode cX12_runs 28 = .ok (.iload 5, 2) := by decide +kernel
theorem dX12_runs_30 : decode cX12_runs 30 = .ok (.iaload, 1) := by decide +kernel
theorem dX12_runs_31 : decode cX12_runs 31 = .ok (.ifCond .eq 14, 3) := by decide +kernel
theorem dX12_runs_34 : decode cX12_runs 34 = .ok (.aload_n 0, 1) := by decide +kernel
theorem dX12_runs_35 : decode cX12_runs 35 = .ok (.getfield 58, 3) := by decide +kernel
theorem dX12_runs_38 : decode cX12_runs 38 = .ok (.iload 5, 2) := by decide +kernel
theorem dX12_runs_40 : decode cX12_runs 40 = .ok (.iaload, 1) := by decide +kernel
theorem dX12_runs_41 : decode cX12_runs 41 = .ok (.iconst 1, 1) := by decide +kernel
theorem dX12_runs_42 : decode cX12_runs 42 = .ok (.if_icmp .ne 51, 3) := by decide +kernel
theorem dX12_runs_45 : decode cX12_runs 45 = .ok (.aload_n 0, 1) := by decide +kernel
theorem dX12_runs_46 : decode cX12_runs 46 = .ok (.getfield 83, 3) := by decide +kernel
theorem dX12_runs_49 : decode cX12_runs 49 = .ok (.iload 4, 2) := by decide +kernel
theorem dX12_runs_51 : decode cX12_runs 51 = .ok (.aload_n 0, 1) := by decide +kernel
theorem dX12_runs_52 : decode cX12_runs 52 = .ok (.getfield 58, 3) := by decide +kernel
theorem dX12_runs_55 : decode cX12_runs 55 = .ok (.iload 5, 2) := by decide +kernel
theorem dX12_runs_57 : decode cX12_runs 57 = .ok (.iaload, 1) := by decide +kernel
theorem dX12_runs_58 : decode cX12_runs 58 = .ok (.ifCond .ne 13, 3) := by decide +kernel
theorem dX12_runs_61 : decode cX12_runs 61 = .ok (.aload_n 0, 1) := by decide +kernel
theorem dX12_runs_62 : decode cX12_runs 62 = .ok (.getfield 61, 3) := by decide +kernel
theorem dX12_runs_65 : decode cX12_runs 65 = .ok (.iload 5, 2) := by decide +kernel
theorem dX12_runs_67 : decode cX12_runs 67 = .ok (.iaload, 1) := by decide +kernel
theorem dX12_runs_68 : decode cX12_runs 68 = .ok (.goto 15, 3) := by decide +kernel
theorem dX12_runs_71 : decode cX12_runs 71 = .ok (.aload_n 0, 1) := by decide +kernel
theorem dX12_runs_72 : decode cX12_runs 72 = .ok (.getfield 80, 3) := by decide +kernel
theorem dX12_runs_75 : decode cX12_runs 75 = .ok (.aload_n 0, 1) := by decide +kernel
theorem dX12_runs_76 : decode cX12_runs 76 = .ok (.getfield 61, 3) := by decide +kernel
theorem dX12_runs_79 : decode cX12_runs 79 = .ok (.iload 5, 2) := by decide +kernel
theorem dX12_runs_81 : decode cX12_runs 81 = .ok (.iaload, 1) := by decide +kernel
theorem dX12_runs_82 : decode cX12_runs 82 = .ok (.iaload, 1) := by decide +kernel
theorem dX12_runs_83 : decode cX12_runs 83 = .ok (.iastore, 1) := by decide +kernel
theorem dX12_runs_84 : decode cX12_runs 84 = .ok (.iload 4, 2) := by decide +kernel
theorem dX12_runs_86 : decode cX12_runs 86 = .ok (.iconst 1, 1) := by decide +kernel
theorem dX12_runs_87 : decode cX12_runs 87 = .ok (.iadd, 1) := by decide +kernel
theorem dX12_runs_88 : decode cX12_runs 88 = .ok (.istore 4, 2) := by decide +kernel
theorem dX12_runs_90 : decode cX12_runs 90 = .ok (.goto 80, 3) := by decide +kernel
theorem dX12_runs_93 : decode cX12_runs 93 = .ok (.aload_n 0, 1) := by decide +kernel
theorem dX12_runs_94 : decode cX12_runs 94 = .ok (.getfield 58, 3) := by decide +kernel
theorem dX12_runs_97 : decode cX12_runs 97 = .ok (.iload 5, 2) := by decide +kernel
theorem dX12_runs_99 : decode cX12_runs 99 = .ok (.iaload, 1) := by decide +kernel
theorem dX12_runs_100 : decode cX12_runs 100 = .ok (.bipush 9, 2) := by decide +kernel
theorem dX12_runs_102 : decode cX12_runs 102 = .ok (.if_icmp .ne 26, 3) := by decide +kernel
theorem dX12_runs_105 : decode cX12_runs 105 = .ok (.aload_n 0, 1) := by decide +kernel
theorem dX12_runs_106 : decode cX12_runs 106 = .ok (.getfield 83, 3) := by decide +kernel
theorem dX12_runs_109 : decode cX12_runs 109 = .ok (.iload 4, 2) := by decide +kernel
theorem dX12_runs_111 : decode cX12_runs 111 = .ok (.iconst 1, 1) := by decide +kernel
theorem dX12_runs_112 : decode cX12_runs 112 = .ok (.isub, 1) := by decide +kernel
theorem dX12_runs_113 : decode cX12_runs 113 = .ok (.iconst 1, 1) := by decide +kernel
theorem dX12_runs_114 : decode cX12_runs 114 = .ok (.aload_n 0, 1) := by decide +kernel
theorem dX12_runs_115 : decode cX12_runs 115 = .ok (.getfield 83, 3) := by decide +kernel
theorem dX12_runs_118 : decode cX12_runs 118 = .ok (.iload 4, 2) := by decide +kernel
theorem dX12_runs_120 : decode cX12_runs 120 = .ok (.iconst 1, 1) := by decide +kernel
theorem dX12_runs_121 : decode cX12_runs 121 = .ok (.isub, 1) := by decide +kernel
theorem dX12_runs_122 : decode cX12_runs 122 = .ok (.iaload, 1) := by decide +kernel
theorem dX12_runs_123 : decode cX12_runs 123 = .ok (.isub, 1) := by decide +kernel
theorem dX12_runs_124 : decode cX12_runs 124 = .ok (.iastore, 1) := by decide +kernel
theorem dX12_runs_125 : decode cX12_runs 125 = .ok (.goto 45, 3) := by decide +kernel
theorem dX12_runs_128 : decode cX12_runs 128 = .ok (.iload 4, 2) := by decide +kernel
theorem dX12_runs_130 : decode cX12_runs 130 = .ok (.iconst 1, 1) := by decide +kernel
theorem dX12_runs_131 : decode cX12_runs 131 = .ok (.isub, 1) := by decide +kernel
theorem dX12_runs_132 : decode cX12_runs 132 = .ok (.istore 4, 2) := by decide +kernel
theorem dX12_runs_134 : decode cX12_runs 134 = .ok (.aload_n 0, 1) := by decide +kernel
theorem dX12_runs_135 : decode cX12_runs 135 = .ok (.getfield 83, 3) := by decide +kernel
theorem dX12_runs_138 : decode cX12_runs 138 = .ok (.iload 4, 2) := by decide +kernel
theorem dX12_runs_140 : decode cX12_runs 140 = .ok (.iconst 1, 1) := by decide +kernel
theorem dX12_runs_141 : decode cX12_runs 141 = .ok (.isub, 1) := by decide +kernel
theorem dX12_runs_142 : decode cX12_runs 142 = .ok (.aload_n 0, 1) := by decide +kernel
theorem dX12_runs_143 : decode cX12_runs 143 = .ok (.aload_n 0, 1) := by decide +kernel
theorem dX12_runs_144 : decode cX12_runs 144 = .ok (.getfield 58, 3) := by decide +kernel
theorem dX12_runs_147 : decode cX12_runs 147 = .ok (.iload 5, 2) := by decide +kernel
theorem dX12_runs_149 : decode cX12_runs 149 = .ok (.iaload, 1) := by decide +kernel
theorem dX12_runs_150 : decode cX12_runs 150 = .ok (.aload_n 0, 1) := by decide +kernel
theorem dX12_runs_151 : decode cX12_runs 151 = .ok (.getfield 83, 3) := by decide +kernel
theorem dX12_runs_154 : decode cX12_runs 154 = .ok (.iload 4, 2) := by decide +kernel
theorem dX12_runs_156 : decode cX12_runs 156 = .ok (.iconst 1, 1) := by decide +kernel
theorem dX12_runs_157 : decode cX12_runs 157 = .ok (.isub, 1) := by decide +kernel
theorem dX12_runs_158 : decode cX12_runs 158 = .ok (.iaload, 1) := by decide +kernel
theorem dX12_runs_159 : decode cX12_runs 159 = .ok (.aload_n 0, 1) := by decide +kernel
theorem dX12_runs_160 : decode cX12_runs 160 = .ok (.getfield 83, 3) := by decide +kernel
theorem dX12_runs_163 : decode cX12_runs 163 = .ok (.iload 4, 2) := by decide +kernel
theorem dX12_runs_165 : decode cX12_runs 165 = .ok (.iaload, 1) := by decide +kernel
theorem dX12_runs_166 : decode cX12_runs 166 = .ok (.invokevirtual 327, 3) := by decide +kernel
theorem dX12_runs_169 : decode cX12_runs 169 = .ok (.iastore, 1) := by decide +kernel
theorem dX12_runs_170 : decode cX12_runs 170 = .ok (.iinc 5 1, 3) := by decide +kernel
theorem dX12_runs_173 : decode cX12_runs 173 = .ok (.goto (-161), 3) := by decide +kernel
theorem dX12_runs_176 : decode cX12_runs 176 = .ok (.aload_n 0, 1) := by decide +kernel
theorem dX12_runs_177 : decode cX12_runs 177 = .ok (.getfield 83, 3) := by decide +kernel
theorem dX12_runs_180 : decode cX12_runs 180 = .ok (.iconst 0, 1) := by decide +kernel
theorem dX12_runs_181 : decode cX12_runs 181 = .ok (.iaload, 1) := by decide +kernel
theorem dX12_runs_182 : decode cX12_runs 182 = .ok (.ireturn, 1) := by decide +kernel
def T_X12_runs_170 (B12 : Int32 → Int32 → Int32 → Int32 → Mm → Prop) (x1 : Int32) (x3 : Int32) (x4 : Int32) (x5 : Int32) (M : Mm) (K : Int32 → Mm → Prop) : Prop := (∀ y1 : Int32, y1 = x5 + (1 : Int32) → (B12 x1 x3 x4 y1 M))
set_option maxHeartbeats 4000000 in
set_option maxRecDepth 100000 in
theorem w_X12_runs_170 {p : Program} {l : Launch} {e : Env} {s : State} {m : MethodId} {args : Array Value} {below : List Frame} {meth : Method} {c : Code} {G : fx_G} {K : Int32 → Mm → Prop} {B12 : Int32 → Int32 → Int32 → Int32 → Mm → Prop} (X : fx_C G p s m c args cX12_runs 6 RX12) (hr : meth.sig.returnType = (some .int)) (hk : meth.locks = false) (hB12 : ∀ (x1 : Int32) (x3 : Int32) (x4 : Int32) (x5 : Int32) (M : Mm) (H : Heap) (locs : List Loc) (ls : Array Slot), B12 x1 x3 x4 x5 M → fx_H G SH M s H locs → lv_has ls 6 [(0, .ref (G.2.2.2 + 159)), (1, .int x1), (3, .int x3), (4, .int x4), (5, .int x5)] → W p l e (fx_rm (1)) s m args below meth c H locs 0 0 (MQ below (va_Qi K (fx_R G SH) (fx_A G)) args s 0 0 (fx_A G)) (F0 m 12 ls [])) : ∀ (x1 : Int32) (x3 : Int32) (x4 : Int32) (x5 : Int32) (M : Mm) (H : Heap) (locs : List Loc) (ls : Array Slot), T_X12_runs_170 B12 x1 x3 x4 x5 M K → fx_H G SH M s H locs → lv_has ls 6 [(0, .ref (G.2.2.2 + 159)), (1, .int x1), (3, .int x3), (4, .int x4), (5, .int x5)] → W p l e (fx_rm (1)) s m args below meth c H locs 0 0 (MQ below (va_Qi K (fx_R G SH) (fx_A G)) args s 0 0 (fx_A G)) (F0 m 170 ls []) := by
  obtain ⟨⟨hx, hb, hml, hown, hts⟩, hK, hQ⟩ := id X
  intro x1 x3 x4 x5 M H locs ls hT h hl
  unfold T_X12_runs_170 at hT
  obtain ⟨y1, ey1⟩ : ∃ z : Int32, z = x5 + (1 : Int32) := ⟨_, rfl⟩
  have hT := hT y1 ey1
  refine lv_iinc (v := y1) (lv' := [(5, .int y1), (0, .ref (G.2.2.2 + 159)), (1, .int x1), (3, .int x3), (4, .int x4)]) hx hb dX12_runs_170 hl (k := 4) rfl (by rw [ey1]; rfl) (by decide) rfl (fun ls hl => ?_)
  refine lv_goto (tgt := 12) hx hb dX12_runs_173 (by decide) ?_
  exact hB12 x1 x3 x4 y1 M _ _ ls hT h (lv_sub hl [1, 2, 3, 4, 0] rfl)
def T_X12_runs_83 (B12 : Int32 → Int32 → Int32 → Int32 → Mm → Prop) (x1 : Int32) (x3 : Int32) (x4 : Int32) (x5 : Int32) (s1 : Int32) (s2 : Int32) (M : Mm) (K : Int32 → Mm → Prop) : Prop := (vp_in s1 420 ∧ (∀ M2 : Mm, M2 = m_up M 183 (s1).toNatClampNeg s2 → (∀ y4 : Int32, y4 = (x4 + (1 : Int32)) → (T_X12_runs_170 B12 x1 x3 y4 x5 M2 K))))
set_option maxHeartbeats 4000000 in
set_option maxRecDepth 100000 in
theorem w_X12_runs_83 {p : Program} {l : Launch} {e : Env} {s : State} {m : MethodId} {args : Array Value} {below : List Frame} {meth : Method} {c : Code} {G : fx_G} {K : Int32 → Mm → Prop} {B12 : Int32 → Int32 → Int32 → Int32 → Mm → Prop} (X : fx_C G p s m c args cX12_runs 6 RX12) (hr : meth.sig.returnType = (some .int)) (hk : meth.locks = false) (hB12 : ∀ (x1 : Int32) (x3 : Int32) (x4 : Int32) (x5 : Int32) (M : Mm) (H : Heap) (locs : List Loc) (ls : Array Slot), B12 x1 x3 x4 x5 M → fx_H G SH M s H locs → lv_has ls 6 [(0, .ref (G.2.2.2 + 159)), (1, .int x1), (3, .int x3), (4, .int x4), (5, .int x5)] → W p l e (fx_rm (1)) s m args below meth c H locs 0 0 (MQ below (va_Qi K (fx_R G SH) (fx_A G)) args s 0 0 (fx_A G)) (F0 m 12 ls [])) : ∀ (x1 : Int32) (x3 : Int32) (x4 : Int32) (x5 : Int32) (s1 : Int32) (s2 : Int32) (M : Mm) (H : Heap) (locs : List Loc) (ls : Array Slot), T_X12_runs_83 B12 x1 x3 x4 x5 s1 s2 M K → fx_H G SH M s H locs → lv_has ls 6 [(0, .ref (G.2.2.2 + 159)), (1, .int x1), (3, .int x3), (4, .int x4), (5, .int x5)] → W p l e (fx_rm (1)) s m args below meth c H locs 0 0 (MQ below (va_Qi K (fx_R G SH) (fx_A G)) args s 0 0 (fx_A G)) (F0 m 83 ls [.int s2, .int s1, .ref (G.2.2.2 + 183)]) := by
  obtain ⟨⟨hx, hb, hml, hown, hts⟩, hK, hQ⟩ := id X
  intro x1 x3 x4 x5 s1 s2 M H locs ls hT h hl
  unfold T_X12_runs_83 at hT
  obtain ⟨hi3, hT⟩ := hT
  refine fx_iast X h (k := 183) sh_183 hi3 dX12_runs_83 (fun H locs h => ?_)
  obtain ⟨M2, eM2⟩ : ∃ z : Mm, z = m_up M 183 (s1).toNatClampNeg s2 := ⟨_, rfl⟩
  have hT := hT M2 eM2
  rw [← eM2] at h
  refine lv_iload hx hb dX12_runs_84 (lv_at hl 3 rfl) ?_
  refine lv_iconst (v := 1) hx hb dX12_runs_86 (by decide) ?_
  refine lv_iadd hx hb dX12_runs_87 ?_
  refine lv_topi (fun y4 ey4 => ?_)
  have hT := hT y4 ey4
  refine lv_istore (lv' := [(4, .int y4), (0, .ref (G.2.2.2 + 159)), (1, .int x1), (3, .int x3), (5, .int x5)]) hx hb dX12_runs_88 hl (by decide) rfl (fun ls hl => ?_)
  refine lv_goto (tgt := 170) hx hb dX12_runs_90 (by decide) ?_
  exact w_X12_runs_170 X hr hk (B12 := B12) hB12 x1 x3 y4 x5 M2 _ _ ls hT h (lv_sub hl [1, 2, 3, 0, 4] rfl)
def T_X12_runs_45 (B12 : Int32 → Int32 → Int32 → Int32 → Mm → Prop) (x1 : Int32) (x3 : Int32) (x4 : Int32) (x5 : Int32) (M : Mm) (K : Int32 → Mm → Prop) : Prop := (vp_in x5 1200 ∧ (((M 176 (x5).toNatClampNeg) = 0 → (vp_in x5 1200 ∧ (T_X12_runs_83 B12 x1 x3 x4 x5 x4 (M 177 (x5).toNatClampNeg) M K))) ∧ (¬ (M 176 (x5).toNatClampNeg) = 0 → (vp_in x5 1200 ∧ (vp_in (M 177 (x5).toNatClampNeg) 12 ∧ (T_X12_runs_83 B12 x1 x3 x4 x5 x4 (M 182 ((M 177 (x5).toNatClampNeg)).toNatClampNeg) M K))))))
set_option maxHeartbeats 4000000 in
set_option maxRecDepth 100000 in
theorem w_X12_runs_45 {p : Program} {l : Launch} {e : Env} {s : State} {m : MethodId} {args : Array Value} {below : List Frame} {meth : Method} {c : Code} {G : fx_G} {K : Int32 → Mm → Prop} {B12 : Int32 → Int32 → Int32 → Int32 → Mm → Prop} (X : fx_C G p s m c args cX12_runs 6 RX12) (hr : meth.sig.returnType = (some .int)) (hk : meth.locks = false) (hB12 : ∀ (x1 : Int32) (x3 : Int32) (x4 : Int32) (x5 : Int32) (M : Mm) (H : Heap) (locs : List Loc) (ls : Array Slot), B12 x1 x3 x4 x5 M → fx_H G SH M s H locs → lv_has ls 6 [(0, .ref (G.2.2.2 + 159)), (1, .int x1), (3, .int x3), (4, .int x4), (5, .int x5)] → W p l e (fx_rm (1)) s m args below meth c H locs 0 0 (MQ below (va_Qi K (fx_R G SH) (fx_A G)) args s 0 0 (fx_A G)) (F0 m 12 ls [])) : ∀ (x1 : Int32) (x3 : Int32) (x4 : Int32) (x5 : Int32) (M : Mm) (H : Heap) (locs : List Loc) (ls : Array Slot), T_X12_runs_45 B12 x1 x3 x4 x5 M K → fx_H G SH M s H locs → lv_has ls 6 [(0, .ref (G.2.2.2 + 159)), (1, .int x1), (3, .int x3), (4, .int x4), (5, .int x5)] → W p l e (fx_rm (1)) s m args below meth c H locs 0 0 (MQ below (va_Qi K (fx_R G SH) (fx_A G)) args s 0 0 (fx_A G)) (F0 m 45 ls []) := by
  obtain ⟨⟨hx, hb, hml, hown, hts⟩, hK, hQ⟩ := id X
  intro x1 x3 x4 x5 M H locs ls hT h hl
  unfold T_X12_runs_45 at hT
  refine lv_aload_n hx hb dX12_runs_45 rfl (lv_at hl 0 rfl) ?_
  refine fx_getR X h (k := 159) (j := 44) (r := 183) sh_159 rfl fl_RX12_83 dX12_runs_46 ?_
  refine lv_iload hx hb dX12_runs_49 (lv_at hl 3 rfl) ?_
  refine lv_aload_n hx hb dX12_runs_51 rfl (lv_at hl 0 rfl) ?_
  refine fx_getR X h (k := 159) (j := 26) (r := 176) sh_159 rfl fl_RX12_58 dX12_runs_52 ?_
  refine lv_iload hx hb dX12_runs_55 (lv_at hl 4 rfl) ?_
  obtain ⟨hi5, hT⟩ := hT
  refine fx_iald X h (k := 176) sh_176 hi5 dX12_runs_57 ?_
  refine lv_if_ne (tgt := 71) hx hb dX12_runs_58 (by decide) (fun hc6 => ?_) (fun hc6 => ?_)
  · have hT := hT.2 hc6
    refine lv_aload_n hx hb dX12_runs_71 rfl (lv_at hl 0 rfl) ?_
    refine fx_getR X h (k := 159) (j := 43) (r := 182) sh_159 rfl fl_RX12_80 dX12_runs_72 ?_
    refine lv_aload_n hx hb dX12_runs_75 rfl (lv_at hl 0 rfl) ?_
    refine fx_getR X h (k := 159) (j := 27) (r := 177) sh_159 rfl fl_RX12_61 dX12_runs_76 ?_
    refine lv_iload hx hb dX12_runs_79 (lv_at hl 4 rfl) ?_
    obtain ⟨hi7, hT⟩ := hT
    refine fx_iald X h (k := 177) sh_177 hi7 dX12_runs_81 ?_
    obtain ⟨hi8, hT⟩ := hT
    refine fx_iald X h (k := 182) sh_182 hi8 dX12_runs_82 ?_
    exact w_X12_runs_83 X hr hk (B12 := B12) hB12 x1 x3 x4 x5 x4 (M 182 ((M 177 (x5).toNatClampNeg)).toNatClampNeg) M _ _ ls hT h (lv_sub hl [0, 1, 2, 3, 4] rfl)
  · have hT := hT.1 hc6
    refine lv_aload_n hx hb dX12_runs_61 rfl (lv_at hl 0 rfl) ?_
    refine fx_getR X h (k := 159) (j := 27) (r := 177) sh_159 rfl fl_RX12_61 dX12_runs_62 ?_
    refine lv_iload hx hb dX12_runs_65 (lv_at hl 4 rfl) ?_
    obtain ⟨hi9, hT⟩ := hT
    refine fx_iald X h (k := 177) sh_177 hi9 dX12_runs_67 ?_
    refine lv_goto (tgt := 83) hx hb dX12_runs_68 (by decide) ?_
    exact w_X12_runs_83 X hr hk (B12 := B12) hB12 x1 x3 x4 x5 x4 (M 177 (x5).toNatClampNeg) M _ _ ls hT h (lv_sub hl [0, 1, 2, 3, 4] rfl)
def T_X12_runs_12 : Nat → Int32 → Int32 → Int32 → Int32 → Mm → (Int32 → Mm → Prop) → Prop
  | 0, _, _, _, _, _, _ => False
  | n + 1, x1, x3, x4, x5, M, K => (((((400 : Int32) * x1) + x3) ≤ x5 → (K (M 183 0) M)) ∧ (¬ (((400 : Int32) * x1) + x3) ≤ x5 → (vp_in x5 1200 ∧ (((M 176 (x5).toNatClampNeg) = 0 → (T_X12_runs_45 (fun x1 x3 x4 x5 M => T_X12_runs_12 n x1 x3 x4 x5 M K) x1 x3 x4 x5 M K)) ∧ (¬ (M 176 (x5).toNatClampNeg) = 0 → (vp_in x5 1200 ∧ (((M 176 (x5).toNatClampNeg) = (1 : Int32) → (T_X12_runs_45 (fun x1 x3 x4 x5 M => T_X12_runs_12 n x1 x3 x4 x5 M K) x1 x3 x4 x5 M K)) ∧ (¬ (M 176 (x5).toNatClampNeg) = (1 : Int32) → (vp_in x5 1200 ∧ (((M 176 (x5).toNatClampNeg) = (9 : Int32) → (vp_in (x4 - (1 : Int32)) 420 ∧ (vp_in (x4 - (1 : Int32)) 420 ∧ (∀ M27 : Mm, M27 = m_up M 183 ((x4 - (1 : Int32))).toNatClampNeg ((1 : Int32) - (M 183 ((x4 - (1 : Int32))).toNatClampNeg)) → (T_X12_runs_170 (fun x1 x3 x4 x5 M => T_X12_runs_12 n x1 x3 x4 x5 M K) x1 x3 x4 x5 M27 K))))) ∧ (¬ (M 176 (x5).toNatClampNeg) = (9 : Int32) → (∀ y17 : Int32, y17 = (x4 - (1 : Int32)) → (vp_in x5 1200 ∧ (vp_in (y17 - (1 : Int32)) 420 ∧ (vp_in y17 420 ∧ (T_X12_twoOf (M 176 (x5).toNatClampNeg) (M 183 ((y17 - (1 : Int32))).toNatClampNeg) (M 183 (y17).toNatClampNeg) M (fun r23 M22 => (vp_in (y17 - (1 : Int32)) 420 ∧ (∀ M24 : Mm, M24 = m_up M22 183 ((y17 - (1 : Int32))).toNatClampNeg r23 → (T_X12_runs_170 (fun x1 x3 x4 x5 M => T_X12_runs_12 n x1 x3 x4 x5 M K) x1 x3 y17 x5 M24 K))))))))))))))))))))
set_option maxHeartbeats 4000000 in
set_option maxRecDepth 100000 in
theorem w_X12_runs_12 {p : Program} {l : Launch} {e : Env} {s : State} {m : MethodId} {args : Array Value} {below : List Frame} {meth : Method} {c : Code} {G : fx_G} {K : Int32 → Mm → Prop} (X : fx_C G p s m c args cX12_runs 6 RX12) (hr : meth.sig.returnType = (some .int)) (hk : meth.locks = false) : ∀ (n : Nat) (x1 : Int32) (x3 : Int32) (x4 : Int32) (x5 : Int32) (M : Mm) (H : Heap) (locs : List Loc) (ls : Array Slot), T_X12_runs_12 n x1 x3 x4 x5 M K → fx_H G SH M s H locs → lv_has ls 6 [(0, .ref (G.2.2.2 + 159)), (1, .int x1), (3, .int x3), (4, .int x4), (5, .int x5)] → W p l e (fx_rm (1)) s m args below meth c H locs 0 0 (MQ below (va_Qi K (fx_R G SH) (fx_A G)) args s 0 0 (fx_A G)) (F0 m 12 ls []) := by
  obtain ⟨⟨hx, hb, hml, hown, hts⟩, hK, hQ⟩ := id X
  intro n
  induction n with
  | zero =>
    intro x1 x3 x4 x5 M H locs ls hT
    exact hT.elim
  | succ n ih =>
    intro x1 x3 x4 x5 M H locs ls hT h hl
    rw [T_X12_runs_12] at hT
    refine lv_iload hx hb dX12_runs_12 (lv_at hl 4 rfl) ?_
    refine lv_sipush (v := 400) hx hb dX12_runs_14 (by decide) ?_
    refine lv_iload_n hx hb dX12_runs_17 rfl (lv_at hl 1 rfl) ?_
    refine lv_imul hx hb dX12_runs_18 ?_
    refine lv_iload_n hx hb dX12_runs_19 rfl (lv_at hl 2 rfl) ?_
    refine lv_iadd hx hb dX12_runs_20 ?_
    refine lv_icmp_ge (tgt := 176) hx hb dX12_runs_21 (by decide) (fun hc10 => ?_) (fun hc10 => ?_)
    · have hT := hT.1 hc10
      refine lv_aload_n hx hb dX12_runs_176 rfl (lv_at hl 0 rfl) ?_
      refine fx_getR X h (k := 159) (j := 44) (r := 183) sh_159 rfl fl_RX12_83 dX12_runs_177 ?_
      refine lv_iconst (v := 0) hx hb dX12_runs_180 (by decide) ?_
      refine fx_iald X h (k := 183) sh_183 (by unfold vp_in; decide) dX12_runs_181 ?_
      rw [show ((0 : Int32)).toNatClampNeg = 0 by decide]
      exact fx_iret X hr hk h hT dX12_runs_182
    · have hT := hT.2 hc10
      refine lv_aload_n hx hb dX12_runs_24 rfl (lv_at hl 0 rfl) ?_
      refine fx_getR X h (k := 159) (j := 26) (r := 176) sh_159 rfl fl_RX12_58 dX12_runs_25 ?_
      refine lv_iload hx hb dX12_runs_28 (lv_at hl 4 rfl) ?_
      obtain ⟨hi11, hT⟩ := hT
      refine fx_iald X h (k := 176) sh_176 hi11 dX12_runs_30 ?_
      refine lv_if_eq (tgt := 45) hx hb dX12_runs_31 (by decide) (fun hc12 => ?_) (fun hc12 => ?_)
      · have hT := hT.1 hc12
        exact w_X12_runs_45 X hr hk (B12 := (fun x1 x3 x4 x5 M => T_X12_runs_12 n x1 x3 x4 x5 M K)) ih x1 x3 x4 x5 M _ _ ls hT h (lv_sub hl [0, 1, 2, 3, 4] rfl)
      · have hT := hT.2 hc12
        refine lv_aload_n hx hb dX12_runs_34 rfl (lv_at hl 0 rfl) ?_
        refine fx_getR X h (k := 159) (j := 26) (r := 176) sh_159 rfl fl_RX12_58 dX12_runs_35 ?_
        refine lv_iload hx hb dX12_runs_38 (lv_at hl 4 rfl) ?_
        obtain ⟨hi13, hT⟩ := hT
        refine fx_iald X h (k := 176) sh_176 hi13 dX12_runs_40 ?_
        refine lv_iconst (v := 1) hx hb dX12_runs_41 (by decide) ?_
        refine lv_icmp_ne (tgt := 93) hx hb dX12_runs_42 (by decide) (fun hc14 => ?_) (fun hc14 => ?_)
        · have hT := hT.2 hc14
          refine lv_aload_n hx hb dX12_runs_93 rfl (lv_at hl 0 rfl) ?_
          refine fx_getR X h (k := 159) (j := 26) (r := 176) sh_159 rfl fl_RX12_58 dX12_runs_94 ?_
          refine lv_iload hx hb dX12_runs_97 (lv_at hl 4 rfl) ?_
          obtain ⟨hi15, hT⟩ := hT
          refine fx_iald X h (k := 176) sh_176 hi15 dX12_runs_99 ?_
          refine lv_bipush (v := 9) hx hb dX12_runs_100 (by decide) ?_
          refine lv_icmp_ne (tgt := 128) hx hb dX12_runs_102 (by decide) (fun hc16 => ?_) (fun hc16 => ?_)
          · have hT := hT.2 hc16
            refine lv_iload hx hb dX12_runs_128 (lv_at hl 3 rfl) ?_
            refine lv_iconst (v := 1) hx hb dX12_runs_130 (by decide) ?_
            refine lv_isub hx hb dX12_runs_131 ?_
            refine lv_topi (fun y17 ey17 => ?_)
            have hT := hT y17 ey17
            refine lv_istore (lv' := [(4, .int y17), (0, .ref (G.2.2.2 + 159)), (1, .int x1), (3, .int x3), (5, .int x5)]) hx hb dX12_runs_132 hl (by decide) rfl (fun ls hl => ?_)
            refine lv_aload_n hx hb dX12_runs_134 rfl (lv_at hl 1 rfl) ?_
            refine fx_getR X h (k := 159) (j := 44) (r := 183) sh_159 rfl fl_RX12_83 dX12_runs_135 ?_
            refine lv_iload hx hb dX12_runs_138 (lv_at hl 0 rfl) ?_
            refine lv_iconst (v := 1) hx hb dX12_runs_140 (by decide) ?_
            refine lv_isub hx hb dX12_runs_141 ?_
            refine lv_aload_n hx hb dX12_runs_142 rfl (lv_at hl 1 rfl) ?_
            refine lv_aload_n hx hb dX12_runs_143 rfl (lv_at hl 1 rfl) ?_
            refine fx_getR X h (k := 159) (j := 26) (r := 176) sh_159 rfl fl_RX12_58 dX12_runs_144 ?_
            refine lv_iload hx hb dX12_runs_147 (lv_at hl 4 rfl) ?_
            obtain ⟨hi18, hT⟩ := hT
            refine fx_iald X h (k := 176) sh_176 hi18 dX12_runs_149 ?_
            refine lv_aload_n hx hb dX12_runs_150 rfl (lv_at hl 1 rfl) ?_
            refine fx_getR X h (k := 159) (j := 44) (r := 183) sh_159 rfl fl_RX12_83 dX12_runs_151 ?_
            refine lv_iload hx hb dX12_runs_154 (lv_at hl 0 rfl) ?_
            refine lv_iconst (v := 1) hx hb dX12_runs_156 (by decide) ?_
            refine lv_isub hx hb dX12_runs_157 ?_
            obtain ⟨hi19, hT⟩ := hT
            refine fx_iald X h (k := 183) sh_183 hi19 dX12_runs_158 ?_
            refine lv_aload_n hx hb dX12_runs_159 rfl (lv_at hl 1 rfl) ?_
            refine fx_getR X h (k := 159) (j := 44) (r := 183) sh_159 rfl fl_RX12_83 dX12_runs_160 ?_
            refine lv_iload hx hb dX12_runs_163 (lv_at hl 0 rfl) ?_
            obtain ⟨hi20, hT⟩ := hT
            refine fx_iald X h (k := 183) sh_183 hi20 dX12_runs_165 ?_
            refine fx_vi X h ym_X12_twoOf yi_X12_twoOf ys_X12_twoOf (fx_s8 (List.mem_of_getElem? (i := 65) rfl) rfl) sh_159 rfl (c_X12_twoOf l G hT) (As := [.int (M 176 (x5).toNatClampNeg), .int (M 183 ((y17 - (1 : Int32))).toNatClampNeg), .int (M 183 (y17).toNatClampNeg)]) (rest := [.int (y17 - (1 : Int32)), .ref (G.2.2.2 + 183)]) rfl rfl ⟨Nat.le_of_ble_eq_true rfl, Nat.le_of_ble_eq_true rfl⟩ ⟨Nat.le_refl _, Nat.le_refl _⟩ hl.1 (Nat.le_of_ble_eq_true rfl) dX12_runs_166 (fun r23 M22 H locs hT h => ?_)
            obtain ⟨hi25, hT⟩ := hT
            refine fx_iast X h (k := 183) sh_183 hi25 dX12_runs_169 (fun H locs h => ?_)
            obtain ⟨M24, eM24⟩ : ∃ z : Mm, z = m_up M22 183 ((y17 - (1 : Int32))).toNatClampNeg r23 := ⟨_, rfl⟩
            have hT := hT M24 eM24
            rw [← eM24] at h
            exact w_X12_runs_170 X hr hk (B12 := (fun x1 x3 x4 x5 M => T_X12_runs_12 n x1 x3 x4 x5 M K)) ih x1 x3 y17 x5 M24 _ _ ls hT h (lv_sub hl [1, 2, 3, 0, 4] rfl)
          · have hT := hT.1 hc16
            refine lv_aload_n hx hb dX12_runs_105 rfl (lv_at hl 0 rfl) ?_
            refine fx_getR X h (k := 159) (j := 44) (r := 183) sh_159 rfl fl_RX12_83 dX12_runs_106 ?_
            refine lv_iload hx hb dX12_runs_109 (lv_at hl 3 rfl) ?_
            refine lv_iconst (v := 1) hx hb dX12_runs_111 (by decide) ?_
            refine lv_isub hx hb dX12_runs_112 ?_
            refine lv_iconst (v := 1) hx hb dX12_runs_113 (by decide) ?_
            refine lv_aload_n hx hb dX12_runs_114 rfl (lv_at hl 0 rfl) ?_
            refine fx_getR X h (k := 159) (j := 44) (r := 183) sh_159 rfl fl_RX12_83 dX12_runs_115 ?_
            refine lv_iload hx hb dX12_runs_118 (lv_at hl 3 rfl) ?_
            refine lv_iconst (v := 1) hx hb dX12_runs_120 (by decide) ?_
            refine lv_isub hx hb dX12_runs_121 ?_
            obtain ⟨hi26, hT⟩ := hT
            refine fx_iald X h (k := 183) sh_183 hi26 dX12_runs_122 ?_
            refine lv_isub hx hb dX12_runs_123 ?_
            obtain ⟨hi28, hT⟩ := hT
            refine fx_iast X h (k := 183) sh_183 hi28 dX12_runs_124 (fun H locs h => ?_)
            obtain ⟨M27, eM27⟩ : ∃ z : Mm, z = m_up M 183 ((x4 - (1 : Int32))).toNatClampNeg ((1 : Int32) - (M 183 ((x4 - (1 : Int32))).toNatClampNeg)) := ⟨_, rfl⟩
            have hT := hT M27 eM27
            rw [← eM27] at h
            refine lv_goto (tgt := 170) hx hb dX12_runs_125 (by decide) ?_
            exact w_X12_runs_170 X hr hk (B12 := (fun x1 x3 x4 x5 M => T_X12_runs_12 n x1 x3 x4 x5 M K)) ih x1 x3 x4 x5 M27 _ _ ls hT h (lv_sub hl [0, 1, 2, 3, 4] rfl)
        · have hT := hT.1 hc14
          exact w_X12_runs_45 X hr hk (B12 := (fun x1 x3 x4 x5 M => T_X12_runs_12 n x1 x3 x4 x5 M K)) ih x1 x3 x4 x5 M _ _ ls hT h (lv_sub hl [0, 1, 2, 3, 4] rfl)
def T_X12_runs (x1 : Int32) (x2 : Int32) (x3 : Int32) (M : Mm) (K : Int32 → Mm → Prop) : Prop := (∀ y29 : Int32, y29 = (((400 : Int32) * x1) + x2) → (T_X12_runs_12 5000 x1 x3 (0 : Int32) y29 M K))
set_option maxHeartbeats 4000000 in
set_option maxRecDepth 100000 in
theorem c_X12_runs (l : Launch) (G : fx_G) {x1 : Int32} {x2 : Int32} {x3 : Int32} {M : Mm} {K : Int32 → Mm → Prop} (hT : T_X12_runs x1 x2 x3 M K) : Met l yX12_runs (fx_ws yX12_runs cX12_runs 6 (some .int)) (fx_rm (1)) (va_Pc [.ref (G.2.2.2 + 159), .int x1, .int x2, .int x3] (fx_P G SH M)) (va_Qi K (fx_R G SH) (fx_A G)) 0 0 (fx_A G) := by
  refine fx_met (own := RX12) (by decide +kernel) rfl (Nat.le_of_ble_eq_true rfl) (fun p e s m below meth c X hr hk h ls hl => ?_)
  obtain ⟨⟨hx, hb, hml, hown, hts⟩, hK, hQ⟩ := id X
  have hl : lv_has ls 6 [(0, .ref (G.2.2.2 + 159)), (1, .int x1), (2, .int x2), (3, .int x3)] := hl
  unfold T_X12_runs at hT
  refine lv_iconst (v := 0) hx hb dX12_runs_0 (by decide) ?_
  refine lv_istore (lv' := [(4, .int (0 : Int32)), (0, .ref (G.2.2.2 + 159)), (1, .int x1), (2, .int x2), (3, .int x3)]) hx hb dX12_runs_1 hl (by decide) rfl (fun ls hl => ?_)
  refine lv_sipush (v := 400) hx hb dX12_runs_3 (by decide) ?_
  refine lv_iload_n hx hb dX12_runs_6 rfl (lv_at hl 2 rfl) ?_
  refine lv_imul hx hb dX12_runs_7 ?_
  refine lv_iload_n hx hb dX12_runs_8 rfl (lv_at hl 3 rfl) ?_
  refine lv_iadd hx hb dX12_runs_9 ?_
  refine lv_topi (fun y29 ey29 => ?_)
  have hT := hT y29 ey29
  refine lv_istore (lv' := [(5, .int y29), (4, .int (0 : Int32)), (0, .ref (G.2.2.2 + 159)), (1, .int x1), (2, .int x2), (3, .int x3)]) hx hb dX12_runs_10 hl (by decide) rfl (fun ls hl => ?_)
  exact w_X12_runs_12 X hr hk 5000 x1 x3 (0 : Int32) y29 M _ _ ls hT h (lv_sub hl [2, 3, 5, 1, 0] rfl)
/-! MockParcelsModel.lineOf(I)I -/
theorem dX12_lineOf_0 : decode cX12_lineOf 0 = .ok (.iconst 0, 1) := by decide +kernel
theorem dX12_lineOf_1 : decode cX12_lineOf 1 = .ok (.istore_n 2, 1) := by decide +kernel
theorem dX12_lineOf_2 : decode cX12_lineOf 2 = .ok (.iload_n 2, 1) := by decide +kernel
theorem dX12_lineOf_3 : decode cX12_lineOf 3 = .ok (.aload_n 0, 1) := by decide +kernel
theorem dX12_lineOf_4 : decode cX12_lineOf 4 = .ok (.getfield 43, 3) := by decide +kernel
theorem dX12_lineOf_7 : decode cX12_lineOf 7 = .ok (.iconst 0, 1) := by decide +kernel
theorem dX12_lineOf_8 : decode cX12_lineOf 8 = .ok (.iaload, 1) := by decide +kernel
theorem dX12_lineOf_9 : decode cX12_lineOf 9 = .ok (.if_icmp .ge 56, 3) := by decide +kernel
theorem dX12_lineOf_12 : decode cX12_lineOf 12 = .ok (.aload_n 0, 1) := by decide +kernel
theorem dX12_lineOf_13 : decode cX12_lineOf 13 = .ok (.getfield 46, 3) := by decide +kernel
theorem dX12_lineOf_16 : decode cX12_lineOf 16 = .ok (.iload_n 2, 1) := by decide +kernel
theorem dX12_lineOf_17 : decode cX12_lineOf 17 = .ok (.iaload, 1) := by decide +kernel
theorem dX12_lineOf_18 : decode cX12_lineOf 18 = .ok (.iload_n 1, 1) := by decide +kernel
theorem dX12_lineOf_19 : decode cX12_lineOf 19 = .ok (.if_icmp .ne 40, 3) := by decide +kernel
theorem dX12_lineOf_22 : decode cX12_lineOf 22 = .ok (.aload_n 0, 1) := by decide +kernel
theorem dX12_lineOf_23 : decode cX12_lineOf 23 = .ok (.getfield 52, 3) := by decide +kernel
theorem dX12_lineOf_26 : decode cX12_lineOf 26 = .ok (.iload_n 2, 1) := by decide +kernel
theorem dX12_lineOf_27 : decode cX12_lineOf 27 = .ok (.iaload, 1) := by decide +kernel
theorem dX12_lineOf_28 : decode cX12_lineOf 28 = .ok (.aload_n 0, 1) := by decide +kernel
theorem dX12_lineOf_29 : decode cX12_lineOf 29 = .ok (.getfield 55, 3) := by decide +kernel
theorem dX12_lineOf_32 : decode cX12_lineOf 32 = .ok (.iload_n 2, 1) := by decide +kernel
theorem dX12_lineOf_33 : decode cX12_lineOf 33 = .ok (.iaload, 1) := by decide +kernel
theorem dX12_lineOf_34 : decode cX12_lineOf 34 = .ok (.if_icmp .eq 23, 3) := by decide +kernel
theorem dX12_lineOf_37 : decode cX12_lineOf 37 = .ok (.aload_n 0, 1) := by decide +kernel
theorem dX12_lineOf_38 : decode cX12_lineOf 38 = .ok (.iconst 0, 1) := by decide +kernel
theorem dX12_lineOf_39 : decode cX12_lineOf 39 = .ok (.aload_n 0, 1) := by decide +kernel
theorem dX12_lineOf_40 : decode cX12_lineOf 40 = .ok (.getfield 52, 3) := by decide +kernel
theorem dX12_lineOf_43 : decode cX12_lineOf 43 = .ok (.iload_n 2, 1) := by decide +kernel
theorem dX12_lineOf_44 : decode cX12_lineOf 44 = .ok (.iaload, 1) := by decide +kernel
theorem dX12_lineOf_45 : decode cX12_lineOf 45 = .ok (.aload_n 0, 1) := by decide +kernel
theorem dX12_lineOf_46 : decode cX12_lineOf 46 = .ok (.getfield 55, 3) := by decide +kernel
theorem dX12_lineOf_49 : decode cX12_lineOf 49 = .ok (.iload_n 2, 1) := by decide +kernel
theorem dX12_lineOf_50 : decode cX12_lineOf 50 = .ok (.iaload, 1) := by decide +kernel
theorem dX12_lineOf_51 : decode cX12_lineOf 51 = .ok (.invokevirtual 330, 3) := by decide +kernel
theorem dX12_lineOf_54 : decode cX12_lineOf 54 = .ok (.ifCond .eq 5, 3) := by decide +kernel
theorem dX12_lineOf_57 : decode cX12_lineOf 57 = .ok (.iload_n 2, 1) := by decide +kernel
theorem dX12_lineOf_58 : decode cX12_lineOf 58 = .ok (.ireturn, 1) := by decide +kernel
theorem dX12_lineOf_59 : decode cX12_lineOf 59 = .ok (.iinc 2 1, 3) := by decide +kernel
theorem dX12_lineOf_62 : decode cX12_lineOf 62 = .ok (.goto (-60), 3) := by decide +kernel
theorem dX12_lineOf_65 : decode cX12_lineOf 65 = .ok (.iconst (-1), 1) := by decide +kernel
theorem dX12_lineOf_66 : decode cX12_lineOf 66 = .ok (.ireturn, 1) := by decide +kernel
def T_X12_lineOf_59 (B2 : Int32 → Int32 → Mm → Prop) (x1 : Int32) (x2 : Int32) (M : Mm) (K : Int32 → Mm → Prop) : Prop := (∀ y1 : Int32, y1 = x2 + (1 : Int32) → (B2 x1 y1 M))
set_option maxHeartbeats 4000000 in
set_option maxRecDepth 100000 in
theorem w_X12_lineOf_59 {p : Program} {l : Launch} {e : Env} {s : State} {m : MethodId} {args : Array Value} {below : List Frame} {meth : Method} {c : Code} {G : fx_G} {K : Int32 → Mm → Prop} {B2 : Int32 → Int32 → Mm → Prop} (X : fx_C G p s m c args cX12_lineOf 3 RX12) (hr : meth.sig.returnType = (some .int)) (hk : meth.locks = false) (hB2 : ∀ (x1 : Int32) (x2 : Int32) (M : Mm) (H : Heap) (locs : List Loc) (ls : Array Slot), B2 x1 x2 M → fx_H G SH M s H locs → lv_has ls 3 [(0, .ref (G.2.2.2 + 159)), (1, .int x1), (2, .int x2)] → W p l e (fx_rm (2)) s m args below meth c H locs 0 0 (MQ below (va_Qi K (fx_R G SH) (fx_A G)) args s 0 0 (fx_A G)) (F0 m 2 ls [])) : ∀ (x1 : Int32) (x2 : Int32) (M : Mm) (H : Heap) (locs : List Loc) (ls : Array Slot), T_X12_lineOf_59 B2 x1 x2 M K → fx_H G SH M s H locs → lv_has ls 3 [(0, .ref (G.2.2.2 + 159)), (1, .int x1), (2, .int x2)] → W p l e (fx_rm (2)) s m args below meth c H locs 0 0 (MQ below (va_Qi K (fx_R G SH) (fx_A G)) args s 0 0 (fx_A G)) (F0 m 59 ls []) := by
  obtain ⟨⟨hx, hb, hml, hown, hts⟩, hK, hQ⟩ := id X
  intro x1 x2 M H locs ls hT h hl
  unfold T_X12_lineOf_59 at hT
  obtain ⟨y1, ey1⟩ : ∃ z : Int32, z = x2 + (1 : Int32) := ⟨_, rfl⟩
  have hT := hT y1 ey1
  refine lv_iinc (v := y1) (lv' := [(2, .int y1), (0, .ref (G.2.2.2 + 159)), (1, .int x1)]) hx hb dX12_lineOf_59 hl (k := 2) rfl (by rw [ey1]; rfl) (by decide) rfl (fun ls hl => ?_)
  refine lv_goto (tgt := 2) hx hb dX12_lineOf_62 (by decide) ?_
  exact hB2 x1 y1 M _ _ ls hT h (lv_sub hl [1, 2, 0] rfl)
def T_X12_lineOf_2 : Nat → Int32 → Int32 → Mm → (Int32 → Mm → Prop) → Prop
  | 0, _, _, _, _ => False
  | n + 1, x1, x2, M, K => (((M 171 0) ≤ x2 → (K (-1 : Int32) M)) ∧ (¬ (M 171 0) ≤ x2 → (vp_in x2 48 ∧ (((M 172 (x2).toNatClampNeg) = x1 → (vp_in x2 48 ∧ (vp_in x2 48 ∧ (((M 174 (x2).toNatClampNeg) = (M 175 (x2).toNatClampNeg) → (K x2 M)) ∧ (¬ (M 174 (x2).toNatClampNeg) = (M 175 (x2).toNatClampNeg) → (vp_in x2 48 ∧ (vp_in x2 48 ∧ (T_X12_runs (0 : Int32) (M 174 (x2).toNatClampNeg) (M 175 (x2).toNatClampNeg) M (fun r12 M11 => ((r12 = 0 → (T_X12_lineOf_59 (fun x1 x2 M => T_X12_lineOf_2 n x1 x2 M K) x1 x2 M11 K)) ∧ (¬ r12 = 0 → (K x2 M11)))))))))))) ∧ (¬ (M 172 (x2).toNatClampNeg) = x1 → (T_X12_lineOf_59 (fun x1 x2 M => T_X12_lineOf_2 n x1 x2 M K) x1 x2 M K))))))
set_option maxHeartbeats 4000000 in
set_option maxRecDepth 100000 in
theorem w_X12_lineOf_2 {p : Program} {l : Launch} {e : Env} {s : State} {m : MethodId} {args : Array Value} {below : List Frame} {meth : Method} {c : Code} {G : fx_G} {K : Int32 → Mm → Prop} (X : fx_C G p s m c args cX12_lineOf 3 RX12) (hr : meth.sig.returnType = (some .int)) (hk : meth.locks = false) : ∀ (n : Nat) (x1 : Int32) (x2 : Int32) (M : Mm) (H : Heap) (locs : List Loc) (ls : Array Slot), T_X12_lineOf_2 n x1 x2 M K → fx_H G SH M s H locs → lv_has ls 3 [(0, .ref (G.2.2.2 + 159)), (1, .int x1), (2, .int x2)] → W p l e (fx_rm (2)) s m args below meth c H locs 0 0 (MQ below (va_Qi K (fx_R G SH) (fx_A G)) args s 0 0 (fx_A G)) (F0 m 2 ls []) := by
  obtain ⟨⟨hx, hb, hml, hown, hts⟩, hK, hQ⟩ := id X
  intro n
  induction n with
  | zero =>
    intro x1 x2 M H locs ls hT
    exact hT.elim
  | succ n ih =>
    intro x1 x2 M H locs ls hT h hl
    rw [T_X12_lineOf_2] at hT
    refine lv_iload_n hx hb dX12_lineOf_2 rfl (lv_at hl 2 rfl) ?_
    refine lv_aload_n hx hb dX12_lineOf_3 rfl (lv_at hl 0 rfl) ?_
    refine fx_getR X h (k := 159) (j := 21) (r := 171) sh_159 rfl fl_RX12_43 dX12_lineOf_4 ?_
    refine lv_iconst (v := 0) hx hb dX12_lineOf_7 (by decide) ?_
    refine fx_iald X h (k := 171) sh_171 (by unfold vp_in; decide) dX12_lineOf_8 ?_
    rw [show ((0 : Int32)).toNatClampNeg = 0 by decide]
    refine lv_icmp_ge (tgt := 65) hx hb dX12_lineOf_9 (by decide) (fun hc2 => ?_) (fun hc2 => ?_)
    · have hT := hT.1 hc2
      refine lv_iconst (v := -1) hx hb dX12_lineOf_65 (by decide) ?_
      exact fx_iret X hr hk h hT dX12_lineOf_66
    · have hT := hT.2 hc2
      refine lv_aload_n hx hb dX12_lineOf_12 rfl (lv_at hl 0 rfl) ?_
      refine fx_getR X h (k := 159) (j := 22) (r := 172) sh_159 rfl fl_RX12_46 dX12_lineOf_13 ?_
      refine lv_iload_n hx hb dX12_lineOf_16 rfl (lv_at hl 2 rfl) ?_
      obtain ⟨hi3, hT⟩ := hT
      refine fx_iald X h (k := 172) sh_172 hi3 dX12_lineOf_17 ?_
      refine lv_iload_n hx hb dX12_lineOf_18 rfl (lv_at hl 1 rfl) ?_
      refine lv_icmp_ne (tgt := 59) hx hb dX12_lineOf_19 (by decide) (fun hc4 => ?_) (fun hc4 => ?_)
      · have hT := hT.2 hc4
        exact w_X12_lineOf_59 X hr hk (B2 := (fun x1 x2 M => T_X12_lineOf_2 n x1 x2 M K)) ih x1 x2 M _ _ ls hT h (lv_sub hl [0, 1, 2] rfl)
      · have hT := hT.1 hc4
        refine lv_aload_n hx hb dX12_lineOf_22 rfl (lv_at hl 0 rfl) ?_
        refine fx_getR X h (k := 159) (j := 24) (r := 174) sh_159 rfl fl_RX12_52 dX12_lineOf_23 ?_
        refine lv_iload_n hx hb dX12_lineOf_26 rfl (lv_at hl 2 rfl) ?_
        obtain ⟨hi5, hT⟩ := hT
        refine fx_iald X h (k := 174) sh_174 hi5 dX12_lineOf_27 ?_
        refine lv_aload_n hx hb dX12_lineOf_28 rfl (lv_at hl 0 rfl) ?_
        refine fx_getR X h (k := 159) (j := 25) (r := 175) sh_159 rfl fl_RX12_55 dX12_lineOf_29 ?_
        refine lv_iload_n hx hb dX12_lineOf_32 rfl (lv_at hl 2 rfl) ?_
        obtain ⟨hi6, hT⟩ := hT
        refine fx_iald X h (k := 175) sh_175 hi6 dX12_lineOf_33 ?_
        refine lv_icmp_eq (tgt := 57) hx hb dX12_lineOf_34 (by decide) (fun hc7 => ?_) (fun hc7 => ?_)
        · have hT := hT.1 hc7
          refine lv_iload_n hx hb dX12_lineOf_57 rfl (lv_at hl 2 rfl) ?_
          exact fx_iret X hr hk h hT dX12_lineOf_58
        · have hT := hT.2 hc7
          refine lv_aload_n hx hb dX12_lineOf_37 rfl (lv_at hl 0 rfl) ?_
          refine lv_iconst (v := 0) hx hb dX12_lineOf_38 (by decide) ?_
          refine lv_aload_n hx hb dX12_lineOf_39 rfl (lv_at hl 0 rfl) ?_
          refine fx_getR X h (k := 159) (j := 24) (r := 174) sh_159 rfl fl_RX12_52 dX12_lineOf_40 ?_
          refine lv_iload_n hx hb dX12_lineOf_43 rfl (lv_at hl 2 rfl) ?_
          obtain ⟨hi8, hT⟩ := hT
          refine fx_iald X h (k := 174) sh_174 hi8 dX12_lineOf_44 ?_
          refine lv_aload_n hx hb dX12_lineOf_45 rfl (lv_at hl 0 rfl) ?_
          refine fx_getR X h (k := 159) (j := 25) (r := 175) sh_159 rfl fl_RX12_55 dX12_lineOf_46 ?_
          refine lv_iload_n hx hb dX12_lineOf_49 rfl (lv_at hl 2 rfl) ?_
          obtain ⟨hi9, hT⟩ := hT
          refine fx_iald X h (k := 175) sh_175 hi9 dX12_lineOf_50 ?_
          refine fx_vi X h ym_X12_runs yi_X12_runs ys_X12_runs (fx_s8 (List.mem_of_getElem? (i := 61) rfl) rfl) sh_159 rfl (c_X12_runs l G hT) (As := [.int (0 : Int32), .int (M 174 (x2).toNatClampNeg), .int (M 175 (x2).toNatClampNeg)]) (rest := []) rfl rfl ⟨Nat.le_of_ble_eq_true rfl, Nat.le_of_ble_eq_true rfl⟩ ⟨Nat.le_refl _, Nat.le_refl _⟩ hl.1 (Nat.le_of_ble_eq_true rfl) dX12_lineOf_51 (fun r12 M11 H locs hT h => ?_)
          refine lv_if_eq (tgt := 59) hx hb dX12_lineOf_54 (by decide) (fun hc13 => ?_) (fun hc13 => ?_)
          · have hT := hT.1 hc13
            exact w_X12_lineOf_59 X hr hk (B2 := (fun x1 x2 M => T_X12_lineOf_2 n x1 x2 M K)) ih x1 x2 M11 _ _ ls hT h (lv_sub hl [0, 1, 2] rfl)
          · have hT := hT.2 hc13
            refine lv_iload_n hx hb dX12_lineOf_57 rfl (lv_at hl 2 rfl) ?_
            exact fx_iret X hr hk h hT dX12_lineOf_58
def T_X12_lineOf (x1 : Int32) (M : Mm) (K : Int32 → Mm → Prop) : Prop := (T_X12_lineOf_2 5000 x1 (0 : Int32) M K)
set_option maxHeartbeats 4000000 in
set_option maxRecDepth 100000 in
theorem c_X12_lineOf (l : Launch) (G : fx_G) {x1 : Int32} {M : Mm} {K : Int32 → Mm → Prop} (hT : T_X12_lineOf x1 M K) : Met l yX12_lineOf (fx_ws yX12_lineOf cX12_lineOf 3 (some .int)) (fx_rm (2)) (va_Pc [.ref (G.2.2.2 + 159), .int x1] (fx_P G SH M)) (va_Qi K (fx_R G SH) (fx_A G)) 0 0 (fx_A G) := by
  refine fx_met (own := RX12) (by decide +kernel) rfl (Nat.le_of_ble_eq_true rfl) (fun p e s m below meth c X hr hk h ls hl => ?_)
  obtain ⟨⟨hx, hb, hml, hown, hts⟩, hK, hQ⟩ := id X
  have hl : lv_has ls 3 [(0, .ref (G.2.2.2 + 159)), (1, .int x1)] := hl
  unfold T_X12_lineOf at hT
  refine lv_iconst (v := 0) hx hb dX12_lineOf_0 (by decide) ?_
  refine lv_istore_n (lv' := [(2, .int (0 : Int32)), (0, .ref (G.2.2.2 + 159)), (1, .int x1)]) hx hb dX12_lineOf_1 rfl hl (by decide) rfl (fun ls hl => ?_)
  exact w_X12_lineOf_2 X hr hk 5000 x1 (0 : Int32) M _ _ ls hT h (lv_sub hl [1, 2, 0] rfl)
/-! MockParcelsModel.asks(IIII)V -/
theorem dX12_asks_0 : decode cX12_asks 0 = .ok (.aload_n 0, 1) := by decide +kernel
theorem dX12_asks_1 : decode cX12_asks 1 = .ok (.getfield 80, 3) := by decide +kernel
theorem dX12_asks_4 : decode cX12_asks 4 = .ok (.iconst 0, 1) := by decide +kernel
theorem dX12_asks_5 : decode cX12_asks 5 = .ok (.aload_n 0, 1) := by decide +kernel
theorem dX12_asks_6 : decode cX12_asks 6 = .ok (.getfield 19, 3) := by decide +kernel
theorem dX12_asks_9 : decode cX12_asks 9 = .ok (.iload_n 1, 1) := by decide +kernel
theorem dX12_asks_10 : decode cX12_asks 10 = .ok (.iaload, 1) := by decide +kernel
theorem dX12_asks_11 : decode cX12_asks 11 = .ok (.iastore, 1) := by decide +kernel
theorem dX12_asks_12 : decode cX12_asks 12 = .ok (.aload_n 0, 1) := by decide +kernel
theorem dX12_asks_13 : decode cX12_asks 13 = .ok (.getfield 80, 3) := by decide +kernel
theorem dX12_asks_16 : decode cX12_asks 16 = .ok (.iconst 1, 1) := by decide +kernel
theorem dX12_asks_17 : decode cX12_asks 17 = .ok (.aload_n 0, 1) := by decide +kernel
theorem dX12_asks_18 : decode cX12_asks 18 = .ok (.getfield 22, 3) := by decide +kernel
theorem dX12_asks_21 : decode cX12_asks 21 = .ok (.iload_n 1, 1) := by decide +kernel
theorem dX12_asks_22 : decode cX12_asks 22 = .ok (.iaload, 1) := by decide +kernel
theorem dX12_asks_23 : decode cX12_asks 23 = .ok (.iastore, 1) := by decide +kernel
theorem dX12_asks_24 : decode cX12_asks 24 = .ok (.aload_n 0, 1) := by decide +kernel
theorem dX12_asks_25 : decode cX12_asks 25 = .ok (.getfield 80, 3) := by decide +kernel
theorem dX12_asks_28 : decode cX12_asks 28 = .ok (.iconst 2, 1) := by decide +kernel
theorem dX12_asks_29 : decode cX12_asks 29 = .ok (.aload_n 0, 1) := by decide +kernel
theorem dX12_asks_30 : decode cX12_asks 30 = .ok (.getfield 25, 3) := by decide +kernel
theorem dX12_asks_33 : decode cX12_asks 33 = .ok (.iload_n 1, 1) := by decide +kernel
theorem dX12_asks_34 : decode cX12_asks 34 = .ok (.iaload, 1) := by decide +kernel
theorem dX12_asks_35 : decode cX12_asks 35 = .ok (.iastore, 1) := by decide +kernel
theorem dX12_asks_36 : decode cX12_asks 36 = .ok (.aload_n 0, 1) := by decide +kernel
theorem dX12_asks_37 : decode cX12_asks 37 = .ok (.getfield 80, 3) := by decide +kernel
theorem dX12_asks_40 : decode cX12_asks 40 = .ok (.iconst 3, 1) := by decide +kernel
theorem dX12_asks_41 : decode cX12_asks 41 = .ok (.aload_n 0, 1) := by decide +kernel
theorem dX12_asks_42 : decode cX12_asks 42 = .ok (.getfield 28, 3) := by decide +kernel
theorem dX12_asks_45 : decode cX12_asks 45 = .ok (.iload_n 2, 1) := by decide +kernel
theorem dX12_asks_46 : decode cX12_asks 46 = .ok (.iaload, 1) := by decide +kernel
theorem dX12_asks_47 : decode cX12_asks 47 = .ok (.iastore, 1) := by decide +kernel
theorem dX12_asks_48 : decode cX12_asks 48 = .ok (.aload_n 0, 1) := by decide +kernel
theorem dX12_asks_49 : decode cX12_asks 49 = .ok (.getfield 80, 3) := by decide +kernel
theorem dX12_asks_52 : decode cX12_asks 52 = .ok (.iconst 4, 1) := by decide +kernel
theorem dX12_asks_53 : decode cX12_asks 53 = .ok (.aload_n 0, 1) := by decide +kernel
theorem dX12_asks_54 : decode cX12_asks 54 = .ok (.getfield 31, 3) := by decide +kernel
theorem dX12_asks_57 : decode cX12_asks 57 = .ok (.iload_n 2, 1) := by decide +kernel
theorem dX12_asks_58 : decode cX12_asks 58 = .ok (.iaload, 1) := by decide +kernel
theorem dX12_asks_59 : decode cX12_asks 59 = .ok (.iastore, 1) := by decide +kernel
theorem dX12_asks_60 : decode cX12_asks 60 = .ok (.aload_n 0, 1) := by decide +kernel
theorem dX12_asks_61 : decode cX12_asks 61 = .ok (.getfield 80, 3) := by decide +kernel
theorem dX12_asks_64 : decode cX12_asks 64 = .ok (.iconst 5, 1) := by decide +kernel
theorem dX12_asks_65 : decode cX12_asks 65 = .ok (.aload_n 0, 1) := by decide +kernel
theorem dX12_asks_66 : decode cX12_asks 66 = .ok (.getfield 7, 3) := by decide +kernel
theorem dX12_asks_69 : decode cX12_asks 69 = .ok (.bipush 55, 2) := by decide +kernel
theorem dX12_asks_71 : decode cX12_asks 71 = .ok (.iload_n 2, 1) := by decide +kernel
theorem dX12_asks_72 : decode cX12_asks 72 = .ok (.iadd, 1) := by decide +kernel
theorem dX12_asks_73 : decode cX12_asks 73 = .ok (.iaload, 1) := by decide +kernel
theorem dX12_asks_74 : decode cX12_asks 74 = .ok (.iastore, 1) := by decide +kernel
theorem dX12_asks_75 : decode cX12_asks 75 = .ok (.aload_n 0, 1) := by decide +kernel
theorem dX12_asks_76 : decode cX12_asks 76 = .ok (.getfield 80, 3) := by decide +kernel
theorem dX12_asks_79 : decode cX12_asks 79 = .ok (.bipush 6, 2) := by decide +kernel
theorem dX12_asks_81 : decode cX12_asks 81 = .ok (.iload_n 3, 1) := by decide +kernel
theorem dX12_asks_82 : decode cX12_asks 82 = .ok (.iastore, 1) := by decide +kernel
theorem dX12_asks_83 : decode cX12_asks 83 = .ok (.aload_n 0, 1) := by decide +kernel
theorem dX12_asks_84 : decode cX12_asks 84 = .ok (.getfield 80, 3) := by decide +kernel
theorem dX12_asks_87 : decode cX12_asks 87 = .ok (.bipush 7, 2) := by decide +kernel
theorem dX12_asks_89 : decode cX12_asks 89 = .ok (.iload 4, 2) := by decide +kernel
theorem dX12_asks_91 : decode cX12_asks 91 = .ok (.iastore, 1) := by decide +kernel
theorem dX12_asks_92 : decode cX12_asks 92 = .ok (.aload_n 0, 1) := by decide +kernel
theorem dX12_asks_93 : decode cX12_asks 93 = .ok (.getfield 80, 3) := by decide +kernel
theorem dX12_asks_96 : decode cX12_asks 96 = .ok (.bipush 8, 2) := by decide +kernel
theorem dX12_asks_98 : decode cX12_asks 98 = .ok (.aload_n 0, 1) := by decide +kernel
theorem dX12_asks_99 : decode cX12_asks 99 = .ok (.getfield 7, 3) := by decide +kernel
theorem dX12_asks_102 : decode cX12_asks 102 = .ok (.iconst 4, 1) := by decide +kernel
theorem dX12_asks_103 : decode cX12_asks 103 = .ok (.iaload, 1) := by decide +kernel
theorem dX12_asks_104 : decode cX12_asks 104 = .ok (.iastore, 1) := by decide +kernel
theorem dX12_asks_105 : decode cX12_asks 105 = .ok (.aload_n 0, 1) := by decide +kernel
theorem dX12_asks_106 : decode cX12_asks 106 = .ok (.getfield 80, 3) := by decide +kernel
theorem dX12_asks_109 : decode cX12_asks 109 = .ok (.bipush 9, 2) := by decide +kernel
theorem dX12_asks_111 : decode cX12_asks 111 = .ok (.aload_n 0, 1) := by decide +kernel
theorem dX12_asks_112 : decode cX12_asks 112 = .ok (.getfield 7, 3) := by decide +kernel
theorem dX12_asks_115 : decode cX12_asks 115 = .ok (.iconst 5, 1) := by decide +kernel
theorem dX12_asks_116 : decode cX12_asks 116 = .ok (.iaload, 1) := by decide +kernel
theorem dX12_asks_117 : decode cX12_asks 117 = .ok (.iastore, 1) := by decide +kernel
theorem dX12_asks_118 : decode cX12_asks 118 = .ok (.aload_n 0, 1) := by decide +kernel
theorem dX12_asks_119 : decode cX12_asks 119 = .ok (.getfield 80, 3) := by decide +kernel
theorem dX12_asks_122 : decode cX12_asks 122 = .ok (.bipush 10, 2) := by decide +kernel
theorem dX12_asks_124 : decode cX12_asks 124 = .ok (.aload_n 0, 1) := by decide +kernel
theorem dX12_asks_125 : decode cX12_asks 125 = .ok (.iload_n 2, 1) := by decide +kernel
theorem dX12_asks_126 : decode cX12_asks 126 = .ok (.invokevirtual 333, 3) := by decide +kernel
theorem dX12_asks_129 : decode cX12_asks 129 = .ok (.iastore, 1) := by decide +kernel
theorem dX12_asks_130 : decode cX12_asks 130 = .ok (.aload_n 0, 1) := by decide +kernel
theorem dX12_asks_131 : decode cX12_asks 131 = .ok (.getfield 80, 3) := by decide +kernel
theorem dX12_asks_134 : decode cX12_asks 134 = .ok (.bipush 11, 2) := by decide +kernel
theorem dX12_asks_136 : decode cX12_asks 136 = .ok (.aload_n 0, 1) := by decide +kernel
theorem dX12_asks_137 : decode cX12_asks 137 = .ok (.getfield 7, 3) := by decide +kernel
theorem dX12_asks_140 : decode cX12_asks 140 = .ok (.iconst 0, 1) := by decide +kernel
theorem dX12_asks_141 : decode cX12_asks 141 = .ok (.iaload, 1) := by decide +kernel
theorem dX12_asks_142 : decode cX12_asks 142 = .ok (.iastore, 1) := by decide +kernel
theorem dX12_asks_143 : decode cX12_asks 143 = .ok (.return_, 1) := by decide +kernel
def T_X12_asks (x1 : Int32) (x2 : Int32) (x3 : Int32) (x4 : Int32) (M : Mm) (K : Mm → Prop) : Prop := (vp_in x1 16 ∧ (∀ M2 : Mm, M2 = m_up M 182 0 (M 163 (x1).toNatClampNeg) → (vp_in x1 16 ∧ (∀ M4 : Mm, M4 = m_up M2 182 1 (M2 164 (x1).toNatClampNeg) → (vp_in x1 16 ∧ (∀ M6 : Mm, M6 = m_up M4 182 2 (M4 165 (x1).toNatClampNeg) → (vp_in x2 8 ∧ (∀ M8 : Mm, M8 = m_up M6 182 3 (M6 166 (x2).toNatClampNeg) → (vp_in x2 8 ∧ (∀ M10 : Mm, M10 = m_up M8 182 4 (M8 167 (x2).toNatClampNeg) → (vp_in ((55 : Int32) + x2) 135 ∧ (∀ M12 : Mm, M12 = m_up M10 182 5 (M10 160 (((55 : Int32) + x2)).toNatClampNeg) → (∀ M13 : Mm, M13 = m_up M12 182 6 x3 → (∀ M14 : Mm, M14 = m_up M13 182 7 x4 → (∀ M15 : Mm, M15 = m_up M14 182 8 (M14 160 4) → (∀ M16 : Mm, M16 = m_up M15 182 9 (M15 160 5) → (T_X12_thingsOf x2 M16 (fun r19 M18 => (∀ M20 : Mm, M20 = m_up M18 182 10 r19 → (∀ M21 : Mm, M21 = m_up M20 182 11 (M20 160 0) → (K M21)))))))))))))))))))))
set_option maxHeartbeats 4000000 in
set_option maxRecDepth 100000 in
theorem c_X12_asks (l : Launch) (G : fx_G) {x1 : Int32} {x2 : Int32} {x3 : Int32} {x4 : Int32} {M : Mm} {K : Mm → Prop} (hT : T_X12_asks x1 x2 x3 x4 M K) : Met l yX12_asks (fx_ws yX12_asks cX12_asks 5 none) (fx_rm (2)) (va_Pc [.ref (G.2.2.2 + 159), .int x1, .int x2, .int x3, .int x4] (fx_P G SH M)) (va_Qv K (fx_R G SH) (fx_A G)) 0 0 (fx_A G) := by
  refine fx_met (own := RX12) (by decide +kernel) rfl (Nat.le_of_ble_eq_true rfl) (fun p e s m below meth c X hr hk h ls hl => ?_)
  obtain ⟨⟨hx, hb, hml, hown, hts⟩, hK, hQ⟩ := id X
  have hl : lv_has ls 5 [(0, .ref (G.2.2.2 + 159)), (1, .int x1), (2, .int x2), (3, .int x3), (4, .int x4)] := hl
  unfold T_X12_asks at hT
  refine lv_aload_n hx hb dX12_asks_0 rfl (lv_at hl 0 rfl) ?_
  refine fx_getR X h (k := 159) (j := 43) (r := 182) sh_159 rfl fl_RX12_80 dX12_asks_1 ?_
  refine lv_iconst (v := 0) hx hb dX12_asks_4 (by decide) ?_
  refine lv_aload_n hx hb dX12_asks_5 rfl (lv_at hl 0 rfl) ?_
  refine fx_getR X h (k := 159) (j := 8) (r := 163) sh_159 rfl fl_RX12_19 dX12_asks_6 ?_
  refine lv_iload_n hx hb dX12_asks_9 rfl (lv_at hl 1 rfl) ?_
  obtain ⟨hi1, hT⟩ := hT
  refine fx_iald X h (k := 163) sh_163 hi1 dX12_asks_10 ?_
  refine fx_iast X h (k := 182) sh_182 (by unfold vp_in; decide) dX12_asks_11 (fun H locs h => ?_)
  rw [show ((0 : Int32)).toNatClampNeg = 0 by decide] at h
  obtain ⟨M2, eM2⟩ : ∃ z : Mm, z = m_up M 182 0 (M 163 (x1).toNatClampNeg) := ⟨_, rfl⟩
  have hT := hT M2 eM2
  rw [← eM2] at h
  refine lv_aload_n hx hb dX12_asks_12 rfl (lv_at hl 0 rfl) ?_
  refine fx_getR X h (k := 159) (j := 43) (r := 182) sh_159 rfl fl_RX12_80 dX12_asks_13 ?_
  refine lv_iconst (v := 1) hx hb dX12_asks_16 (by decide) ?_
  refine lv_aload_n hx hb dX12_asks_17 rfl (lv_at hl 0 rfl) ?_
  refine fx_getR X h (k := 159) (j := 9) (r := 164) sh_159 rfl fl_RX12_22 dX12_asks_18 ?_
  refine lv_iload_n hx hb dX12_asks_21 rfl (lv_at hl 1 rfl) ?_
  obtain ⟨hi3, hT⟩ := hT
  refine fx_iald X h (k := 164) sh_164 hi3 dX12_asks_22 ?_
  refine fx_iast X h (k := 182) sh_182 (by unfold vp_in; decide) dX12_asks_23 (fun H locs h => ?_)
  rw [show ((1 : Int32)).toNatClampNeg = 1 by decide] at h
  obtain ⟨M4, eM4⟩ : ∃ z : Mm, z = m_up M2 182 1 (M2 164 (x1).toNatClampNeg) := ⟨_, rfl⟩
  have hT := hT M4 eM4
  rw [← eM4] at h
  refine lv_aload_n hx hb dX12_asks_24 rfl (lv_at hl 0 rfl) ?_
  refine fx_getR X h (k := 159) (j := 43) (r := 182) sh_159 rfl fl_RX12_80 dX12_asks_25 ?_
  refine lv_iconst (v := 2) hx hb dX12_asks_28 (by decide) ?_
  refine lv_aload_n hx hb dX12_asks_29 rfl (lv_at hl 0 rfl) ?_
  refine fx_getR X h (k := 159) (j := 10) (r := 165) sh_159 rfl fl_RX12_25 dX12_asks_30 ?_
  refine lv_iload_n hx hb dX12_asks_33 rfl (lv_at hl 1 rfl) ?_
  obtain ⟨hi5, hT⟩ := hT
  refine fx_iald X h (k := 165) sh_165 hi5 dX12_asks_34 ?_
  refine fx_iast X h (k := 182) sh_182 (by unfold vp_in; decide) dX12_asks_35 (fun H locs h => ?_)
  rw [show ((2 : Int32)).toNatClampNeg = 2 by decide] at h
  obtain ⟨M6, eM6⟩ : ∃ z : Mm, z = m_up M4 182 2 (M4 165 (x1).toNatClampNeg) := ⟨_, rfl⟩
  have hT := hT M6 eM6
  rw [← eM6] at h
  refine lv_aload_n hx hb dX12_asks_36 rfl (lv_at hl 0 rfl) ?_
  refine fx_getR X h (k := 159) (j := 43) (r := 182) sh_159 rfl fl_RX12_80 dX12_asks_37 ?_
  refine lv_iconst (v := 3) hx hb dX12_asks_40 (by decide) ?_
  refine lv_aload_n hx hb dX12_asks_41 rfl (lv_at hl 0 rfl) ?_
  refine fx_getR X h (k := 159) (j := 11) (r := 166) sh_159 rfl fl_RX12_28 dX12_asks_42 ?_
  refine lv_iload_n hx hb dX12_asks_45 rfl (lv_at hl 2 rfl) ?_
  obtain ⟨hi7, hT⟩ := hT
  refine fx_iald X h (k := 166) sh_166 hi7 dX12_asks_46 ?_
  refine fx_iast X h (k := 182) sh_182 (by unfold vp_in; decide) dX12_asks_47 (fun H locs h => ?_)
  rw [show ((3 : Int32)).toNatClampNeg = 3 by decide] at h
  obtain ⟨M8, eM8⟩ : ∃ z : Mm, z = m_up M6 182 3 (M6 166 (x2).toNatClampNeg) := ⟨_, rfl⟩
  have hT := hT M8 eM8
  rw [← eM8] at h
  refine lv_aload_n hx hb dX12_asks_48 rfl (lv_at hl 0 rfl) ?_
  refine fx_getR X h (k := 159) (j := 43) (r := 182) sh_159 rfl fl_RX12_80 dX12_asks_49 ?_
  refine lv_iconst (v := 4) hx hb dX12_asks_52 (by decide) ?_
  refine lv_aload_n hx hb dX12_asks_53 rfl (lv_at hl 0 rfl) ?_
  refine fx_getR X h (k := 159) (j := 12) (r := 167) sh_159 rfl fl_RX12_31 dX12_asks_54 ?_
  refine lv_iload_n hx hb dX12_asks_57 rfl (lv_at hl 2 rfl) ?_
  obtain ⟨hi9, hT⟩ := hT
  refine fx_iald X h (k := 167) sh_167 hi9 dX12_asks_58 ?_
  refine fx_iast X h (k := 182) sh_182 (by unfold vp_in; decide) dX12_asks_59 (fun H locs h => ?_)
  rw [show ((4 : Int32)).toNatClampNeg = 4 by decide] at h
  obtain ⟨M10, eM10⟩ : ∃ z : Mm, z = m_up M8 182 4 (M8 167 (x2).toNatClampNeg) := ⟨_, rfl⟩
  have hT := hT M10 eM10
  rw [← eM10] at h
  refine lv_aload_n hx hb dX12_asks_60 rfl (lv_at hl 0 rfl) ?_
  refine fx_getR X h (k := 159) (j := 43) (r := 182) sh_159 rfl fl_RX12_80 dX12_asks_61 ?_
  refine lv_iconst (v := 5) hx hb dX12_asks_64 (by decide) ?_
  refine lv_aload_n hx hb dX12_asks_65 rfl (lv_at hl 0 rfl) ?_
  refine fx_getR X h (k := 159) (j := 1) (r := 160) sh_159 rfl fl_RX12_7 dX12_asks_66 ?_
  refine lv_bipush (v := 55) hx hb dX12_asks_69 (by decide) ?_
  refine lv_iload_n hx hb dX12_asks_71 rfl (lv_at hl 2 rfl) ?_
  refine lv_iadd hx hb dX12_asks_72 ?_
  obtain ⟨hi11, hT⟩ := hT
  refine fx_iald X h (k := 160) sh_160 hi11 dX12_asks_73 ?_
  refine fx_iast X h (k := 182) sh_182 (by unfold vp_in; decide) dX12_asks_74 (fun H locs h => ?_)
  rw [show ((5 : Int32)).toNatClampNeg = 5 by decide] at h
  obtain ⟨M12, eM12⟩ : ∃ z : Mm, z = m_up M10 182 5 (M10 160 (((55 : Int32) + x2)).toNatClampNeg) := ⟨_, rfl⟩
  have hT := hT M12 eM12
  rw [← eM12] at h
  refine lv_aload_n hx hb dX12_asks_75 rfl (lv_at hl 0 rfl) ?_
  refine fx_getR X h (k := 159) (j := 43) (r := 182) sh_159 rfl fl_RX12_80 dX12_asks_76 ?_
  refine lv_bipush (v := 6) hx hb dX12_asks_79 (by decide) ?_
  refine lv_iload_n hx hb dX12_asks_81 rfl (lv_at hl 3 rfl) ?_
  refine fx_iast X h (k := 182) sh_182 (by unfold vp_in; decide) dX12_asks_82 (fun H locs h => ?_)
  rw [show ((6 : Int32)).toNatClampNeg = 6 by decide] at h
  obtain ⟨M13, eM13⟩ : ∃ z : Mm, z = m_up M12 182 6 x3 := ⟨_, rfl⟩
  have hT := hT M13 eM13
  rw [← eM13] at h
  refine lv_aload_n hx hb dX12_asks_83 rfl (lv_at hl 0 rfl) ?_
  refine fx_getR X h (k := 159) (j := 43) (r := 182) sh_159 rfl fl_RX12_80 dX12_asks_84 ?_
  refine lv_bipush (v := 7) hx hb dX12_asks_87 (by decide) ?_
  refine lv_iload hx hb dX12_asks_89 (lv_at hl 4 rfl) ?_
  refine fx_iast X h (k := 182) sh_182 (by unfold vp_in; decide) dX12_asks_91 (fun H locs h => ?_)
  rw [show ((7 : Int32)).toNatClampNeg = 7 by decide] at h
  obtain ⟨M14, eM14⟩ : ∃ z : Mm, z = m_up M13 182 7 x4 := ⟨_, rfl⟩
  have hT := hT M14 eM14
  rw [← eM14] at h
  refine lv_aload_n hx hb dX12_asks_92 rfl (lv_at hl 0 rfl) ?_
  refine fx_getR X h (k := 159) (j := 43) (r := 182) sh_159 rfl fl_RX12_80 dX12_asks_93 ?_
  refine lv_bipush (v := 8) hx hb dX12_asks_96 (by decide) ?_
  refine lv_aload_n hx hb dX12_asks_98 rfl (lv_at hl 0 rfl) ?_
  refine fx_getR X h (k := 159) (j := 1) (r := 160) sh_159 rfl fl_RX12_7 dX12_asks_99 ?_
  refine lv_iconst (v := 4) hx hb dX12_asks_102 (by decide) ?_
  refine fx_iald X h (k := 160) sh_160 (by unfold vp_in; decide) dX12_asks_103 ?_
  rw [show ((4 : Int32)).toNatClampNeg = 4 by decide]
  refine fx_iast X h (k := 182) sh_182 (by unfold vp_in; decide) dX12_asks_104 (fun H locs h => ?_)
  rw [show ((8 : Int32)).toNatClampNeg = 8 by decide] at h
  obtain ⟨M15, eM15⟩ : ∃ z : Mm, z = m_up M14 182 8 (M14 160 4) := ⟨_, rfl⟩
  have hT := hT M15 eM15
  rw [← eM15] at h
  refine lv_aload_n hx hb dX12_asks_105 rfl (lv_at hl 0 rfl) ?_
  refine fx_getR X h (k := 159) (j := 43) (r := 182) sh_159 rfl fl_RX12_80 dX12_asks_106 ?_
  refine lv_bipush (v := 9) hx hb dX12_asks_109 (by decide) ?_
  refine lv_aload_n hx hb dX12_asks_111 rfl (lv_at hl 0 rfl) ?_
  refine fx_getR X h (k := 159) (j := 1) (r := 160) sh_159 rfl fl_RX12_7 dX12_asks_112 ?_
  refine lv_iconst (v := 5) hx hb dX12_asks_115 (by decide) ?_
  refine fx_iald X h (k := 160) sh_160 (by unfold vp_in; decide) dX12_asks_116 ?_
  rw [show ((5 : Int32)).toNatClampNeg = 5 by decide]
  refine fx_iast X h (k := 182) sh_182 (by unfold vp_in; decide) dX12_asks_117 (fun H locs h => ?_)
  rw [show ((9 : Int32)).toNatClampNeg = 9 by decide] at h
  obtain ⟨M16, eM16⟩ : ∃ z : Mm, z = m_up M15 182 9 (M15 160 5) := ⟨_, rfl⟩
  have hT := hT M16 eM16
  rw [← eM16] at h
  refine lv_aload_n hx hb dX12_asks_118 rfl (lv_at hl 0 rfl) ?_
  refine fx_getR X h (k := 159) (j := 43) (r := 182) sh_159 rfl fl_RX12_80 dX12_asks_119 ?_
  refine lv_bipush (v := 10) hx hb dX12_asks_122 (by decide) ?_
  refine lv_aload_n hx hb dX12_asks_124 rfl (lv_at hl 0 rfl) ?_
  refine lv_iload_n hx hb dX12_asks_125 rfl (lv_at hl 2 rfl) ?_
  refine fx_vi X h ym_X12_thingsOf yi_X12_thingsOf ys_X12_thingsOf (fx_s8 (List.mem_of_getElem? (i := 45) rfl) rfl) sh_159 rfl (c_X12_thingsOf l G hT) (As := [.int x2]) (rest := [.int (10 : Int32), .ref (G.2.2.2 + 182)]) rfl rfl ⟨Nat.le_of_ble_eq_true rfl, Nat.le_of_ble_eq_true rfl⟩ ⟨Nat.le_refl _, Nat.le_refl _⟩ hl.1 (Nat.le_of_ble_eq_true rfl) dX12_asks_126 (fun r19 M18 H locs hT h => ?_)
  refine fx_iast X h (k := 182) sh_182 (by unfold vp_in; decide) dX12_asks_129 (fun H locs h => ?_)
  rw [show ((10 : Int32)).toNatClampNeg = 10 by decide] at h
  obtain ⟨M20, eM20⟩ : ∃ z : Mm, z = m_up M18 182 10 r19 := ⟨_, rfl⟩
  have hT := hT M20 eM20
  rw [← eM20] at h
  refine lv_aload_n hx hb dX12_asks_130 rfl (lv_at hl 0 rfl) ?_
  refine fx_getR X h (k := 159) (j := 43) (r := 182) sh_159 rfl fl_RX12_80 dX12_asks_131 ?_
  refine lv_bipush (v := 11) hx hb dX12_asks_134 (by decide) ?_
  refine lv_aload_n hx hb dX12_asks_136 rfl (lv_at hl 0 rfl) ?_
  refine fx_getR X h (k := 159) (j := 1) (r := 160) sh_159 rfl fl_RX12_7 dX12_asks_137 ?_
  refine lv_iconst (v := 0) hx hb dX12_asks_140 (by decide) ?_
  refine fx_iald X h (k := 160) sh_160 (by unfold vp_in; decide) dX12_asks_141 ?_
  rw [show ((0 : Int32)).toNatClampNeg = 0 by decide]
  refine fx_iast X h (k := 182) sh_182 (by unfold vp_in; decide) dX12_asks_142 (fun H locs h => ?_)
  rw [show ((11 : Int32)).toNatClampNeg = 11 by decide] at h
  obtain ⟨M21, eM21⟩ : ∃ z : Mm, z = m_up M20 182 11 (M20 160 0) := ⟨_, rfl⟩
  have hT := hT M21 eM21
  rw [← eM21] at h
  exact fx_vret X hr hk h hT dX12_asks_143
