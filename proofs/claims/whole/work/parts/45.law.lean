def T_L_law_1409 (B18 : Int32 → Mm → Prop) (x3 : Int32) (M : Mm) : Prop := (∀ y1 : Int32, y1 = x3 + (6 : Int32) → (B18 y1 M))
set_option maxHeartbeats 4000000 in
set_option maxRecDepth 100000 in
theorem w_L_law_1409 {p : Program} {l : Launch} {e : Env} {s : State} {m : MethodId} {below : List Frame} {meth : Method} {c : Code} {G : fx_G} {b L : Nat} {xs : Nat → Int32} {B18 : Int32 → Mm → Prop} (X : fx_C G p s m c #[Value.ref b] code 4 R_law) (hr : meth.sig.returnType = ret) (hk : meth.locks = false) (hX : va_X b L xs s s.heap) (hbl : b < s.heap.size) (hbA : ¬ fx_A G b) (hz0 : G.2.2.2 = s.heap.size) (hB18 : ∀ (x3 : Int32) (M : Mm) (H : Heap) (locs : List Loc) (ls : Array Slot), B18 x3 M → fx_H G SH M s H locs → lv_has ls 4 [(0, .ref b), (1, .ref (G.2.2.2 + 0)), (2, .ref (G.2.2.2 + 159)), (3, .int x3)] → W p l e room_1 s m #[Value.ref b] below meth c H locs 200 21639 (lw_Z below #[Value.ref b] s) (F0 m 18 ls [])) : ∀ (x3 : Int32) (M : Mm) (H : Heap) (locs : List Loc) (ls : Array Slot), T_L_law_1409 B18 x3 M → fx_H G SH M s H locs → lv_has ls 4 [(0, .ref b), (1, .ref (G.2.2.2 + 0)), (2, .ref (G.2.2.2 + 159)), (3, .int x3)] → W p l e room_1 s m #[Value.ref b] below meth c H locs 200 21639 (lw_Z below #[Value.ref b] s) (F0 m 1409 ls []) := by
  obtain ⟨⟨hx, hb, hml, hown, hts⟩, hK, hQ⟩ := id X
  intro x3 M H locs ls hT h hl
  unfold T_L_law_1409 at hT
  obtain ⟨y1, ey1⟩ : ∃ z : Int32, z = x3 + (6 : Int32) := ⟨_, rfl⟩
  have hT := hT y1 ey1
  refine lv_iinc (v := y1) (lv' := [(3, .int y1), (0, .ref b), (1, .ref (G.2.2.2 + 0)), (2, .ref (G.2.2.2 + 159))]) hx hb dL_law_1409 hl (k := 3) rfl (by rw [ey1]; rfl) (by decide) rfl (fun ls hl => ?_)
  refine lv_goto (tgt := 18) hx hb dL_law_1412 (by decide) ?_
  exact hB18 y1 M _ _ ls hT h (lv_sub hl [1, 2, 3, 0] rfl)
def T_L_case0 (B18 : Int32 → Mm → Prop) (L : Nat) (xs : Nat → Int32) (x3 : Int32) (M : Mm) : Prop := (vp_in (x3 + (1 : Int32)) L ∧ (T_X11_state (xs ((x3 + (1 : Int32))).toNatClampNeg) M (fun r4 M3 => (vp_in (x3 + (1 : Int32)) L ∧ (T_X12_state (xs ((x3 + (1 : Int32))).toNatClampNeg) M3 (fun r7 M6 => ((r4 = r7 → (T_L_law_1409 B18 x3 M6)) ∧ (¬ r4 = r7 → False))))))))
set_option maxHeartbeats 4000000 in
set_option maxRecDepth 100000 in
theorem w_L_case0 {p : Program} {l : Launch} {e : Env} {s : State} {m : MethodId} {below : List Frame} {meth : Method} {c : Code} {G : fx_G} {b L : Nat} {xs : Nat → Int32} {B18 : Int32 → Mm → Prop} (X : fx_C G p s m c #[Value.ref b] code 4 R_law) (hr : meth.sig.returnType = ret) (hk : meth.locks = false) (hX : va_X b L xs s s.heap) (hbl : b < s.heap.size) (hbA : ¬ fx_A G b) (hz0 : G.2.2.2 = s.heap.size) (hB18 : ∀ (x3 : Int32) (M : Mm) (H : Heap) (locs : List Loc) (ls : Array Slot), B18 x3 M → fx_H G SH M s H locs → lv_has ls 4 [(0, .ref b), (1, .ref (G.2.2.2 + 0)), (2, .ref (G.2.2.2 + 159)), (3, .int x3)] → W p l e room_1 s m #[Value.ref b] below meth c H locs 200 21639 (lw_Z below #[Value.ref b] s) (F0 m 18 ls [])) : ∀ (x3 : Int32) (M : Mm) (H : Heap) (locs : List Loc) (ls : Array Slot), T_L_case0 B18 L xs x3 M → fx_H G SH M s H locs → lv_has ls 4 [(0, .ref b), (1, .ref (G.2.2.2 + 0)), (2, .ref (G.2.2.2 + 159)), (3, .int x3)] → W p l e room_1 s m #[Value.ref b] below meth c H locs 200 21639 (lw_Z below #[Value.ref b] s) (F0 m 204 ls []) := by
  obtain ⟨⟨hx, hb, hml, hown, hts⟩, hK, hQ⟩ := id X
  intro x3 M H locs ls hT h hl
  unfold T_L_case0 at hT
  refine lv_aload_n hx hb dL_law_204 rfl (lv_at hl 1 rfl) ?_
  refine lv_aload_n hx hb dL_law_205 rfl (lv_at hl 0 rfl) ?_
  refine lv_iload_n hx hb dL_law_206 rfl (lv_at hl 3 rfl) ?_
  refine lv_iconst (v := 1) hx hb dL_law_207 (by decide) ?_
  refine lv_iadd hx hb dL_law_208 ?_
  obtain ⟨hi2, hT⟩ := hT
  refine va_sld hx hb hX hbl hbA h.2 hi2 dL_law_209 ?_
  refine fx_vi X h ym_X11_state yi_X11_state ys_X11_state (fx_s3 (List.mem_of_getElem? (i := 52) rfl) rfl) sh_0 rfl (c_X11_state l G hT) (As := [.int (xs ((x3 + (1 : Int32))).toNatClampNeg)]) (rest := []) rfl rfl ⟨Nat.le_of_ble_eq_true rfl, Nat.le_of_ble_eq_true rfl⟩ ⟨Nat.le_of_ble_eq_true rfl, Nat.le_of_ble_eq_true rfl⟩ hl.1 (Nat.le_of_ble_eq_true rfl) dL_law_210 (fun r4 M3 H locs hT h => ?_)
  refine lv_aload_n hx hb dL_law_213 rfl (lv_at hl 2 rfl) ?_
  refine lv_aload_n hx hb dL_law_214 rfl (lv_at hl 0 rfl) ?_
  refine lv_iload_n hx hb dL_law_215 rfl (lv_at hl 3 rfl) ?_
  refine lv_iconst (v := 1) hx hb dL_law_216 (by decide) ?_
  refine lv_iadd hx hb dL_law_217 ?_
  obtain ⟨hi5, hT⟩ := hT
  refine va_sld hx hb hX hbl hbA h.2 hi5 dL_law_218 ?_
  refine fx_vi X h ym_X12_state yi_X12_state ys_X12_state (fx_s7 (List.mem_of_getElem? (i := 69) rfl) rfl) sh_159 rfl (c_X12_state l G hT) (As := [.int (xs ((x3 + (1 : Int32))).toNatClampNeg)]) (rest := [.int r4]) rfl rfl ⟨Nat.le_of_ble_eq_true rfl, Nat.le_of_ble_eq_true rfl⟩ ⟨Nat.le_of_ble_eq_true rfl, Nat.le_of_ble_eq_true rfl⟩ hl.1 (Nat.le_of_ble_eq_true rfl) dL_law_219 (fun r7 M6 H locs hT h => ?_)
  refine lv_icmp_eq (tgt := 1409) hx hb dL_law_222 (by decide) (fun hc8 => ?_) (fun hc8 => ?_)
  · have hT := hT.1 hc8
    exact w_L_law_1409 X hr hk hX hbl hbA hz0 hB18 x3 M6 _ _ ls hT h hl
  · have hT := hT.2 hc8
    refine lv_iconst (v := 0) hx hb dL_law_225 (by decide) ?_
    exact hT.elim
def T_L_case1 (B18 : Int32 → Mm → Prop) (L : Nat) (xs : Nat → Int32) (x3 : Int32) (M : Mm) : Prop := (vp_in (x3 + (1 : Int32)) L ∧ (vp_in (x3 + (2 : Int32)) L ∧ (vp_in (x3 + (3 : Int32)) L ∧ (T_X11_parcel (xs ((x3 + (1 : Int32))).toNatClampNeg) (xs ((x3 + (2 : Int32))).toNatClampNeg) (xs ((x3 + (3 : Int32))).toNatClampNeg) M (fun r13 M12 => (vp_in (x3 + (1 : Int32)) L ∧ (vp_in (x3 + (2 : Int32)) L ∧ (vp_in (x3 + (3 : Int32)) L ∧ (T_X12_parcel (xs ((x3 + (1 : Int32))).toNatClampNeg) (xs ((x3 + (2 : Int32))).toNatClampNeg) (xs ((x3 + (3 : Int32))).toNatClampNeg) M12 (fun r18 M17 => ((r13 = r18 → (T_L_law_1409 B18 x3 M17)) ∧ (¬ r13 = r18 → False))))))))))))
set_option maxHeartbeats 4000000 in
set_option maxRecDepth 100000 in
theorem w_L_case1 {p : Program} {l : Launch} {e : Env} {s : State} {m : MethodId} {below : List Frame} {meth : Method} {c : Code} {G : fx_G} {b L : Nat} {xs : Nat → Int32} {B18 : Int32 → Mm → Prop} (X : fx_C G p s m c #[Value.ref b] code 4 R_law) (hr : meth.sig.returnType = ret) (hk : meth.locks = false) (hX : va_X b L xs s s.heap) (hbl : b < s.heap.size) (hbA : ¬ fx_A G b) (hz0 : G.2.2.2 = s.heap.size) (hB18 : ∀ (x3 : Int32) (M : Mm) (H : Heap) (locs : List Loc) (ls : Array Slot), B18 x3 M → fx_H G SH M s H locs → lv_has ls 4 [(0, .ref b), (1, .ref (G.2.2.2 + 0)), (2, .ref (G.2.2.2 + 159)), (3, .int x3)] → W p l e room_1 s m #[Value.ref b] below meth c H locs 200 21639 (lw_Z below #[Value.ref b] s) (F0 m 18 ls [])) : ∀ (x3 : Int32) (M : Mm) (H : Heap) (locs : List Loc) (ls : Array Slot), T_L_case1 B18 L xs x3 M → fx_H G SH M s H locs → lv_has ls 4 [(0, .ref b), (1, .ref (G.2.2.2 + 0)), (2, .ref (G.2.2.2 + 159)), (3, .int x3)] → W p l e room_1 s m #[Value.ref b] below meth c H locs 200 21639 (lw_Z below #[Value.ref b] s) (F0 m 227 ls []) := by
  obtain ⟨⟨hx, hb, hml, hown, hts⟩, hK, hQ⟩ := id X
  intro x3 M H locs ls hT h hl
  unfold T_L_case1 at hT
  refine lv_aload_n hx hb dL_law_227 rfl (lv_at hl 1 rfl) ?_
  refine lv_aload_n hx hb dL_law_228 rfl (lv_at hl 0 rfl) ?_
  refine lv_iload_n hx hb dL_law_229 rfl (lv_at hl 3 rfl) ?_
  refine lv_iconst (v := 1) hx hb dL_law_230 (by decide) ?_
  refine lv_iadd hx hb dL_law_231 ?_
  obtain ⟨hi9, hT⟩ := hT
  refine va_sld hx hb hX hbl hbA h.2 hi9 dL_law_232 ?_
  refine lv_aload_n hx hb dL_law_233 rfl (lv_at hl 0 rfl) ?_
  refine lv_iload_n hx hb dL_law_234 rfl (lv_at hl 3 rfl) ?_
  refine lv_iconst (v := 2) hx hb dL_law_235 (by decide) ?_
  refine lv_iadd hx hb dL_law_236 ?_
  obtain ⟨hi10, hT⟩ := hT
  refine va_sld hx hb hX hbl hbA h.2 hi10 dL_law_237 ?_
  refine lv_aload_n hx hb dL_law_238 rfl (lv_at hl 0 rfl) ?_
  refine lv_iload_n hx hb dL_law_239 rfl (lv_at hl 3 rfl) ?_
  refine lv_iconst (v := 3) hx hb dL_law_240 (by decide) ?_
  refine lv_iadd hx hb dL_law_241 ?_
  obtain ⟨hi11, hT⟩ := hT
  refine va_sld hx hb hX hbl hbA h.2 hi11 dL_law_242 ?_
  refine fx_vi X h ym_X11_parcel yi_X11_parcel ys_X11_parcel (fx_s3 (List.mem_of_getElem? (i := 60) rfl) rfl) sh_0 rfl (c_X11_parcel l G hT) (As := [.int (xs ((x3 + (1 : Int32))).toNatClampNeg), .int (xs ((x3 + (2 : Int32))).toNatClampNeg), .int (xs ((x3 + (3 : Int32))).toNatClampNeg)]) (rest := []) rfl rfl ⟨Nat.le_of_ble_eq_true rfl, Nat.le_of_ble_eq_true rfl⟩ ⟨Nat.le_of_ble_eq_true rfl, Nat.le_of_ble_eq_true rfl⟩ hl.1 (Nat.le_of_ble_eq_true rfl) dL_law_243 (fun r13 M12 H locs hT h => ?_)
  refine lv_aload_n hx hb dL_law_246 rfl (lv_at hl 2 rfl) ?_
  refine lv_aload_n hx hb dL_law_247 rfl (lv_at hl 0 rfl) ?_
  refine lv_iload_n hx hb dL_law_248 rfl (lv_at hl 3 rfl) ?_
  refine lv_iconst (v := 1) hx hb dL_law_249 (by decide) ?_
  refine lv_iadd hx hb dL_law_250 ?_
  obtain ⟨hi14, hT⟩ := hT
  refine va_sld hx hb hX hbl hbA h.2 hi14 dL_law_251 ?_
  refine lv_aload_n hx hb dL_law_252 rfl (lv_at hl 0 rfl) ?_
  refine lv_iload_n hx hb dL_law_253 rfl (lv_at hl 3 rfl) ?_
  refine lv_iconst (v := 2) hx hb dL_law_254 (by decide) ?_
  refine lv_iadd hx hb dL_law_255 ?_
  obtain ⟨hi15, hT⟩ := hT
  refine va_sld hx hb hX hbl hbA h.2 hi15 dL_law_256 ?_
  refine lv_aload_n hx hb dL_law_257 rfl (lv_at hl 0 rfl) ?_
  refine lv_iload_n hx hb dL_law_258 rfl (lv_at hl 3 rfl) ?_
  refine lv_iconst (v := 3) hx hb dL_law_259 (by decide) ?_
  refine lv_iadd hx hb dL_law_260 ?_
  obtain ⟨hi16, hT⟩ := hT
  refine va_sld hx hb hX hbl hbA h.2 hi16 dL_law_261 ?_
  refine fx_vi X h ym_X12_parcel yi_X12_parcel ys_X12_parcel (fx_s7 (List.mem_of_getElem? (i := 73) rfl) rfl) sh_159 rfl (c_X12_parcel l G hT) (As := [.int (xs ((x3 + (1 : Int32))).toNatClampNeg), .int (xs ((x3 + (2 : Int32))).toNatClampNeg), .int (xs ((x3 + (3 : Int32))).toNatClampNeg)]) (rest := [.int r13]) rfl rfl ⟨Nat.le_of_ble_eq_true rfl, Nat.le_of_ble_eq_true rfl⟩ ⟨Nat.le_of_ble_eq_true rfl, Nat.le_of_ble_eq_true rfl⟩ hl.1 (Nat.le_of_ble_eq_true rfl) dL_law_262 (fun r18 M17 H locs hT h => ?_)
  refine lv_icmp_eq (tgt := 1409) hx hb dL_law_265 (by decide) (fun hc19 => ?_) (fun hc19 => ?_)
  · have hT := hT.1 hc19
    exact w_L_law_1409 X hr hk hX hbl hbA hz0 hB18 x3 M17 _ _ ls hT h hl
  · have hT := hT.2 hc19
    refine lv_iconst (v := 0) hx hb dL_law_268 (by decide) ?_
    exact hT.elim
def T_L_case2 (B18 : Int32 → Mm → Prop) (L : Nat) (xs : Nat → Int32) (x3 : Int32) (M : Mm) : Prop := (vp_in (x3 + (1 : Int32)) L ∧ (vp_in (x3 + (2 : Int32)) L ∧ (vp_in (x3 + (3 : Int32)) L ∧ (((xs ((x3 + (3 : Int32))).toNatClampNeg) = 0 → (T_X11_bidder (xs ((x3 + (1 : Int32))).toNatClampNeg) (xs ((x3 + (2 : Int32))).toNatClampNeg) (0 : Int32) M (fun r25 M24 => (vp_in (x3 + (1 : Int32)) L ∧ (vp_in (x3 + (2 : Int32)) L ∧ (vp_in (x3 + (3 : Int32)) L ∧ (((xs ((x3 + (3 : Int32))).toNatClampNeg) = 0 → (T_X12_bidder (xs ((x3 + (1 : Int32))).toNatClampNeg) (xs ((x3 + (2 : Int32))).toNatClampNeg) (0 : Int32) M24 (fun r31 M30 => ((r25 = r31 → (T_L_law_1409 B18 x3 M30)) ∧ (¬ r25 = r31 → False))))) ∧ (¬ (xs ((x3 + (3 : Int32))).toNatClampNeg) = 0 → (T_X12_bidder (xs ((x3 + (1 : Int32))).toNatClampNeg) (xs ((x3 + (2 : Int32))).toNatClampNeg) (1 : Int32) M24 (fun r34 M33 => ((r25 = r34 → (T_L_law_1409 B18 x3 M33)) ∧ (¬ r25 = r34 → False)))))))))))) ∧ (¬ (xs ((x3 + (3 : Int32))).toNatClampNeg) = 0 → (T_X11_bidder (xs ((x3 + (1 : Int32))).toNatClampNeg) (xs ((x3 + (2 : Int32))).toNatClampNeg) (1 : Int32) M (fun r37 M36 => (vp_in (x3 + (1 : Int32)) L ∧ (vp_in (x3 + (2 : Int32)) L ∧ (vp_in (x3 + (3 : Int32)) L ∧ (((xs ((x3 + (3 : Int32))).toNatClampNeg) = 0 → (T_X12_bidder (xs ((x3 + (1 : Int32))).toNatClampNeg) (xs ((x3 + (2 : Int32))).toNatClampNeg) (0 : Int32) M36 (fun r43 M42 => ((r37 = r43 → (T_L_law_1409 B18 x3 M42)) ∧ (¬ r37 = r43 → False))))) ∧ (¬ (xs ((x3 + (3 : Int32))).toNatClampNeg) = 0 → (T_X12_bidder (xs ((x3 + (1 : Int32))).toNatClampNeg) (xs ((x3 + (2 : Int32))).toNatClampNeg) (1 : Int32) M36 (fun r46 M45 => ((r37 = r46 → (T_L_law_1409 B18 x3 M45)) ∧ (¬ r37 = r46 → False))))))))))))))))
set_option maxHeartbeats 4000000 in
set_option maxRecDepth 100000 in
theorem w_L_case2 {p : Program} {l : Launch} {e : Env} {s : State} {m : MethodId} {below : List Frame} {meth : Method} {c : Code} {G : fx_G} {b L : Nat} {xs : Nat → Int32} {B18 : Int32 → Mm → Prop} (X : fx_C G p s m c #[Value.ref b] code 4 R_law) (hr : meth.sig.returnType = ret) (hk : meth.locks = false) (hX : va_X b L xs s s.heap) (hbl : b < s.heap.size) (hbA : ¬ fx_A G b) (hz0 : G.2.2.2 = s.heap.size) (hB18 : ∀ (x3 : Int32) (M : Mm) (H : Heap) (locs : List Loc) (ls : Array Slot), B18 x3 M → fx_H G SH M s H locs → lv_has ls 4 [(0, .ref b), (1, .ref (G.2.2.2 + 0)), (2, .ref (G.2.2.2 + 159)), (3, .int x3)] → W p l e room_1 s m #[Value.ref b] below meth c H locs 200 21639 (lw_Z below #[Value.ref b] s) (F0 m 18 ls [])) : ∀ (x3 : Int32) (M : Mm) (H : Heap) (locs : List Loc) (ls : Array Slot), T_L_case2 B18 L xs x3 M → fx_H G SH M s H locs → lv_has ls 4 [(0, .ref b), (1, .ref (G.2.2.2 + 0)), (2, .ref (G.2.2.2 + 159)), (3, .int x3)] → W p l e room_1 s m #[Value.ref b] below meth c H locs 200 21639 (lw_Z below #[Value.ref b] s) (F0 m 270 ls []) := by
  obtain ⟨⟨hx, hb, hml, hown, hts⟩, hK, hQ⟩ := id X
  intro x3 M H locs ls hT h hl
  unfold T_L_case2 at hT
  refine lv_aload_n hx hb dL_law_270 rfl (lv_at hl 1 rfl) ?_
  refine lv_aload_n hx hb dL_law_271 rfl (lv_at hl 0 rfl) ?_
  refine lv_iload_n hx hb dL_law_272 rfl (lv_at hl 3 rfl) ?_
  refine lv_iconst (v := 1) hx hb dL_law_273 (by decide) ?_
  refine lv_iadd hx hb dL_law_274 ?_
  obtain ⟨hi20, hT⟩ := hT
  refine va_sld hx hb hX hbl hbA h.2 hi20 dL_law_275 ?_
  refine lv_aload_n hx hb dL_law_276 rfl (lv_at hl 0 rfl) ?_
  refine lv_iload_n hx hb dL_law_277 rfl (lv_at hl 3 rfl) ?_
  refine lv_iconst (v := 2) hx hb dL_law_278 (by decide) ?_
  refine lv_iadd hx hb dL_law_279 ?_
  obtain ⟨hi21, hT⟩ := hT
  refine va_sld hx hb hX hbl hbA h.2 hi21 dL_law_280 ?_
  refine lv_aload_n hx hb dL_law_281 rfl (lv_at hl 0 rfl) ?_
  refine lv_iload_n hx hb dL_law_282 rfl (lv_at hl 3 rfl) ?_
  refine lv_iconst (v := 3) hx hb dL_law_283 (by decide) ?_
  refine lv_iadd hx hb dL_law_284 ?_
  obtain ⟨hi22, hT⟩ := hT
  refine va_sld hx hb hX hbl hbA h.2 hi22 dL_law_285 ?_
  refine lv_if_eq (tgt := 293) hx hb dL_law_286 (by decide) (fun hc23 => ?_) (fun hc23 => ?_)
  · have hT := hT.1 hc23
    refine lv_iconst (v := 0) hx hb dL_law_293 (by decide) ?_
    refine fx_vi X h ym_X11_bidder yi_X11_bidder ys_X11_bidder (fx_s3 (List.mem_of_getElem? (i := 71) rfl) rfl) sh_0 rfl (c_X11_bidder l G hT) (As := [.int (xs ((x3 + (1 : Int32))).toNatClampNeg), .int (xs ((x3 + (2 : Int32))).toNatClampNeg), .int (0 : Int32)]) (rest := []) rfl rfl ⟨Nat.le_of_ble_eq_true rfl, Nat.le_of_ble_eq_true rfl⟩ ⟨Nat.le_of_ble_eq_true rfl, Nat.le_of_ble_eq_true rfl⟩ hl.1 (Nat.le_of_ble_eq_true rfl) dL_law_294 (fun r25 M24 H locs hT h => ?_)
    refine lv_aload_n hx hb dL_law_297 rfl (lv_at hl 2 rfl) ?_
    refine lv_aload_n hx hb dL_law_298 rfl (lv_at hl 0 rfl) ?_
    refine lv_iload_n hx hb dL_law_299 rfl (lv_at hl 3 rfl) ?_
    refine lv_iconst (v := 1) hx hb dL_law_300 (by decide) ?_
    refine lv_iadd hx hb dL_law_301 ?_
    obtain ⟨hi26, hT⟩ := hT
    refine va_sld hx hb hX hbl hbA h.2 hi26 dL_law_302 ?_
    refine lv_aload_n hx hb dL_law_303 rfl (lv_at hl 0 rfl) ?_
    refine lv_iload_n hx hb dL_law_304 rfl (lv_at hl 3 rfl) ?_
    refine lv_iconst (v := 2) hx hb dL_law_305 (by decide) ?_
    refine lv_iadd hx hb dL_law_306 ?_
    obtain ⟨hi27, hT⟩ := hT
    refine va_sld hx hb hX hbl hbA h.2 hi27 dL_law_307 ?_
    refine lv_aload_n hx hb dL_law_308 rfl (lv_at hl 0 rfl) ?_
    refine lv_iload_n hx hb dL_law_309 rfl (lv_at hl 3 rfl) ?_
    refine lv_iconst (v := 3) hx hb dL_law_310 (by decide) ?_
    refine lv_iadd hx hb dL_law_311 ?_
    obtain ⟨hi28, hT⟩ := hT
    refine va_sld hx hb hX hbl hbA h.2 hi28 dL_law_312 ?_
    refine lv_if_eq (tgt := 320) hx hb dL_law_313 (by decide) (fun hc29 => ?_) (fun hc29 => ?_)
    · have hT := hT.1 hc29
      refine lv_iconst (v := 0) hx hb dL_law_320 (by decide) ?_
      refine fx_vi X h ym_X12_bidder yi_X12_bidder ys_X12_bidder (fx_s7 (List.mem_of_getElem? (i := 81) rfl) rfl) sh_159 rfl (c_X12_bidder l G hT) (As := [.int (xs ((x3 + (1 : Int32))).toNatClampNeg), .int (xs ((x3 + (2 : Int32))).toNatClampNeg), .int (0 : Int32)]) (rest := [.int r25]) rfl rfl ⟨Nat.le_of_ble_eq_true rfl, Nat.le_of_ble_eq_true rfl⟩ ⟨Nat.le_of_ble_eq_true rfl, Nat.le_of_ble_eq_true rfl⟩ hl.1 (Nat.le_of_ble_eq_true rfl) dL_law_321 (fun r31 M30 H locs hT h => ?_)
      refine lv_icmp_eq (tgt := 1409) hx hb dL_law_324 (by decide) (fun hc32 => ?_) (fun hc32 => ?_)
      · have hT := hT.1 hc32
        exact w_L_law_1409 X hr hk hX hbl hbA hz0 hB18 x3 M30 _ _ ls hT h hl
      · have hT := hT.2 hc32
        refine lv_iconst (v := 0) hx hb dL_law_327 (by decide) ?_
        exact hT.elim
    · have hT := hT.2 hc29
      refine lv_iconst (v := 1) hx hb dL_law_316 (by decide) ?_
      refine lv_goto (tgt := 321) hx hb dL_law_317 (by decide) ?_
      refine fx_vi X h ym_X12_bidder yi_X12_bidder ys_X12_bidder (fx_s7 (List.mem_of_getElem? (i := 81) rfl) rfl) sh_159 rfl (c_X12_bidder l G hT) (As := [.int (xs ((x3 + (1 : Int32))).toNatClampNeg), .int (xs ((x3 + (2 : Int32))).toNatClampNeg), .int (1 : Int32)]) (rest := [.int r25]) rfl rfl ⟨Nat.le_of_ble_eq_true rfl, Nat.le_of_ble_eq_true rfl⟩ ⟨Nat.le_of_ble_eq_true rfl, Nat.le_of_ble_eq_true rfl⟩ hl.1 (Nat.le_of_ble_eq_true rfl) dL_law_321 (fun r34 M33 H locs hT h => ?_)
      refine lv_icmp_eq (tgt := 1409) hx hb dL_law_324 (by decide) (fun hc35 => ?_) (fun hc35 => ?_)
      · have hT := hT.1 hc35
        exact w_L_law_1409 X hr hk hX hbl hbA hz0 hB18 x3 M33 _ _ ls hT h hl
      · have hT := hT.2 hc35
        refine lv_iconst (v := 0) hx hb dL_law_327 (by decide) ?_
        exact hT.elim
  · have hT := hT.2 hc23
    refine lv_iconst (v := 1) hx hb dL_law_289 (by decide) ?_
    refine lv_goto (tgt := 294) hx hb dL_law_290 (by decide) ?_
    refine fx_vi X h ym_X11_bidder yi_X11_bidder ys_X11_bidder (fx_s3 (List.mem_of_getElem? (i := 71) rfl) rfl) sh_0 rfl (c_X11_bidder l G hT) (As := [.int (xs ((x3 + (1 : Int32))).toNatClampNeg), .int (xs ((x3 + (2 : Int32))).toNatClampNeg), .int (1 : Int32)]) (rest := []) rfl rfl ⟨Nat.le_of_ble_eq_true rfl, Nat.le_of_ble_eq_true rfl⟩ ⟨Nat.le_of_ble_eq_true rfl, Nat.le_of_ble_eq_true rfl⟩ hl.1 (Nat.le_of_ble_eq_true rfl) dL_law_294 (fun r37 M36 H locs hT h => ?_)
    refine lv_aload_n hx hb dL_law_297 rfl (lv_at hl 2 rfl) ?_
    refine lv_aload_n hx hb dL_law_298 rfl (lv_at hl 0 rfl) ?_
    refine lv_iload_n hx hb dL_law_299 rfl (lv_at hl 3 rfl) ?_
    refine lv_iconst (v := 1) hx hb dL_law_300 (by decide) ?_
    refine lv_iadd hx hb dL_law_301 ?_
    obtain ⟨hi38, hT⟩ := hT
    refine va_sld hx hb hX hbl hbA h.2 hi38 dL_law_302 ?_
    refine lv_aload_n hx hb dL_law_303 rfl (lv_at hl 0 rfl) ?_
    refine lv_iload_n hx hb dL_law_304 rfl (lv_at hl 3 rfl) ?_
    refine lv_iconst (v := 2) hx hb dL_law_305 (by decide) ?_
    refine lv_iadd hx hb dL_law_306 ?_
    obtain ⟨hi39, hT⟩ := hT
    refine va_sld hx hb hX hbl hbA h.2 hi39 dL_law_307 ?_
    refine lv_aload_n hx hb dL_law_308 rfl (lv_at hl 0 rfl) ?_
    refine lv_iload_n hx hb dL_law_309 rfl (lv_at hl 3 rfl) ?_
    refine lv_iconst (v := 3) hx hb dL_law_310 (by decide) ?_
    refine lv_iadd hx hb dL_law_311 ?_
    obtain ⟨hi40, hT⟩ := hT
    refine va_sld hx hb hX hbl hbA h.2 hi40 dL_law_312 ?_
    refine lv_if_eq (tgt := 320) hx hb dL_law_313 (by decide) (fun hc41 => ?_) (fun hc41 => ?_)
    · have hT := hT.1 hc41
      refine lv_iconst (v := 0) hx hb dL_law_320 (by decide) ?_
      refine fx_vi X h ym_X12_bidder yi_X12_bidder ys_X12_bidder (fx_s7 (List.mem_of_getElem? (i := 81) rfl) rfl) sh_159 rfl (c_X12_bidder l G hT) (As := [.int (xs ((x3 + (1 : Int32))).toNatClampNeg), .int (xs ((x3 + (2 : Int32))).toNatClampNeg), .int (0 : Int32)]) (rest := [.int r37]) rfl rfl ⟨Nat.le_of_ble_eq_true rfl, Nat.le_of_ble_eq_true rfl⟩ ⟨Nat.le_of_ble_eq_true rfl, Nat.le_of_ble_eq_true rfl⟩ hl.1 (Nat.le_of_ble_eq_true rfl) dL_law_321 (fun r43 M42 H locs hT h => ?_)
      refine lv_icmp_eq (tgt := 1409) hx hb dL_law_324 (by decide) (fun hc44 => ?_) (fun hc44 => ?_)
      · have hT := hT.1 hc44
        exact w_L_law_1409 X hr hk hX hbl hbA hz0 hB18 x3 M42 _ _ ls hT h hl
      · have hT := hT.2 hc44
        refine lv_iconst (v := 0) hx hb dL_law_327 (by decide) ?_
        exact hT.elim
    · have hT := hT.2 hc41
      refine lv_iconst (v := 1) hx hb dL_law_316 (by decide) ?_
      refine lv_goto (tgt := 321) hx hb dL_law_317 (by decide) ?_
      refine fx_vi X h ym_X12_bidder yi_X12_bidder ys_X12_bidder (fx_s7 (List.mem_of_getElem? (i := 81) rfl) rfl) sh_159 rfl (c_X12_bidder l G hT) (As := [.int (xs ((x3 + (1 : Int32))).toNatClampNeg), .int (xs ((x3 + (2 : Int32))).toNatClampNeg), .int (1 : Int32)]) (rest := [.int r37]) rfl rfl ⟨Nat.le_of_ble_eq_true rfl, Nat.le_of_ble_eq_true rfl⟩ ⟨Nat.le_of_ble_eq_true rfl, Nat.le_of_ble_eq_true rfl⟩ hl.1 (Nat.le_of_ble_eq_true rfl) dL_law_321 (fun r46 M45 H locs hT h => ?_)
      refine lv_icmp_eq (tgt := 1409) hx hb dL_law_324 (by decide) (fun hc47 => ?_) (fun hc47 => ?_)
      · have hT := hT.1 hc47
        exact w_L_law_1409 X hr hk hX hbl hbA hz0 hB18 x3 M45 _ _ ls hT h hl
      · have hT := hT.2 hc47
        refine lv_iconst (v := 0) hx hb dL_law_327 (by decide) ?_
        exact hT.elim
def T_L_case3 (B18 : Int32 → Mm → Prop) (L : Nat) (xs : Nat → Int32) (x3 : Int32) (M : Mm) : Prop := (vp_in (x3 + (1 : Int32)) L ∧ (vp_in (x3 + (2 : Int32)) L ∧ (vp_in (x3 + (3 : Int32)) L ∧ (T_X11_set (xs ((x3 + (1 : Int32))).toNatClampNeg) (xs ((x3 + (2 : Int32))).toNatClampNeg) (xs ((x3 + (3 : Int32))).toNatClampNeg) M (fun r52 M51 => (vp_in (x3 + (1 : Int32)) L ∧ (vp_in (x3 + (2 : Int32)) L ∧ (vp_in (x3 + (3 : Int32)) L ∧ (T_X12_set (xs ((x3 + (1 : Int32))).toNatClampNeg) (xs ((x3 + (2 : Int32))).toNatClampNeg) (xs ((x3 + (3 : Int32))).toNatClampNeg) M51 (fun r57 M56 => ((r52 = r57 → (T_L_law_1409 B18 x3 M56)) ∧ (¬ r52 = r57 → False))))))))))))
set_option maxHeartbeats 4000000 in
set_option maxRecDepth 100000 in
theorem w_L_case3 {p : Program} {l : Launch} {e : Env} {s : State} {m : MethodId} {below : List Frame} {meth : Method} {c : Code} {G : fx_G} {b L : Nat} {xs : Nat → Int32} {B18 : Int32 → Mm → Prop} (X : fx_C G p s m c #[Value.ref b] code 4 R_law) (hr : meth.sig.returnType = ret) (hk : meth.locks = false) (hX : va_X b L xs s s.heap) (hbl : b < s.heap.size) (hbA : ¬ fx_A G b) (hz0 : G.2.2.2 = s.heap.size) (hB18 : ∀ (x3 : Int32) (M : Mm) (H : Heap) (locs : List Loc) (ls : Array Slot), B18 x3 M → fx_H G SH M s H locs → lv_has ls 4 [(0, .ref b), (1, .ref (G.2.2.2 + 0)), (2, .ref (G.2.2.2 + 159)), (3, .int x3)] → W p l e room_1 s m #[Value.ref b] below meth c H locs 200 21639 (lw_Z below #[Value.ref b] s) (F0 m 18 ls [])) : ∀ (x3 : Int32) (M : Mm) (H : Heap) (locs : List Loc) (ls : Array Slot), T_L_case3 B18 L xs x3 M → fx_H G SH M s H locs → lv_has ls 4 [(0, .ref b), (1, .ref (G.2.2.2 + 0)), (2, .ref (G.2.2.2 + 159)), (3, .int x3)] → W p l e room_1 s m #[Value.ref b] below meth c H locs 200 21639 (lw_Z below #[Value.ref b] s) (F0 m 329 ls []) := by
  obtain ⟨⟨hx, hb, hml, hown, hts⟩, hK, hQ⟩ := id X
  intro x3 M H locs ls hT h hl
  unfold T_L_case3 at hT
  refine lv_aload_n hx hb dL_law_329 rfl (lv_at hl 1 rfl) ?_
  refine lv_aload_n hx hb dL_law_330 rfl (lv_at hl 0 rfl) ?_
  refine lv_iload_n hx hb dL_law_331 rfl (lv_at hl 3 rfl) ?_
  refine lv_iconst (v := 1) hx hb dL_law_332 (by decide) ?_
  refine lv_iadd hx hb dL_law_333 ?_
  obtain ⟨hi48, hT⟩ := hT
  refine va_sld hx hb hX hbl hbA h.2 hi48 dL_law_334 ?_
  refine lv_aload_n hx hb dL_law_335 rfl (lv_at hl 0 rfl) ?_
  refine lv_iload_n hx hb dL_law_336 rfl (lv_at hl 3 rfl) ?_
  refine lv_iconst (v := 2) hx hb dL_law_337 (by decide) ?_
  refine lv_iadd hx hb dL_law_338 ?_
  obtain ⟨hi49, hT⟩ := hT
  refine va_sld hx hb hX hbl hbA h.2 hi49 dL_law_339 ?_
  refine lv_aload_n hx hb dL_law_340 rfl (lv_at hl 0 rfl) ?_
  refine lv_iload_n hx hb dL_law_341 rfl (lv_at hl 3 rfl) ?_
  refine lv_iconst (v := 3) hx hb dL_law_342 (by decide) ?_
  refine lv_iadd hx hb dL_law_343 ?_
  obtain ⟨hi50, hT⟩ := hT
  refine va_sld hx hb hX hbl hbA h.2 hi50 dL_law_344 ?_
  refine fx_vi X h ym_X11_set yi_X11_set ys_X11_set (fx_s3 (List.mem_of_getElem? (i := 79) rfl) rfl) sh_0 rfl (c_X11_set l G hT) (As := [.int (xs ((x3 + (1 : Int32))).toNatClampNeg), .int (xs ((x3 + (2 : Int32))).toNatClampNeg), .int (xs ((x3 + (3 : Int32))).toNatClampNeg)]) (rest := []) rfl rfl ⟨Nat.le_of_ble_eq_true rfl, Nat.le_of_ble_eq_true rfl⟩ ⟨Nat.le_of_ble_eq_true rfl, Nat.le_of_ble_eq_true rfl⟩ hl.1 (Nat.le_of_ble_eq_true rfl) dL_law_345 (fun r52 M51 H locs hT h => ?_)
  refine lv_aload_n hx hb dL_law_348 rfl (lv_at hl 2 rfl) ?_
  refine lv_aload_n hx hb dL_law_349 rfl (lv_at hl 0 rfl) ?_
  refine lv_iload_n hx hb dL_law_350 rfl (lv_at hl 3 rfl) ?_
  refine lv_iconst (v := 1) hx hb dL_law_351 (by decide) ?_
  refine lv_iadd hx hb dL_law_352 ?_
  obtain ⟨hi53, hT⟩ := hT
  refine va_sld hx hb hX hbl hbA h.2 hi53 dL_law_353 ?_
  refine lv_aload_n hx hb dL_law_354 rfl (lv_at hl 0 rfl) ?_
  refine lv_iload_n hx hb dL_law_355 rfl (lv_at hl 3 rfl) ?_
  refine lv_iconst (v := 2) hx hb dL_law_356 (by decide) ?_
  refine lv_iadd hx hb dL_law_357 ?_
  obtain ⟨hi54, hT⟩ := hT
  refine va_sld hx hb hX hbl hbA h.2 hi54 dL_law_358 ?_
  refine lv_aload_n hx hb dL_law_359 rfl (lv_at hl 0 rfl) ?_
  refine lv_iload_n hx hb dL_law_360 rfl (lv_at hl 3 rfl) ?_
  refine lv_iconst (v := 3) hx hb dL_law_361 (by decide) ?_
  refine lv_iadd hx hb dL_law_362 ?_
  obtain ⟨hi55, hT⟩ := hT
  refine va_sld hx hb hX hbl hbA h.2 hi55 dL_law_363 ?_
  refine fx_vi X h ym_X12_set yi_X12_set ys_X12_set (fx_s7 (List.mem_of_getElem? (i := 85) rfl) rfl) sh_159 rfl (c_X12_set l G hT) (As := [.int (xs ((x3 + (1 : Int32))).toNatClampNeg), .int (xs ((x3 + (2 : Int32))).toNatClampNeg), .int (xs ((x3 + (3 : Int32))).toNatClampNeg)]) (rest := [.int r52]) rfl rfl ⟨Nat.le_of_ble_eq_true rfl, Nat.le_of_ble_eq_true rfl⟩ ⟨Nat.le_of_ble_eq_true rfl, Nat.le_of_ble_eq_true rfl⟩ hl.1 (Nat.le_of_ble_eq_true rfl) dL_law_364 (fun r57 M56 H locs hT h => ?_)
  refine lv_icmp_eq (tgt := 1409) hx hb dL_law_367 (by decide) (fun hc58 => ?_) (fun hc58 => ?_)
  · have hT := hT.1 hc58
    exact w_L_law_1409 X hr hk hX hbl hbA hz0 hB18 x3 M56 _ _ ls hT h hl
  · have hT := hT.2 hc58
    refine lv_iconst (v := 0) hx hb dL_law_370 (by decide) ?_
    exact hT.elim
def T_L_case4 (B18 : Int32 → Mm → Prop) (L : Nat) (xs : Nat → Int32) (x3 : Int32) (M : Mm) : Prop := (vp_in (x3 + (1 : Int32)) L ∧ (T_X11_sell (xs ((x3 + (1 : Int32))).toNatClampNeg) M (fun r61 M60 => (vp_in (x3 + (1 : Int32)) L ∧ (T_X12_sell (xs ((x3 + (1 : Int32))).toNatClampNeg) M60 (fun r64 M63 => ((r61 = r64 → (T_L_law_1409 B18 x3 M63)) ∧ (¬ r61 = r64 → False))))))))
set_option maxHeartbeats 4000000 in
set_option maxRecDepth 100000 in
theorem w_L_case4 {p : Program} {l : Launch} {e : Env} {s : State} {m : MethodId} {below : List Frame} {meth : Method} {c : Code} {G : fx_G} {b L : Nat} {xs : Nat → Int32} {B18 : Int32 → Mm → Prop} (X : fx_C G p s m c #[Value.ref b] code 4 R_law) (hr : meth.sig.returnType = ret) (hk : meth.locks = false) (hX : va_X b L xs s s.heap) (hbl : b < s.heap.size) (hbA : ¬ fx_A G b) (hz0 : G.2.2.2 = s.heap.size) (hB18 : ∀ (x3 : Int32) (M : Mm) (H : Heap) (locs : List Loc) (ls : Array Slot), B18 x3 M → fx_H G SH M s H locs → lv_has ls 4 [(0, .ref b), (1, .ref (G.2.2.2 + 0)), (2, .ref (G.2.2.2 + 159)), (3, .int x3)] → W p l e room_1 s m #[Value.ref b] below meth c H locs 200 21639 (lw_Z below #[Value.ref b] s) (F0 m 18 ls [])) : ∀ (x3 : Int32) (M : Mm) (H : Heap) (locs : List Loc) (ls : Array Slot), T_L_case4 B18 L xs x3 M → fx_H G SH M s H locs → lv_has ls 4 [(0, .ref b), (1, .ref (G.2.2.2 + 0)), (2, .ref (G.2.2.2 + 159)), (3, .int x3)] → W p l e room_1 s m #[Value.ref b] below meth c H locs 200 21639 (lw_Z below #[Value.ref b] s) (F0 m 372 ls []) := by
  obtain ⟨⟨hx, hb, hml, hown, hts⟩, hK, hQ⟩ := id X
  intro x3 M H locs ls hT h hl
  unfold T_L_case4 at hT
  refine lv_aload_n hx hb dL_law_372 rfl (lv_at hl 1 rfl) ?_
  refine lv_aload_n hx hb dL_law_373 rfl (lv_at hl 0 rfl) ?_
  refine lv_iload_n hx hb dL_law_374 rfl (lv_at hl 3 rfl) ?_
  refine lv_iconst (v := 1) hx hb dL_law_375 (by decide) ?_
  refine lv_iadd hx hb dL_law_376 ?_
  obtain ⟨hi59, hT⟩ := hT
  refine va_sld hx hb hX hbl hbA h.2 hi59 dL_law_377 ?_
  refine fx_vi X h ym_X11_sell yi_X11_sell ys_X11_sell (fx_s3 (List.mem_of_getElem? (i := 95) rfl) rfl) sh_0 rfl (c_X11_sell l G hT) (As := [.int (xs ((x3 + (1 : Int32))).toNatClampNeg)]) (rest := []) rfl rfl ⟨Nat.le_of_ble_eq_true rfl, Nat.le_of_ble_eq_true rfl⟩ ⟨Nat.le_of_ble_eq_true rfl, Nat.le_of_ble_eq_true rfl⟩ hl.1 (Nat.le_of_ble_eq_true rfl) dL_law_378 (fun r61 M60 H locs hT h => ?_)
  refine lv_aload_n hx hb dL_law_381 rfl (lv_at hl 2 rfl) ?_
  refine lv_aload_n hx hb dL_law_382 rfl (lv_at hl 0 rfl) ?_
  refine lv_iload_n hx hb dL_law_383 rfl (lv_at hl 3 rfl) ?_
  refine lv_iconst (v := 1) hx hb dL_law_384 (by decide) ?_
  refine lv_iadd hx hb dL_law_385 ?_
  obtain ⟨hi62, hT⟩ := hT
  refine va_sld hx hb hX hbl hbA h.2 hi62 dL_law_386 ?_
  refine fx_vi X h ym_X12_sell yi_X12_sell ys_X12_sell (fx_s8 (List.mem_of_getElem? (i := 17) rfl) rfl) sh_159 rfl (c_X12_sell l G hT) (As := [.int (xs ((x3 + (1 : Int32))).toNatClampNeg)]) (rest := [.int r61]) rfl rfl ⟨Nat.le_of_ble_eq_true rfl, Nat.le_of_ble_eq_true rfl⟩ ⟨Nat.le_of_ble_eq_true rfl, Nat.le_of_ble_eq_true rfl⟩ hl.1 (Nat.le_of_ble_eq_true rfl) dL_law_387 (fun r64 M63 H locs hT h => ?_)
  refine lv_icmp_eq (tgt := 1409) hx hb dL_law_390 (by decide) (fun hc65 => ?_) (fun hc65 => ?_)
  · have hT := hT.1 hc65
    exact w_L_law_1409 X hr hk hX hbl hbA hz0 hB18 x3 M63 _ _ ls hT h hl
  · have hT := hT.2 hc65
    refine lv_iconst (v := 0) hx hb dL_law_393 (by decide) ?_
    exact hT.elim
def T_L_case5 (B18 : Int32 → Mm → Prop) (L : Nat) (xs : Nat → Int32) (x3 : Int32) (M : Mm) : Prop := (vp_in (x3 + (1 : Int32)) L ∧ (vp_in (x3 + (2 : Int32)) L ∧ (T_X11_pay (xs ((x3 + (1 : Int32))).toNatClampNeg) (xs ((x3 + (2 : Int32))).toNatClampNeg) M (fun r69 M68 => (vp_in (x3 + (1 : Int32)) L ∧ (vp_in (x3 + (2 : Int32)) L ∧ (T_X12_pay (xs ((x3 + (1 : Int32))).toNatClampNeg) (xs ((x3 + (2 : Int32))).toNatClampNeg) M68 (fun r73 M72 => ((r69 = r73 → (T_L_law_1409 B18 x3 M72)) ∧ (¬ r69 = r73 → False))))))))))
set_option maxHeartbeats 4000000 in
set_option maxRecDepth 100000 in
theorem w_L_case5 {p : Program} {l : Launch} {e : Env} {s : State} {m : MethodId} {below : List Frame} {meth : Method} {c : Code} {G : fx_G} {b L : Nat} {xs : Nat → Int32} {B18 : Int32 → Mm → Prop} (X : fx_C G p s m c #[Value.ref b] code 4 R_law) (hr : meth.sig.returnType = ret) (hk : meth.locks = false) (hX : va_X b L xs s s.heap) (hbl : b < s.heap.size) (hbA : ¬ fx_A G b) (hz0 : G.2.2.2 = s.heap.size) (hB18 : ∀ (x3 : Int32) (M : Mm) (H : Heap) (locs : List Loc) (ls : Array Slot), B18 x3 M → fx_H G SH M s H locs → lv_has ls 4 [(0, .ref b), (1, .ref (G.2.2.2 + 0)), (2, .ref (G.2.2.2 + 159)), (3, .int x3)] → W p l e room_1 s m #[Value.ref b] below meth c H locs 200 21639 (lw_Z below #[Value.ref b] s) (F0 m 18 ls [])) : ∀ (x3 : Int32) (M : Mm) (H : Heap) (locs : List Loc) (ls : Array Slot), T_L_case5 B18 L xs x3 M → fx_H G SH M s H locs → lv_has ls 4 [(0, .ref b), (1, .ref (G.2.2.2 + 0)), (2, .ref (G.2.2.2 + 159)), (3, .int x3)] → W p l e room_1 s m #[Value.ref b] below meth c H locs 200 21639 (lw_Z below #[Value.ref b] s) (F0 m 395 ls []) := by
  obtain ⟨⟨hx, hb, hml, hown, hts⟩, hK, hQ⟩ := id X
  intro x3 M H locs ls hT h hl
  unfold T_L_case5 at hT
  refine lv_aload_n hx hb dL_law_395 rfl (lv_at hl 1 rfl) ?_
  refine lv_aload_n hx hb dL_law_396 rfl (lv_at hl 0 rfl) ?_
  refine lv_iload_n hx hb dL_law_397 rfl (lv_at hl 3 rfl) ?_
  refine lv_iconst (v := 1) hx hb dL_law_398 (by decide) ?_
  refine lv_iadd hx hb dL_law_399 ?_
  obtain ⟨hi66, hT⟩ := hT
  refine va_sld hx hb hX hbl hbA h.2 hi66 dL_law_400 ?_
  refine lv_aload_n hx hb dL_law_401 rfl (lv_at hl 0 rfl) ?_
  refine lv_iload_n hx hb dL_law_402 rfl (lv_at hl 3 rfl) ?_
  refine lv_iconst (v := 2) hx hb dL_law_403 (by decide) ?_
  refine lv_iadd hx hb dL_law_404 ?_
  obtain ⟨hi67, hT⟩ := hT
  refine va_sld hx hb hX hbl hbA h.2 hi67 dL_law_405 ?_
  refine fx_vi X h ym_X11_pay yi_X11_pay ys_X11_pay (fx_s3 (List.mem_of_getElem? (i := 191) rfl) rfl) sh_0 rfl (c_X11_pay l G hT) (As := [.int (xs ((x3 + (1 : Int32))).toNatClampNeg), .int (xs ((x3 + (2 : Int32))).toNatClampNeg)]) (rest := []) rfl rfl ⟨Nat.le_of_ble_eq_true rfl, Nat.le_of_ble_eq_true rfl⟩ ⟨Nat.le_of_ble_eq_true rfl, Nat.le_of_ble_eq_true rfl⟩ hl.1 (Nat.le_of_ble_eq_true rfl) dL_law_406 (fun r69 M68 H locs hT h => ?_)
  refine lv_aload_n hx hb dL_law_409 rfl (lv_at hl 2 rfl) ?_
  refine lv_aload_n hx hb dL_law_410 rfl (lv_at hl 0 rfl) ?_
  refine lv_iload_n hx hb dL_law_411 rfl (lv_at hl 3 rfl) ?_
  refine lv_iconst (v := 1) hx hb dL_law_412 (by decide) ?_
  refine lv_iadd hx hb dL_law_413 ?_
  obtain ⟨hi70, hT⟩ := hT
  refine va_sld hx hb hX hbl hbA h.2 hi70 dL_law_414 ?_
  refine lv_aload_n hx hb dL_law_415 rfl (lv_at hl 0 rfl) ?_
  refine lv_iload_n hx hb dL_law_416 rfl (lv_at hl 3 rfl) ?_
  refine lv_iconst (v := 2) hx hb dL_law_417 (by decide) ?_
  refine lv_iadd hx hb dL_law_418 ?_
  obtain ⟨hi71, hT⟩ := hT
  refine va_sld hx hb hX hbl hbA h.2 hi71 dL_law_419 ?_
  refine fx_vi X h ym_X12_pay yi_X12_pay ys_X12_pay (fx_s8 (List.mem_of_getElem? (i := 99) rfl) rfl) sh_159 rfl (c_X12_pay l G hT) (As := [.int (xs ((x3 + (1 : Int32))).toNatClampNeg), .int (xs ((x3 + (2 : Int32))).toNatClampNeg)]) (rest := [.int r69]) rfl rfl ⟨Nat.le_of_ble_eq_true rfl, Nat.le_of_ble_eq_true rfl⟩ ⟨Nat.le_of_ble_eq_true rfl, Nat.le_of_ble_eq_true rfl⟩ hl.1 (Nat.le_of_ble_eq_true rfl) dL_law_420 (fun r73 M72 H locs hT h => ?_)
  refine lv_icmp_eq (tgt := 1409) hx hb dL_law_423 (by decide) (fun hc74 => ?_) (fun hc74 => ?_)
  · have hT := hT.1 hc74
    exact w_L_law_1409 X hr hk hX hbl hbA hz0 hB18 x3 M72 _ _ ls hT h hl
  · have hT := hT.2 hc74
    refine lv_iconst (v := 0) hx hb dL_law_426 (by decide) ?_
    exact hT.elim
def T_L_case6 (B18 : Int32 → Mm → Prop) (L : Nat) (xs : Nat → Int32) (x3 : Int32) (M : Mm) : Prop := (vp_in (x3 + (1 : Int32)) L ∧ (vp_in (x3 + (2 : Int32)) L ∧ (vp_in (x3 + (3 : Int32)) L ∧ (T_X11_give (xs ((x3 + (1 : Int32))).toNatClampNeg) (xs ((x3 + (2 : Int32))).toNatClampNeg) (xs ((x3 + (3 : Int32))).toNatClampNeg) M (fun r79 M78 => (vp_in (x3 + (1 : Int32)) L ∧ (vp_in (x3 + (2 : Int32)) L ∧ (vp_in (x3 + (3 : Int32)) L ∧ (T_X12_give (xs ((x3 + (1 : Int32))).toNatClampNeg) (xs ((x3 + (2 : Int32))).toNatClampNeg) (xs ((x3 + (3 : Int32))).toNatClampNeg) M78 (fun r84 M83 => ((r79 = r84 → (T_L_law_1409 B18 x3 M83)) ∧ (¬ r79 = r84 → False))))))))))))
set_option maxHeartbeats 4000000 in
set_option maxRecDepth 100000 in
theorem w_L_case6 {p : Program} {l : Launch} {e : Env} {s : State} {m : MethodId} {below : List Frame} {meth : Method} {c : Code} {G : fx_G} {b L : Nat} {xs : Nat → Int32} {B18 : Int32 → Mm → Prop} (X : fx_C G p s m c #[Value.ref b] code 4 R_law) (hr : meth.sig.returnType = ret) (hk : meth.locks = false) (hX : va_X b L xs s s.heap) (hbl : b < s.heap.size) (hbA : ¬ fx_A G b) (hz0 : G.2.2.2 = s.heap.size) (hB18 : ∀ (x3 : Int32) (M : Mm) (H : Heap) (locs : List Loc) (ls : Array Slot), B18 x3 M → fx_H G SH M s H locs → lv_has ls 4 [(0, .ref b), (1, .ref (G.2.2.2 + 0)), (2, .ref (G.2.2.2 + 159)), (3, .int x3)] → W p l e room_1 s m #[Value.ref b] below meth c H locs 200 21639 (lw_Z below #[Value.ref b] s) (F0 m 18 ls [])) : ∀ (x3 : Int32) (M : Mm) (H : Heap) (locs : List Loc) (ls : Array Slot), T_L_case6 B18 L xs x3 M → fx_H G SH M s H locs → lv_has ls 4 [(0, .ref b), (1, .ref (G.2.2.2 + 0)), (2, .ref (G.2.2.2 + 159)), (3, .int x3)] → W p l e room_1 s m #[Value.ref b] below meth c H locs 200 21639 (lw_Z below #[Value.ref b] s) (F0 m 428 ls []) := by
  obtain ⟨⟨hx, hb, hml, hown, hts⟩, hK, hQ⟩ := id X
  intro x3 M H locs ls hT h hl
  unfold T_L_case6 at hT
  refine lv_aload_n hx hb dL_law_428 rfl (lv_at hl 1 rfl) ?_
  refine lv_aload_n hx hb dL_law_429 rfl (lv_at hl 0 rfl) ?_
  refine lv_iload_n hx hb dL_law_430 rfl (lv_at hl 3 rfl) ?_
  refine lv_iconst (v := 1) hx hb dL_law_431 (by decide) ?_
  refine lv_iadd hx hb dL_law_432 ?_
  obtain ⟨hi75, hT⟩ := hT
  refine va_sld hx hb hX hbl hbA h.2 hi75 dL_law_433 ?_
  refine lv_aload_n hx hb dL_law_434 rfl (lv_at hl 0 rfl) ?_
  refine lv_iload_n hx hb dL_law_435 rfl (lv_at hl 3 rfl) ?_
  refine lv_iconst (v := 2) hx hb dL_law_436 (by decide) ?_
  refine lv_iadd hx hb dL_law_437 ?_
  obtain ⟨hi76, hT⟩ := hT
  refine va_sld hx hb hX hbl hbA h.2 hi76 dL_law_438 ?_
  refine lv_aload_n hx hb dL_law_439 rfl (lv_at hl 0 rfl) ?_
  refine lv_iload_n hx hb dL_law_440 rfl (lv_at hl 3 rfl) ?_
  refine lv_iconst (v := 3) hx hb dL_law_441 (by decide) ?_
  refine lv_iadd hx hb dL_law_442 ?_
  obtain ⟨hi77, hT⟩ := hT
  refine va_sld hx hb hX hbl hbA h.2 hi77 dL_law_443 ?_
  refine fx_vi X h ym_X11_give yi_X11_give ys_X11_give (fx_s3 (List.mem_of_getElem? (i := 199) rfl) rfl) sh_0 rfl (c_X11_give l G hT) (As := [.int (xs ((x3 + (1 : Int32))).toNatClampNeg), .int (xs ((x3 + (2 : Int32))).toNatClampNeg), .int (xs ((x3 + (3 : Int32))).toNatClampNeg)]) (rest := []) rfl rfl ⟨Nat.le_of_ble_eq_true rfl, Nat.le_of_ble_eq_true rfl⟩ ⟨Nat.le_of_ble_eq_true rfl, Nat.le_of_ble_eq_true rfl⟩ hl.1 (Nat.le_of_ble_eq_true rfl) dL_law_444 (fun r79 M78 H locs hT h => ?_)
  refine lv_aload_n hx hb dL_law_447 rfl (lv_at hl 2 rfl) ?_
  refine lv_aload_n hx hb dL_law_448 rfl (lv_at hl 0 rfl) ?_
  refine lv_iload_n hx hb dL_law_449 rfl (lv_at hl 3 rfl) ?_
  refine lv_iconst (v := 1) hx hb dL_law_450 (by decide) ?_
  refine lv_iadd hx hb dL_law_451 ?_
  obtain ⟨hi80, hT⟩ := hT
  refine va_sld hx hb hX hbl hbA h.2 hi80 dL_law_452 ?_
  refine lv_aload_n hx hb dL_law_453 rfl (lv_at hl 0 rfl) ?_
  refine lv_iload_n hx hb dL_law_454 rfl (lv_at hl 3 rfl) ?_
  refine lv_iconst (v := 2) hx hb dL_law_455 (by decide) ?_
  refine lv_iadd hx hb dL_law_456 ?_
  obtain ⟨hi81, hT⟩ := hT
  refine va_sld hx hb hX hbl hbA h.2 hi81 dL_law_457 ?_
  refine lv_aload_n hx hb dL_law_458 rfl (lv_at hl 0 rfl) ?_
  refine lv_iload_n hx hb dL_law_459 rfl (lv_at hl 3 rfl) ?_
  refine lv_iconst (v := 3) hx hb dL_law_460 (by decide) ?_
  refine lv_iadd hx hb dL_law_461 ?_
  obtain ⟨hi82, hT⟩ := hT
  refine va_sld hx hb hX hbl hbA h.2 hi82 dL_law_462 ?_
  refine fx_vi X h ym_X12_give yi_X12_give ys_X12_give (fx_s8 (List.mem_of_getElem? (i := 111) rfl) rfl) sh_159 rfl (c_X12_give l G hT) (As := [.int (xs ((x3 + (1 : Int32))).toNatClampNeg), .int (xs ((x3 + (2 : Int32))).toNatClampNeg), .int (xs ((x3 + (3 : Int32))).toNatClampNeg)]) (rest := [.int r79]) rfl rfl ⟨Nat.le_of_ble_eq_true rfl, Nat.le_of_ble_eq_true rfl⟩ ⟨Nat.le_of_ble_eq_true rfl, Nat.le_of_ble_eq_true rfl⟩ hl.1 (Nat.le_of_ble_eq_true rfl) dL_law_463 (fun r84 M83 H locs hT h => ?_)
  refine lv_icmp_eq (tgt := 1409) hx hb dL_law_466 (by decide) (fun hc85 => ?_) (fun hc85 => ?_)
  · have hT := hT.1 hc85
    exact w_L_law_1409 X hr hk hX hbl hbA hz0 hB18 x3 M83 _ _ ls hT h hl
  · have hT := hT.2 hc85
    refine lv_iconst (v := 0) hx hb dL_law_469 (by decide) ?_
    exact hT.elim
def T_L_case7 (B18 : Int32 → Mm → Prop) (L : Nat) (xs : Nat → Int32) (x3 : Int32) (M : Mm) : Prop := (vp_in (x3 + (1 : Int32)) L ∧ (T_X11_settle (xs ((x3 + (1 : Int32))).toNatClampNeg) M (fun r88 M87 => (vp_in (x3 + (1 : Int32)) L ∧ (T_X12_settle (xs ((x3 + (1 : Int32))).toNatClampNeg) M87 (fun r91 M90 => ((r88 = r91 → (T_L_law_1409 B18 x3 M90)) ∧ (¬ r88 = r91 → False))))))))
set_option maxHeartbeats 4000000 in
set_option maxRecDepth 100000 in
theorem w_L_case7 {p : Program} {l : Launch} {e : Env} {s : State} {m : MethodId} {below : List Frame} {meth : Method} {c : Code} {G : fx_G} {b L : Nat} {xs : Nat → Int32} {B18 : Int32 → Mm → Prop} (X : fx_C G p s m c #[Value.ref b] code 4 R_law) (hr : meth.sig.returnType = ret) (hk : meth.locks = false) (hX : va_X b L xs s s.heap) (hbl : b < s.heap.size) (hbA : ¬ fx_A G b) (hz0 : G.2.2.2 = s.heap.size) (hB18 : ∀ (x3 : Int32) (M : Mm) (H : Heap) (locs : List Loc) (ls : Array Slot), B18 x3 M → fx_H G SH M s H locs → lv_has ls 4 [(0, .ref b), (1, .ref (G.2.2.2 + 0)), (2, .ref (G.2.2.2 + 159)), (3, .int x3)] → W p l e room_1 s m #[Value.ref b] below meth c H locs 200 21639 (lw_Z below #[Value.ref b] s) (F0 m 18 ls [])) : ∀ (x3 : Int32) (M : Mm) (H : Heap) (locs : List Loc) (ls : Array Slot), T_L_case7 B18 L xs x3 M → fx_H G SH M s H locs → lv_has ls 4 [(0, .ref b), (1, .ref (G.2.2.2 + 0)), (2, .ref (G.2.2.2 + 159)), (3, .int x3)] → W p l e room_1 s m #[Value.ref b] below meth c H locs 200 21639 (lw_Z below #[Value.ref b] s) (F0 m 471 ls []) := by
  obtain ⟨⟨hx, hb, hml, hown, hts⟩, hK, hQ⟩ := id X
  intro x3 M H locs ls hT h hl
  unfold T_L_case7 at hT
  refine lv_aload_n hx hb dL_law_471 rfl (lv_at hl 1 rfl) ?_
  refine lv_aload_n hx hb dL_law_472 rfl (lv_at hl 0 rfl) ?_
  refine lv_iload_n hx hb dL_law_473 rfl (lv_at hl 3 rfl) ?_
  refine lv_iconst (v := 1) hx hb dL_law_474 (by decide) ?_
  refine lv_iadd hx hb dL_law_475 ?_
  obtain ⟨hi86, hT⟩ := hT
  refine va_sld hx hb hX hbl hbA h.2 hi86 dL_law_476 ?_
  refine fx_vi X h ym_X11_settle yi_X11_settle ys_X11_settle (fx_s3 (List.mem_of_getElem? (i := 208) rfl) rfl) sh_0 rfl (c_X11_settle l G hT) (As := [.int (xs ((x3 + (1 : Int32))).toNatClampNeg)]) (rest := []) rfl rfl ⟨Nat.le_of_ble_eq_true rfl, Nat.le_of_ble_eq_true rfl⟩ ⟨Nat.le_of_ble_eq_true rfl, Nat.le_of_ble_eq_true rfl⟩ hl.1 (Nat.le_of_ble_eq_true rfl) dL_law_477 (fun r88 M87 H locs hT h => ?_)
  refine lv_aload_n hx hb dL_law_480 rfl (lv_at hl 2 rfl) ?_
  refine lv_aload_n hx hb dL_law_481 rfl (lv_at hl 0 rfl) ?_
  refine lv_iload_n hx hb dL_law_482 rfl (lv_at hl 3 rfl) ?_
  refine lv_iconst (v := 1) hx hb dL_law_483 (by decide) ?_
  refine lv_iadd hx hb dL_law_484 ?_
  obtain ⟨hi89, hT⟩ := hT
  refine va_sld hx hb hX hbl hbA h.2 hi89 dL_law_485 ?_
  refine fx_vi X h ym_X12_settle yi_X12_settle ys_X12_settle (fx_s8 (List.mem_of_getElem? (i := 115) rfl) rfl) sh_159 rfl (c_X12_settle l G hT) (As := [.int (xs ((x3 + (1 : Int32))).toNatClampNeg)]) (rest := [.int r88]) rfl rfl ⟨Nat.le_of_ble_eq_true rfl, Nat.le_of_ble_eq_true rfl⟩ ⟨Nat.le_of_ble_eq_true rfl, Nat.le_of_ble_eq_true rfl⟩ hl.1 (Nat.le_of_ble_eq_true rfl) dL_law_486 (fun r91 M90 H locs hT h => ?_)
  refine lv_icmp_eq (tgt := 1409) hx hb dL_law_489 (by decide) (fun hc92 => ?_) (fun hc92 => ?_)
  · have hT := hT.1 hc92
    exact w_L_law_1409 X hr hk hX hbl hbA hz0 hB18 x3 M90 _ _ ls hT h hl
  · have hT := hT.2 hc92
    refine lv_iconst (v := 0) hx hb dL_law_492 (by decide) ?_
    exact hT.elim
def T_L_case8 (B18 : Int32 → Mm → Prop) (L : Nat) (xs : Nat → Int32) (x3 : Int32) (M : Mm) : Prop := (vp_in (x3 + (1 : Int32)) L ∧ (T_X11_days (xs ((x3 + (1 : Int32))).toNatClampNeg) M (fun r95 M94 => (vp_in (x3 + (1 : Int32)) L ∧ (T_X12_days (xs ((x3 + (1 : Int32))).toNatClampNeg) M94 (fun r98 M97 => ((r95 = r98 → (T_L_law_1409 B18 x3 M97)) ∧ (¬ r95 = r98 → False))))))))
set_option maxHeartbeats 4000000 in
set_option maxRecDepth 100000 in
theorem w_L_case8 {p : Program} {l : Launch} {e : Env} {s : State} {m : MethodId} {below : List Frame} {meth : Method} {c : Code} {G : fx_G} {b L : Nat} {xs : Nat → Int32} {B18 : Int32 → Mm → Prop} (X : fx_C G p s m c #[Value.ref b] code 4 R_law) (hr : meth.sig.returnType = ret) (hk : meth.locks = false) (hX : va_X b L xs s s.heap) (hbl : b < s.heap.size) (hbA : ¬ fx_A G b) (hz0 : G.2.2.2 = s.heap.size) (hB18 : ∀ (x3 : Int32) (M : Mm) (H : Heap) (locs : List Loc) (ls : Array Slot), B18 x3 M → fx_H G SH M s H locs → lv_has ls 4 [(0, .ref b), (1, .ref (G.2.2.2 + 0)), (2, .ref (G.2.2.2 + 159)), (3, .int x3)] → W p l e room_1 s m #[Value.ref b] below meth c H locs 200 21639 (lw_Z below #[Value.ref b] s) (F0 m 18 ls [])) : ∀ (x3 : Int32) (M : Mm) (H : Heap) (locs : List Loc) (ls : Array Slot), T_L_case8 B18 L xs x3 M → fx_H G SH M s H locs → lv_has ls 4 [(0, .ref b), (1, .ref (G.2.2.2 + 0)), (2, .ref (G.2.2.2 + 159)), (3, .int x3)] → W p l e room_1 s m #[Value.ref b] below meth c H locs 200 21639 (lw_Z below #[Value.ref b] s) (F0 m 494 ls []) := by
  obtain ⟨⟨hx, hb, hml, hown, hts⟩, hK, hQ⟩ := id X
  intro x3 M H locs ls hT h hl
  unfold T_L_case8 at hT
  refine lv_aload_n hx hb dL_law_494 rfl (lv_at hl 1 rfl) ?_
  refine lv_aload_n hx hb dL_law_495 rfl (lv_at hl 0 rfl) ?_
  refine lv_iload_n hx hb dL_law_496 rfl (lv_at hl 3 rfl) ?_
  refine lv_iconst (v := 1) hx hb dL_law_497 (by decide) ?_
  refine lv_iadd hx hb dL_law_498 ?_
  obtain ⟨hi93, hT⟩ := hT
  refine va_sld hx hb hX hbl hbA h.2 hi93 dL_law_499 ?_
  refine fx_vi X h ym_X11_days yi_X11_days ys_X11_days (fx_s3 (List.mem_of_getElem? (i := 216) rfl) rfl) sh_0 rfl (c_X11_days l G hT) (As := [.int (xs ((x3 + (1 : Int32))).toNatClampNeg)]) (rest := []) rfl rfl ⟨Nat.le_of_ble_eq_true rfl, Nat.le_of_ble_eq_true rfl⟩ ⟨Nat.le_of_ble_eq_true rfl, Nat.le_of_ble_eq_true rfl⟩ hl.1 (Nat.le_of_ble_eq_true rfl) dL_law_500 (fun r95 M94 H locs hT h => ?_)
  refine lv_aload_n hx hb dL_law_503 rfl (lv_at hl 2 rfl) ?_
  refine lv_aload_n hx hb dL_law_504 rfl (lv_at hl 0 rfl) ?_
  refine lv_iload_n hx hb dL_law_505 rfl (lv_at hl 3 rfl) ?_
  refine lv_iconst (v := 1) hx hb dL_law_506 (by decide) ?_
  refine lv_iadd hx hb dL_law_507 ?_
  obtain ⟨hi96, hT⟩ := hT
  refine va_sld hx hb hX hbl hbA h.2 hi96 dL_law_508 ?_
  refine fx_vi X h ym_X12_days yi_X12_days ys_X12_days (fx_s8 (List.mem_of_getElem? (i := 119) rfl) rfl) sh_159 rfl (c_X12_days l G hT) (As := [.int (xs ((x3 + (1 : Int32))).toNatClampNeg)]) (rest := [.int r95]) rfl rfl ⟨Nat.le_of_ble_eq_true rfl, Nat.le_of_ble_eq_true rfl⟩ ⟨Nat.le_of_ble_eq_true rfl, Nat.le_of_ble_eq_true rfl⟩ hl.1 (Nat.le_of_ble_eq_true rfl) dL_law_509 (fun r98 M97 H locs hT h => ?_)
  refine lv_icmp_eq (tgt := 1409) hx hb dL_law_512 (by decide) (fun hc99 => ?_) (fun hc99 => ?_)
  · have hT := hT.1 hc99
    exact w_L_law_1409 X hr hk hX hbl hbA hz0 hB18 x3 M97 _ _ ls hT h hl
  · have hT := hT.2 hc99
    refine lv_iconst (v := 0) hx hb dL_law_515 (by decide) ?_
    exact hT.elim
def T_L_case9 (B18 : Int32 → Mm → Prop) (L : Nat) (xs : Nat → Int32) (x3 : Int32) (M : Mm) : Prop := (vp_in (x3 + (1 : Int32)) L ∧ (vp_in (x3 + (2 : Int32)) L ∧ (vp_in (x3 + (3 : Int32)) L ∧ (vp_in (x3 + (4 : Int32)) L ∧ (vp_in (x3 + (5 : Int32)) L ∧ (T_X11_feed (xs ((x3 + (1 : Int32))).toNatClampNeg) (xs ((x3 + (2 : Int32))).toNatClampNeg) (xs ((x3 + (3 : Int32))).toNatClampNeg) (xs ((x3 + (4 : Int32))).toNatClampNeg) (xs ((x3 + (5 : Int32))).toNatClampNeg) M (fun r106 M105 => (vp_in (x3 + (1 : Int32)) L ∧ (vp_in (x3 + (2 : Int32)) L ∧ (vp_in (x3 + (3 : Int32)) L ∧ (vp_in (x3 + (4 : Int32)) L ∧ (vp_in (x3 + (5 : Int32)) L ∧ (T_X12_feed (xs ((x3 + (1 : Int32))).toNatClampNeg) (xs ((x3 + (2 : Int32))).toNatClampNeg) (xs ((x3 + (3 : Int32))).toNatClampNeg) (xs ((x3 + (4 : Int32))).toNatClampNeg) (xs ((x3 + (5 : Int32))).toNatClampNeg) M105 (fun r113 M112 => ((r106 = r113 → (T_L_law_1409 B18 x3 M112)) ∧ (¬ r106 = r113 → False))))))))))))))))
set_option maxHeartbeats 4000000 in
set_option maxRecDepth 100000 in
theorem w_L_case9 {p : Program} {l : Launch} {e : Env} {s : State} {m : MethodId} {below : List Frame} {meth : Method} {c : Code} {G : fx_G} {b L : Nat} {xs : Nat → Int32} {B18 : Int32 → Mm → Prop} (X : fx_C G p s m c #[Value.ref b] code 4 R_law) (hr : meth.sig.returnType = ret) (hk : meth.locks = false) (hX : va_X b L xs s s.heap) (hbl : b < s.heap.size) (hbA : ¬ fx_A G b) (hz0 : G.2.2.2 = s.heap.size) (hB18 : ∀ (x3 : Int32) (M : Mm) (H : Heap) (locs : List Loc) (ls : Array Slot), B18 x3 M → fx_H G SH M s H locs → lv_has ls 4 [(0, .ref b), (1, .ref (G.2.2.2 + 0)), (2, .ref (G.2.2.2 + 159)), (3, .int x3)] → W p l e room_1 s m #[Value.ref b] below meth c H locs 200 21639 (lw_Z below #[Value.ref b] s) (F0 m 18 ls [])) : ∀ (x3 : Int32) (M : Mm) (H : Heap) (locs : List Loc) (ls : Array Slot), T_L_case9 B18 L xs x3 M → fx_H G SH M s H locs → lv_has ls 4 [(0, .ref b), (1, .ref (G.2.2.2 + 0)), (2, .ref (G.2.2.2 + 159)), (3, .int x3)] → W p l e room_1 s m #[Value.ref b] below meth c H locs 200 21639 (lw_Z below #[Value.ref b] s) (F0 m 517 ls []) := by
  obtain ⟨⟨hx, hb, hml, hown, hts⟩, hK, hQ⟩ := id X
  intro x3 M H locs ls hT h hl
  unfold T_L_case9 at hT
  refine lv_aload_n hx hb dL_law_517 rfl (lv_at hl 1 rfl) ?_
  refine lv_aload_n hx hb dL_law_518 rfl (lv_at hl 0 rfl) ?_
  refine lv_iload_n hx hb dL_law_519 rfl (lv_at hl 3 rfl) ?_
  refine lv_iconst (v := 1) hx hb dL_law_520 (by decide) ?_
  refine lv_iadd hx hb dL_law_521 ?_
  obtain ⟨hi100, hT⟩ := hT
  refine va_sld hx hb hX hbl hbA h.2 hi100 dL_law_522 ?_
  refine lv_aload_n hx hb dL_law_523 rfl (lv_at hl 0 rfl) ?_
  refine lv_iload_n hx hb dL_law_524 rfl (lv_at hl 3 rfl) ?_
  refine lv_iconst (v := 2) hx hb dL_law_525 (by decide) ?_
  refine lv_iadd hx hb dL_law_526 ?_
  obtain ⟨hi101, hT⟩ := hT
  refine va_sld hx hb hX hbl hbA h.2 hi101 dL_law_527 ?_
  refine lv_aload_n hx hb dL_law_528 rfl (lv_at hl 0 rfl) ?_
  refine lv_iload_n hx hb dL_law_529 rfl (lv_at hl 3 rfl) ?_
  refine lv_iconst (v := 3) hx hb dL_law_530 (by decide) ?_
  refine lv_iadd hx hb dL_law_531 ?_
  obtain ⟨hi102, hT⟩ := hT
  refine va_sld hx hb hX hbl hbA h.2 hi102 dL_law_532 ?_
  refine lv_aload_n hx hb dL_law_533 rfl (lv_at hl 0 rfl) ?_
  refine lv_iload_n hx hb dL_law_534 rfl (lv_at hl 3 rfl) ?_
  refine lv_iconst (v := 4) hx hb dL_law_535 (by decide) ?_
  refine lv_iadd hx hb dL_law_536 ?_
  obtain ⟨hi103, hT⟩ := hT
  refine va_sld hx hb hX hbl hbA h.2 hi103 dL_law_537 ?_
  refine lv_aload_n hx hb dL_law_538 rfl (lv_at hl 0 rfl) ?_
  refine lv_iload_n hx hb dL_law_539 rfl (lv_at hl 3 rfl) ?_
  refine lv_iconst (v := 5) hx hb dL_law_540 (by decide) ?_
  refine lv_iadd hx hb dL_law_541 ?_
  obtain ⟨hi104, hT⟩ := hT
  refine va_sld hx hb hX hbl hbA h.2 hi104 dL_law_542 ?_
  refine fx_vi X h ym_X11_feed yi_X11_feed ys_X11_feed (fx_s3 (List.mem_of_getElem? (i := 238) rfl) rfl) sh_0 rfl (c_X11_feed l G hT) (As := [.int (xs ((x3 + (1 : Int32))).toNatClampNeg), .int (xs ((x3 + (2 : Int32))).toNatClampNeg), .int (xs ((x3 + (3 : Int32))).toNatClampNeg), .int (xs ((x3 + (4 : Int32))).toNatClampNeg), .int (xs ((x3 + (5 : Int32))).toNatClampNeg)]) (rest := []) rfl rfl ⟨Nat.le_of_ble_eq_true rfl, Nat.le_of_ble_eq_true rfl⟩ ⟨Nat.le_of_ble_eq_true rfl, Nat.le_of_ble_eq_true rfl⟩ hl.1 (Nat.le_of_ble_eq_true rfl) dL_law_543 (fun r106 M105 H locs hT h => ?_)
  refine lv_aload_n hx hb dL_law_546 rfl (lv_at hl 2 rfl) ?_
  refine lv_aload_n hx hb dL_law_547 rfl (lv_at hl 0 rfl) ?_
  refine lv_iload_n hx hb dL_law_548 rfl (lv_at hl 3 rfl) ?_
  refine lv_iconst (v := 1) hx hb dL_law_549 (by decide) ?_
  refine lv_iadd hx hb dL_law_550 ?_
  obtain ⟨hi107, hT⟩ := hT
  refine va_sld hx hb hX hbl hbA h.2 hi107 dL_law_551 ?_
  refine lv_aload_n hx hb dL_law_552 rfl (lv_at hl 0 rfl) ?_
  refine lv_iload_n hx hb dL_law_553 rfl (lv_at hl 3 rfl) ?_
  refine lv_iconst (v := 2) hx hb dL_law_554 (by decide) ?_
  refine lv_iadd hx hb dL_law_555 ?_
  obtain ⟨hi108, hT⟩ := hT
  refine va_sld hx hb hX hbl hbA h.2 hi108 dL_law_556 ?_
  refine lv_aload_n hx hb dL_law_557 rfl (lv_at hl 0 rfl) ?_
  refine lv_iload_n hx hb dL_law_558 rfl (lv_at hl 3 rfl) ?_
  refine lv_iconst (v := 3) hx hb dL_law_559 (by decide) ?_
  refine lv_iadd hx hb dL_law_560 ?_
  obtain ⟨hi109, hT⟩ := hT
  refine va_sld hx hb hX hbl hbA h.2 hi109 dL_law_561 ?_
  refine lv_aload_n hx hb dL_law_562 rfl (lv_at hl 0 rfl) ?_
  refine lv_iload_n hx hb dL_law_563 rfl (lv_at hl 3 rfl) ?_
  refine lv_iconst (v := 4) hx hb dL_law_564 (by decide) ?_
  refine lv_iadd hx hb dL_law_565 ?_
  obtain ⟨hi110, hT⟩ := hT
  refine va_sld hx hb hX hbl hbA h.2 hi110 dL_law_566 ?_
  refine lv_aload_n hx hb dL_law_567 rfl (lv_at hl 0 rfl) ?_
  refine lv_iload_n hx hb dL_law_568 rfl (lv_at hl 3 rfl) ?_
  refine lv_iconst (v := 5) hx hb dL_law_569 (by decide) ?_
  refine lv_iadd hx hb dL_law_570 ?_
  obtain ⟨hi111, hT⟩ := hT
  refine va_sld hx hb hX hbl hbA h.2 hi111 dL_law_571 ?_
  refine fx_vi X h ym_X12_feed yi_X12_feed ys_X12_feed (fx_s7 (List.mem_of_getElem? (i := 101) rfl) rfl) sh_159 rfl (c_X12_feed l G hT) (As := [.int (xs ((x3 + (1 : Int32))).toNatClampNeg), .int (xs ((x3 + (2 : Int32))).toNatClampNeg), .int (xs ((x3 + (3 : Int32))).toNatClampNeg), .int (xs ((x3 + (4 : Int32))).toNatClampNeg), .int (xs ((x3 + (5 : Int32))).toNatClampNeg)]) (rest := [.int r106]) rfl rfl ⟨Nat.le_of_ble_eq_true rfl, Nat.le_of_ble_eq_true rfl⟩ ⟨Nat.le_of_ble_eq_true rfl, Nat.le_of_ble_eq_true rfl⟩ hl.1 (Nat.le_of_ble_eq_true rfl) dL_law_572 (fun r113 M112 H locs hT h => ?_)
  refine lv_icmp_eq (tgt := 1409) hx hb dL_law_575 (by decide) (fun hc114 => ?_) (fun hc114 => ?_)
  · have hT := hT.1 hc114
    exact w_L_law_1409 X hr hk hX hbl hbA hz0 hB18 x3 M112 _ _ ls hT h hl
  · have hT := hT.2 hc114
    refine lv_iconst (v := 0) hx hb dL_law_578 (by decide) ?_
    exact hT.elim
def T_L_case10 (B18 : Int32 → Mm → Prop) (L : Nat) (xs : Nat → Int32) (x3 : Int32) (M : Mm) : Prop := (vp_in (x3 + (1 : Int32)) L ∧ (T_X11_end (xs ((x3 + (1 : Int32))).toNatClampNeg) M (fun r117 M116 => (vp_in (x3 + (1 : Int32)) L ∧ (T_X12_end (xs ((x3 + (1 : Int32))).toNatClampNeg) M116 (fun r120 M119 => ((r117 = r120 → (T_L_law_1409 B18 x3 M119)) ∧ (¬ r117 = r120 → False))))))))
set_option maxHeartbeats 4000000 in
set_option maxRecDepth 100000 in
theorem w_L_case10 {p : Program} {l : Launch} {e : Env} {s : State} {m : MethodId} {below : List Frame} {meth : Method} {c : Code} {G : fx_G} {b L : Nat} {xs : Nat → Int32} {B18 : Int32 → Mm → Prop} (X : fx_C G p s m c #[Value.ref b] code 4 R_law) (hr : meth.sig.returnType = ret) (hk : meth.locks = false) (hX : va_X b L xs s s.heap) (hbl : b < s.heap.size) (hbA : ¬ fx_A G b) (hz0 : G.2.2.2 = s.heap.size) (hB18 : ∀ (x3 : Int32) (M : Mm) (H : Heap) (locs : List Loc) (ls : Array Slot), B18 x3 M → fx_H G SH M s H locs → lv_has ls 4 [(0, .ref b), (1, .ref (G.2.2.2 + 0)), (2, .ref (G.2.2.2 + 159)), (3, .int x3)] → W p l e room_1 s m #[Value.ref b] below meth c H locs 200 21639 (lw_Z below #[Value.ref b] s) (F0 m 18 ls [])) : ∀ (x3 : Int32) (M : Mm) (H : Heap) (locs : List Loc) (ls : Array Slot), T_L_case10 B18 L xs x3 M → fx_H G SH M s H locs → lv_has ls 4 [(0, .ref b), (1, .ref (G.2.2.2 + 0)), (2, .ref (G.2.2.2 + 159)), (3, .int x3)] → W p l e room_1 s m #[Value.ref b] below meth c H locs 200 21639 (lw_Z below #[Value.ref b] s) (F0 m 580 ls []) := by
  obtain ⟨⟨hx, hb, hml, hown, hts⟩, hK, hQ⟩ := id X
  intro x3 M H locs ls hT h hl
  unfold T_L_case10 at hT
  refine lv_aload_n hx hb dL_law_580 rfl (lv_at hl 1 rfl) ?_
  refine lv_aload_n hx hb dL_law_581 rfl (lv_at hl 0 rfl) ?_
  refine lv_iload_n hx hb dL_law_582 rfl (lv_at hl 3 rfl) ?_
  refine lv_iconst (v := 1) hx hb dL_law_583 (by decide) ?_
  refine lv_iadd hx hb dL_law_584 ?_
  obtain ⟨hi115, hT⟩ := hT
  refine va_sld hx hb hX hbl hbA h.2 hi115 dL_law_585 ?_
  refine fx_vi X h ym_X11_end yi_X11_end ys_X11_end (fx_s4 (List.mem_of_getElem? (i := 6) rfl) rfl) sh_0 rfl (c_X11_end l G hT) (As := [.int (xs ((x3 + (1 : Int32))).toNatClampNeg)]) (rest := []) rfl rfl ⟨Nat.le_of_ble_eq_true rfl, Nat.le_of_ble_eq_true rfl⟩ ⟨Nat.le_of_ble_eq_true rfl, Nat.le_of_ble_eq_true rfl⟩ hl.1 (Nat.le_of_ble_eq_true rfl) dL_law_586 (fun r117 M116 H locs hT h => ?_)
  refine lv_aload_n hx hb dL_law_589 rfl (lv_at hl 2 rfl) ?_
  refine lv_aload_n hx hb dL_law_590 rfl (lv_at hl 0 rfl) ?_
  refine lv_iload_n hx hb dL_law_591 rfl (lv_at hl 3 rfl) ?_
  refine lv_iconst (v := 1) hx hb dL_law_592 (by decide) ?_
  refine lv_iadd hx hb dL_law_593 ?_
  obtain ⟨hi118, hT⟩ := hT
  refine va_sld hx hb hX hbl hbA h.2 hi118 dL_law_594 ?_
  refine fx_vi X h ym_X12_end yi_X12_end ys_X12_end (fx_s7 (List.mem_of_getElem? (i := 109) rfl) rfl) sh_159 rfl (c_X12_end l G hT) (As := [.int (xs ((x3 + (1 : Int32))).toNatClampNeg)]) (rest := [.int r117]) rfl rfl ⟨Nat.le_of_ble_eq_true rfl, Nat.le_of_ble_eq_true rfl⟩ ⟨Nat.le_of_ble_eq_true rfl, Nat.le_of_ble_eq_true rfl⟩ hl.1 (Nat.le_of_ble_eq_true rfl) dL_law_595 (fun r120 M119 H locs hT h => ?_)
  refine lv_icmp_eq (tgt := 1409) hx hb dL_law_598 (by decide) (fun hc121 => ?_) (fun hc121 => ?_)
  · have hT := hT.1 hc121
    exact w_L_law_1409 X hr hk hX hbl hbA hz0 hB18 x3 M119 _ _ ls hT h hl
  · have hT := hT.2 hc121
    refine lv_iconst (v := 0) hx hb dL_law_601 (by decide) ?_
    exact hT.elim
def T_L_case11 (B18 : Int32 → Mm → Prop) (L : Nat) (xs : Nat → Int32) (x3 : Int32) (M : Mm) : Prop := (vp_in (x3 + (1 : Int32)) L ∧ (T_X11_text (xs ((x3 + (1 : Int32))).toNatClampNeg) M (fun r124 M123 => (vp_in (x3 + (1 : Int32)) L ∧ (T_X12_text (xs ((x3 + (1 : Int32))).toNatClampNeg) M123 (fun r127 M126 => ((r124 = r127 → (T_L_law_1409 B18 x3 M126)) ∧ (¬ r124 = r127 → False))))))))
set_option maxHeartbeats 4000000 in
set_option maxRecDepth 100000 in
theorem w_L_case11 {p : Program} {l : Launch} {e : Env} {s : State} {m : MethodId} {below : List Frame} {meth : Method} {c : Code} {G : fx_G} {b L : Nat} {xs : Nat → Int32} {B18 : Int32 → Mm → Prop} (X : fx_C G p s m c #[Value.ref b] code 4 R_law) (hr : meth.sig.returnType = ret) (hk : meth.locks = false) (hX : va_X b L xs s s.heap) (hbl : b < s.heap.size) (hbA : ¬ fx_A G b) (hz0 : G.2.2.2 = s.heap.size) (hB18 : ∀ (x3 : Int32) (M : Mm) (H : Heap) (locs : List Loc) (ls : Array Slot), B18 x3 M → fx_H G SH M s H locs → lv_has ls 4 [(0, .ref b), (1, .ref (G.2.2.2 + 0)), (2, .ref (G.2.2.2 + 159)), (3, .int x3)] → W p l e room_1 s m #[Value.ref b] below meth c H locs 200 21639 (lw_Z below #[Value.ref b] s) (F0 m 18 ls [])) : ∀ (x3 : Int32) (M : Mm) (H : Heap) (locs : List Loc) (ls : Array Slot), T_L_case11 B18 L xs x3 M → fx_H G SH M s H locs → lv_has ls 4 [(0, .ref b), (1, .ref (G.2.2.2 + 0)), (2, .ref (G.2.2.2 + 159)), (3, .int x3)] → W p l e room_1 s m #[Value.ref b] below meth c H locs 200 21639 (lw_Z below #[Value.ref b] s) (F0 m 603 ls []) := by
  obtain ⟨⟨hx, hb, hml, hown, hts⟩, hK, hQ⟩ := id X
  intro x3 M H locs ls hT h hl
  unfold T_L_case11 at hT
  refine lv_aload_n hx hb dL_law_603 rfl (lv_at hl 1 rfl) ?_
  refine lv_aload_n hx hb dL_law_604 rfl (lv_at hl 0 rfl) ?_
  refine lv_iload_n hx hb dL_law_605 rfl (lv_at hl 3 rfl) ?_
  refine lv_iconst (v := 1) hx hb dL_law_606 (by decide) ?_
  refine lv_iadd hx hb dL_law_607 ?_
  obtain ⟨hi122, hT⟩ := hT
  refine va_sld hx hb hX hbl hbA h.2 hi122 dL_law_608 ?_
  refine fx_vi X h ym_X11_text yi_X11_text ys_X11_text (fx_s4 (List.mem_of_getElem? (i := 10) rfl) rfl) sh_0 rfl (c_X11_text l G hT) (As := [.int (xs ((x3 + (1 : Int32))).toNatClampNeg)]) (rest := []) rfl rfl ⟨Nat.le_of_ble_eq_true rfl, Nat.le_of_ble_eq_true rfl⟩ ⟨Nat.le_of_ble_eq_true rfl, Nat.le_of_ble_eq_true rfl⟩ hl.1 (Nat.le_of_ble_eq_true rfl) dL_law_609 (fun r124 M123 H locs hT h => ?_)
  refine lv_aload_n hx hb dL_law_612 rfl (lv_at hl 2 rfl) ?_
  refine lv_aload_n hx hb dL_law_613 rfl (lv_at hl 0 rfl) ?_
  refine lv_iload_n hx hb dL_law_614 rfl (lv_at hl 3 rfl) ?_
  refine lv_iconst (v := 1) hx hb dL_law_615 (by decide) ?_
  refine lv_iadd hx hb dL_law_616 ?_
  obtain ⟨hi125, hT⟩ := hT
  refine va_sld hx hb hX hbl hbA h.2 hi125 dL_law_617 ?_
  refine fx_vi X h ym_X12_text yi_X12_text ys_X12_text (fx_s7 (List.mem_of_getElem? (i := 113) rfl) rfl) sh_159 rfl (c_X12_text l G hT) (As := [.int (xs ((x3 + (1 : Int32))).toNatClampNeg)]) (rest := [.int r124]) rfl rfl ⟨Nat.le_of_ble_eq_true rfl, Nat.le_of_ble_eq_true rfl⟩ ⟨Nat.le_of_ble_eq_true rfl, Nat.le_of_ble_eq_true rfl⟩ hl.1 (Nat.le_of_ble_eq_true rfl) dL_law_618 (fun r127 M126 H locs hT h => ?_)
  refine lv_icmp_eq (tgt := 1409) hx hb dL_law_621 (by decide) (fun hc128 => ?_) (fun hc128 => ?_)
  · have hT := hT.1 hc128
    exact w_L_law_1409 X hr hk hX hbl hbA hz0 hB18 x3 M126 _ _ ls hT h hl
  · have hT := hT.2 hc128
    refine lv_iconst (v := 0) hx hb dL_law_624 (by decide) ?_
    exact hT.elim
def T_L_case12 (B18 : Int32 → Mm → Prop) (L : Nat) (xs : Nat → Int32) (x3 : Int32) (M : Mm) : Prop := (vp_in (x3 + (1 : Int32)) L ∧ (T_X11_fault (xs ((x3 + (1 : Int32))).toNatClampNeg) M (fun r131 M130 => (vp_in (x3 + (1 : Int32)) L ∧ (T_X12_fault (xs ((x3 + (1 : Int32))).toNatClampNeg) M130 (fun r134 M133 => ((r131 = r134 → (T_L_law_1409 B18 x3 M133)) ∧ (¬ r131 = r134 → False))))))))
set_option maxHeartbeats 4000000 in
set_option maxRecDepth 100000 in
theorem w_L_case12 {p : Program} {l : Launch} {e : Env} {s : State} {m : MethodId} {below : List Frame} {meth : Method} {c : Code} {G : fx_G} {b L : Nat} {xs : Nat → Int32} {B18 : Int32 → Mm → Prop} (X : fx_C G p s m c #[Value.ref b] code 4 R_law) (hr : meth.sig.returnType = ret) (hk : meth.locks = false) (hX : va_X b L xs s s.heap) (hbl : b < s.heap.size) (hbA : ¬ fx_A G b) (hz0 : G.2.2.2 = s.heap.size) (hB18 : ∀ (x3 : Int32) (M : Mm) (H : Heap) (locs : List Loc) (ls : Array Slot), B18 x3 M → fx_H G SH M s H locs → lv_has ls 4 [(0, .ref b), (1, .ref (G.2.2.2 + 0)), (2, .ref (G.2.2.2 + 159)), (3, .int x3)] → W p l e room_1 s m #[Value.ref b] below meth c H locs 200 21639 (lw_Z below #[Value.ref b] s) (F0 m 18 ls [])) : ∀ (x3 : Int32) (M : Mm) (H : Heap) (locs : List Loc) (ls : Array Slot), T_L_case12 B18 L xs x3 M → fx_H G SH M s H locs → lv_has ls 4 [(0, .ref b), (1, .ref (G.2.2.2 + 0)), (2, .ref (G.2.2.2 + 159)), (3, .int x3)] → W p l e room_1 s m #[Value.ref b] below meth c H locs 200 21639 (lw_Z below #[Value.ref b] s) (F0 m 626 ls []) := by
  obtain ⟨⟨hx, hb, hml, hown, hts⟩, hK, hQ⟩ := id X
  intro x3 M H locs ls hT h hl
  unfold T_L_case12 at hT
  refine lv_aload_n hx hb dL_law_626 rfl (lv_at hl 1 rfl) ?_
  refine lv_aload_n hx hb dL_law_627 rfl (lv_at hl 0 rfl) ?_
  refine lv_iload_n hx hb dL_law_628 rfl (lv_at hl 3 rfl) ?_
  refine lv_iconst (v := 1) hx hb dL_law_629 (by decide) ?_
  refine lv_iadd hx hb dL_law_630 ?_
  obtain ⟨hi129, hT⟩ := hT
  refine va_sld hx hb hX hbl hbA h.2 hi129 dL_law_631 ?_
  refine fx_vi X h ym_X11_fault yi_X11_fault ys_X11_fault (fx_s5 (List.mem_of_getElem? (i := 31) rfl) rfl) sh_0 rfl (c_X11_fault l G hT) (As := [.int (xs ((x3 + (1 : Int32))).toNatClampNeg)]) (rest := []) rfl rfl ⟨Nat.le_of_ble_eq_true rfl, Nat.le_of_ble_eq_true rfl⟩ ⟨Nat.le_of_ble_eq_true rfl, Nat.le_of_ble_eq_true rfl⟩ hl.1 (Nat.le_of_ble_eq_true rfl) dL_law_632 (fun r131 M130 H locs hT h => ?_)
  refine lv_aload_n hx hb dL_law_635 rfl (lv_at hl 2 rfl) ?_
  refine lv_aload_n hx hb dL_law_636 rfl (lv_at hl 0 rfl) ?_
  refine lv_iload_n hx hb dL_law_637 rfl (lv_at hl 3 rfl) ?_
  refine lv_iconst (v := 1) hx hb dL_law_638 (by decide) ?_
  refine lv_iadd hx hb dL_law_639 ?_
  obtain ⟨hi132, hT⟩ := hT
  refine va_sld hx hb hX hbl hbA h.2 hi132 dL_law_640 ?_
  refine fx_vi X h ym_X12_fault yi_X12_fault ys_X12_fault (fx_s8 (List.mem_of_getElem? (i := 13) rfl) rfl) sh_159 rfl (c_X12_fault l G hT) (As := [.int (xs ((x3 + (1 : Int32))).toNatClampNeg)]) (rest := [.int r131]) rfl rfl ⟨Nat.le_of_ble_eq_true rfl, Nat.le_of_ble_eq_true rfl⟩ ⟨Nat.le_of_ble_eq_true rfl, Nat.le_of_ble_eq_true rfl⟩ hl.1 (Nat.le_of_ble_eq_true rfl) dL_law_641 (fun r134 M133 H locs hT h => ?_)
  refine lv_icmp_eq (tgt := 1409) hx hb dL_law_644 (by decide) (fun hc135 => ?_) (fun hc135 => ?_)
  · have hT := hT.1 hc135
    exact w_L_law_1409 X hr hk hX hbl hbA hz0 hB18 x3 M133 _ _ ls hT h hl
  · have hT := hT.2 hc135
    refine lv_iconst (v := 0) hx hb dL_law_647 (by decide) ?_
    exact hT.elim
def T_L_case13 (B18 : Int32 → Mm → Prop) (L : Nat) (xs : Nat → Int32) (x3 : Int32) (M : Mm) : Prop := (vp_in (x3 + (1 : Int32)) L ∧ (vp_in (x3 + (2 : Int32)) L ∧ (T_X11_of (xs ((x3 + (1 : Int32))).toNatClampNeg) (xs ((x3 + (2 : Int32))).toNatClampNeg) M (fun r139 M138 => (vp_in (x3 + (1 : Int32)) L ∧ (vp_in (x3 + (2 : Int32)) L ∧ (T_X12_of (xs ((x3 + (1 : Int32))).toNatClampNeg) (xs ((x3 + (2 : Int32))).toNatClampNeg) M138 (fun r143 M142 => ((r139 = r143 → (T_L_law_1409 B18 x3 M142)) ∧ (¬ r139 = r143 → False))))))))))
set_option maxHeartbeats 4000000 in
set_option maxRecDepth 100000 in
theorem w_L_case13 {p : Program} {l : Launch} {e : Env} {s : State} {m : MethodId} {below : List Frame} {meth : Method} {c : Code} {G : fx_G} {b L : Nat} {xs : Nat → Int32} {B18 : Int32 → Mm → Prop} (X : fx_C G p s m c #[Value.ref b] code 4 R_law) (hr : meth.sig.returnType = ret) (hk : meth.locks = false) (hX : va_X b L xs s s.heap) (hbl : b < s.heap.size) (hbA : ¬ fx_A G b) (hz0 : G.2.2.2 = s.heap.size) (hB18 : ∀ (x3 : Int32) (M : Mm) (H : Heap) (locs : List Loc) (ls : Array Slot), B18 x3 M → fx_H G SH M s H locs → lv_has ls 4 [(0, .ref b), (1, .ref (G.2.2.2 + 0)), (2, .ref (G.2.2.2 + 159)), (3, .int x3)] → W p l e room_1 s m #[Value.ref b] below meth c H locs 200 21639 (lw_Z below #[Value.ref b] s) (F0 m 18 ls [])) : ∀ (x3 : Int32) (M : Mm) (H : Heap) (locs : List Loc) (ls : Array Slot), T_L_case13 B18 L xs x3 M → fx_H G SH M s H locs → lv_has ls 4 [(0, .ref b), (1, .ref (G.2.2.2 + 0)), (2, .ref (G.2.2.2 + 159)), (3, .int x3)] → W p l e room_1 s m #[Value.ref b] below meth c H locs 200 21639 (lw_Z below #[Value.ref b] s) (F0 m 649 ls []) := by
  obtain ⟨⟨hx, hb, hml, hown, hts⟩, hK, hQ⟩ := id X
  intro x3 M H locs ls hT h hl
  unfold T_L_case13 at hT
  refine lv_aload_n hx hb dL_law_649 rfl (lv_at hl 1 rfl) ?_
  refine lv_aload_n hx hb dL_law_650 rfl (lv_at hl 0 rfl) ?_
  refine lv_iload_n hx hb dL_law_651 rfl (lv_at hl 3 rfl) ?_
  refine lv_iconst (v := 1) hx hb dL_law_652 (by decide) ?_
  refine lv_iadd hx hb dL_law_653 ?_
  obtain ⟨hi136, hT⟩ := hT
  refine va_sld hx hb hX hbl hbA h.2 hi136 dL_law_654 ?_
  refine lv_aload_n hx hb dL_law_655 rfl (lv_at hl 0 rfl) ?_
  refine lv_iload_n hx hb dL_law_656 rfl (lv_at hl 3 rfl) ?_
  refine lv_iconst (v := 2) hx hb dL_law_657 (by decide) ?_
  refine lv_iadd hx hb dL_law_658 ?_
  obtain ⟨hi137, hT⟩ := hT
  refine va_sld hx hb hX hbl hbA h.2 hi137 dL_law_659 ?_
  refine fx_vi X h ym_X11_of yi_X11_of ys_X11_of (fx_s5 (List.mem_of_getElem? (i := 35) rfl) rfl) sh_0 rfl (c_X11_of l G hT) (As := [.int (xs ((x3 + (1 : Int32))).toNatClampNeg), .int (xs ((x3 + (2 : Int32))).toNatClampNeg)]) (rest := []) rfl rfl ⟨Nat.le_of_ble_eq_true rfl, Nat.le_of_ble_eq_true rfl⟩ ⟨Nat.le_of_ble_eq_true rfl, Nat.le_of_ble_eq_true rfl⟩ hl.1 (Nat.le_of_ble_eq_true rfl) dL_law_660 (fun r139 M138 H locs hT h => ?_)
  refine lv_aload_n hx hb dL_law_663 rfl (lv_at hl 2 rfl) ?_
  refine lv_aload_n hx hb dL_law_664 rfl (lv_at hl 0 rfl) ?_
  refine lv_iload_n hx hb dL_law_665 rfl (lv_at hl 3 rfl) ?_
  refine lv_iconst (v := 1) hx hb dL_law_666 (by decide) ?_
  refine lv_iadd hx hb dL_law_667 ?_
  obtain ⟨hi140, hT⟩ := hT
  refine va_sld hx hb hX hbl hbA h.2 hi140 dL_law_668 ?_
  refine lv_aload_n hx hb dL_law_669 rfl (lv_at hl 0 rfl) ?_
  refine lv_iload_n hx hb dL_law_670 rfl (lv_at hl 3 rfl) ?_
  refine lv_iconst (v := 2) hx hb dL_law_671 (by decide) ?_
  refine lv_iadd hx hb dL_law_672 ?_
  obtain ⟨hi141, hT⟩ := hT
  refine va_sld hx hb hX hbl hbA h.2 hi141 dL_law_673 ?_
  refine fx_vi X h ym_X12_of yi_X12_of ys_X12_of (fx_s8 (List.mem_of_getElem? (i := 139) rfl) rfl) sh_159 rfl (c_X12_of l G hT) (As := [.int (xs ((x3 + (1 : Int32))).toNatClampNeg), .int (xs ((x3 + (2 : Int32))).toNatClampNeg)]) (rest := [.int r139]) rfl rfl ⟨Nat.le_of_ble_eq_true rfl, Nat.le_of_ble_eq_true rfl⟩ ⟨Nat.le_of_ble_eq_true rfl, Nat.le_of_ble_eq_true rfl⟩ hl.1 (Nat.le_of_ble_eq_true rfl) dL_law_674 (fun r143 M142 H locs hT h => ?_)
  refine lv_icmp_eq (tgt := 1409) hx hb dL_law_677 (by decide) (fun hc144 => ?_) (fun hc144 => ?_)
  · have hT := hT.1 hc144
    exact w_L_law_1409 X hr hk hX hbl hbA hz0 hB18 x3 M142 _ _ ls hT h hl
  · have hT := hT.2 hc144
    refine lv_iconst (v := 0) hx hb dL_law_680 (by decide) ?_
    exact hT.elim
def T_L_case14 (B18 : Int32 → Mm → Prop) (L : Nat) (xs : Nat → Int32) (x3 : Int32) (M : Mm) : Prop := (vp_in (x3 + (1 : Int32)) L ∧ (vp_in (x3 + (2 : Int32)) L ∧ (T_X11_who (xs ((x3 + (1 : Int32))).toNatClampNeg) (xs ((x3 + (2 : Int32))).toNatClampNeg) M (fun r148 M147 => (vp_in (x3 + (1 : Int32)) L ∧ (vp_in (x3 + (2 : Int32)) L ∧ (T_X12_who (xs ((x3 + (1 : Int32))).toNatClampNeg) (xs ((x3 + (2 : Int32))).toNatClampNeg) M147 (fun r152 M151 => ((r148 = r152 → (T_L_law_1409 B18 x3 M151)) ∧ (¬ r148 = r152 → False))))))))))
set_option maxHeartbeats 4000000 in
set_option maxRecDepth 100000 in
theorem w_L_case14 {p : Program} {l : Launch} {e : Env} {s : State} {m : MethodId} {below : List Frame} {meth : Method} {c : Code} {G : fx_G} {b L : Nat} {xs : Nat → Int32} {B18 : Int32 → Mm → Prop} (X : fx_C G p s m c #[Value.ref b] code 4 R_law) (hr : meth.sig.returnType = ret) (hk : meth.locks = false) (hX : va_X b L xs s s.heap) (hbl : b < s.heap.size) (hbA : ¬ fx_A G b) (hz0 : G.2.2.2 = s.heap.size) (hB18 : ∀ (x3 : Int32) (M : Mm) (H : Heap) (locs : List Loc) (ls : Array Slot), B18 x3 M → fx_H G SH M s H locs → lv_has ls 4 [(0, .ref b), (1, .ref (G.2.2.2 + 0)), (2, .ref (G.2.2.2 + 159)), (3, .int x3)] → W p l e room_1 s m #[Value.ref b] below meth c H locs 200 21639 (lw_Z below #[Value.ref b] s) (F0 m 18 ls [])) : ∀ (x3 : Int32) (M : Mm) (H : Heap) (locs : List Loc) (ls : Array Slot), T_L_case14 B18 L xs x3 M → fx_H G SH M s H locs → lv_has ls 4 [(0, .ref b), (1, .ref (G.2.2.2 + 0)), (2, .ref (G.2.2.2 + 159)), (3, .int x3)] → W p l e room_1 s m #[Value.ref b] below meth c H locs 200 21639 (lw_Z below #[Value.ref b] s) (F0 m 682 ls []) := by
  obtain ⟨⟨hx, hb, hml, hown, hts⟩, hK, hQ⟩ := id X
  intro x3 M H locs ls hT h hl
  unfold T_L_case14 at hT
  refine lv_aload_n hx hb dL_law_682 rfl (lv_at hl 1 rfl) ?_
  refine lv_aload_n hx hb dL_law_683 rfl (lv_at hl 0 rfl) ?_
  refine lv_iload_n hx hb dL_law_684 rfl (lv_at hl 3 rfl) ?_
  refine lv_iconst (v := 1) hx hb dL_law_685 (by decide) ?_
  refine lv_iadd hx hb dL_law_686 ?_
  obtain ⟨hi145, hT⟩ := hT
  refine va_sld hx hb hX hbl hbA h.2 hi145 dL_law_687 ?_
  refine lv_aload_n hx hb dL_law_688 rfl (lv_at hl 0 rfl) ?_
  refine lv_iload_n hx hb dL_law_689 rfl (lv_at hl 3 rfl) ?_
  refine lv_iconst (v := 2) hx hb dL_law_690 (by decide) ?_
  refine lv_iadd hx hb dL_law_691 ?_
  obtain ⟨hi146, hT⟩ := hT
  refine va_sld hx hb hX hbl hbA h.2 hi146 dL_law_692 ?_
  refine fx_vi X h ym_X11_who yi_X11_who ys_X11_who (fx_s5 (List.mem_of_getElem? (i := 45) rfl) rfl) sh_0 rfl (c_X11_who l G hT) (As := [.int (xs ((x3 + (1 : Int32))).toNatClampNeg), .int (xs ((x3 + (2 : Int32))).toNatClampNeg)]) (rest := []) rfl rfl ⟨Nat.le_of_ble_eq_true rfl, Nat.le_of_ble_eq_true rfl⟩ ⟨Nat.le_of_ble_eq_true rfl, Nat.le_of_ble_eq_true rfl⟩ hl.1 (Nat.le_of_ble_eq_true rfl) dL_law_693 (fun r148 M147 H locs hT h => ?_)
  refine lv_aload_n hx hb dL_law_696 rfl (lv_at hl 2 rfl) ?_
  refine lv_aload_n hx hb dL_law_697 rfl (lv_at hl 0 rfl) ?_
  refine lv_iload_n hx hb dL_law_698 rfl (lv_at hl 3 rfl) ?_
  refine lv_iconst (v := 1) hx hb dL_law_699 (by decide) ?_
  refine lv_iadd hx hb dL_law_700 ?_
  obtain ⟨hi149, hT⟩ := hT
  refine va_sld hx hb hX hbl hbA h.2 hi149 dL_law_701 ?_
  refine lv_aload_n hx hb dL_law_702 rfl (lv_at hl 0 rfl) ?_
  refine lv_iload_n hx hb dL_law_703 rfl (lv_at hl 3 rfl) ?_
  refine lv_iconst (v := 2) hx hb dL_law_704 (by decide) ?_
  refine lv_iadd hx hb dL_law_705 ?_
  obtain ⟨hi150, hT⟩ := hT
  refine va_sld hx hb hX hbl hbA h.2 hi150 dL_law_706 ?_
  refine fx_vi X h ym_X12_who yi_X12_who ys_X12_who (fx_s8 (List.mem_of_getElem? (i := 143) rfl) rfl) sh_159 rfl (c_X12_who l G hT) (As := [.int (xs ((x3 + (1 : Int32))).toNatClampNeg), .int (xs ((x3 + (2 : Int32))).toNatClampNeg)]) (rest := [.int r148]) rfl rfl ⟨Nat.le_of_ble_eq_true rfl, Nat.le_of_ble_eq_true rfl⟩ ⟨Nat.le_of_ble_eq_true rfl, Nat.le_of_ble_eq_true rfl⟩ hl.1 (Nat.le_of_ble_eq_true rfl) dL_law_707 (fun r152 M151 H locs hT h => ?_)
  refine lv_icmp_eq (tgt := 1409) hx hb dL_law_710 (by decide) (fun hc153 => ?_) (fun hc153 => ?_)
  · have hT := hT.1 hc153
    exact w_L_law_1409 X hr hk hX hbl hbA hz0 hB18 x3 M151 _ _ ls hT h hl
  · have hT := hT.2 hc153
    refine lv_iconst (v := 0) hx hb dL_law_713 (by decide) ?_
    exact hT.elim
def T_L_case15 (B18 : Int32 → Mm → Prop) (L : Nat) (xs : Nat → Int32) (x3 : Int32) (M : Mm) : Prop := (vp_in (x3 + (1 : Int32)) L ∧ (vp_in (x3 + (2 : Int32)) L ∧ (T_X11_book (xs ((x3 + (1 : Int32))).toNatClampNeg) (xs ((x3 + (2 : Int32))).toNatClampNeg) M (fun r157 M156 => (vp_in (x3 + (1 : Int32)) L ∧ (vp_in (x3 + (2 : Int32)) L ∧ (T_X12_book (xs ((x3 + (1 : Int32))).toNatClampNeg) (xs ((x3 + (2 : Int32))).toNatClampNeg) M156 (fun r161 M160 => ((r157 = r161 → (T_L_law_1409 B18 x3 M160)) ∧ (¬ r157 = r161 → False))))))))))
set_option maxHeartbeats 4000000 in
set_option maxRecDepth 100000 in
theorem w_L_case15 {p : Program} {l : Launch} {e : Env} {s : State} {m : MethodId} {below : List Frame} {meth : Method} {c : Code} {G : fx_G} {b L : Nat} {xs : Nat → Int32} {B18 : Int32 → Mm → Prop} (X : fx_C G p s m c #[Value.ref b] code 4 R_law) (hr : meth.sig.returnType = ret) (hk : meth.locks = false) (hX : va_X b L xs s s.heap) (hbl : b < s.heap.size) (hbA : ¬ fx_A G b) (hz0 : G.2.2.2 = s.heap.size) (hB18 : ∀ (x3 : Int32) (M : Mm) (H : Heap) (locs : List Loc) (ls : Array Slot), B18 x3 M → fx_H G SH M s H locs → lv_has ls 4 [(0, .ref b), (1, .ref (G.2.2.2 + 0)), (2, .ref (G.2.2.2 + 159)), (3, .int x3)] → W p l e room_1 s m #[Value.ref b] below meth c H locs 200 21639 (lw_Z below #[Value.ref b] s) (F0 m 18 ls [])) : ∀ (x3 : Int32) (M : Mm) (H : Heap) (locs : List Loc) (ls : Array Slot), T_L_case15 B18 L xs x3 M → fx_H G SH M s H locs → lv_has ls 4 [(0, .ref b), (1, .ref (G.2.2.2 + 0)), (2, .ref (G.2.2.2 + 159)), (3, .int x3)] → W p l e room_1 s m #[Value.ref b] below meth c H locs 200 21639 (lw_Z below #[Value.ref b] s) (F0 m 715 ls []) := by
  obtain ⟨⟨hx, hb, hml, hown, hts⟩, hK, hQ⟩ := id X
  intro x3 M H locs ls hT h hl
  unfold T_L_case15 at hT
  refine lv_aload_n hx hb dL_law_715 rfl (lv_at hl 1 rfl) ?_
  refine lv_aload_n hx hb dL_law_716 rfl (lv_at hl 0 rfl) ?_
  refine lv_iload_n hx hb dL_law_717 rfl (lv_at hl 3 rfl) ?_
  refine lv_iconst (v := 1) hx hb dL_law_718 (by decide) ?_
  refine lv_iadd hx hb dL_law_719 ?_
  obtain ⟨hi154, hT⟩ := hT
  refine va_sld hx hb hX hbl hbA h.2 hi154 dL_law_720 ?_
  refine lv_aload_n hx hb dL_law_721 rfl (lv_at hl 0 rfl) ?_
  refine lv_iload_n hx hb dL_law_722 rfl (lv_at hl 3 rfl) ?_
  refine lv_iconst (v := 2) hx hb dL_law_723 (by decide) ?_
  refine lv_iadd hx hb dL_law_724 ?_
  obtain ⟨hi155, hT⟩ := hT
  refine va_sld hx hb hX hbl hbA h.2 hi155 dL_law_725 ?_
  refine fx_vi X h ym_X11_book yi_X11_book ys_X11_book (fx_s5 (List.mem_of_getElem? (i := 49) rfl) rfl) sh_0 rfl (c_X11_book l G hT) (As := [.int (xs ((x3 + (1 : Int32))).toNatClampNeg), .int (xs ((x3 + (2 : Int32))).toNatClampNeg)]) (rest := []) rfl rfl ⟨Nat.le_of_ble_eq_true rfl, Nat.le_of_ble_eq_true rfl⟩ ⟨Nat.le_of_ble_eq_true rfl, Nat.le_of_ble_eq_true rfl⟩ hl.1 (Nat.le_of_ble_eq_true rfl) dL_law_726 (fun r157 M156 H locs hT h => ?_)
  refine lv_aload_n hx hb dL_law_729 rfl (lv_at hl 2 rfl) ?_
  refine lv_aload_n hx hb dL_law_730 rfl (lv_at hl 0 rfl) ?_
  refine lv_iload_n hx hb dL_law_731 rfl (lv_at hl 3 rfl) ?_
  refine lv_iconst (v := 1) hx hb dL_law_732 (by decide) ?_
  refine lv_iadd hx hb dL_law_733 ?_
  obtain ⟨hi158, hT⟩ := hT
  refine va_sld hx hb hX hbl hbA h.2 hi158 dL_law_734 ?_
  refine lv_aload_n hx hb dL_law_735 rfl (lv_at hl 0 rfl) ?_
  refine lv_iload_n hx hb dL_law_736 rfl (lv_at hl 3 rfl) ?_
  refine lv_iconst (v := 2) hx hb dL_law_737 (by decide) ?_
  refine lv_iadd hx hb dL_law_738 ?_
  obtain ⟨hi159, hT⟩ := hT
  refine va_sld hx hb hX hbl hbA h.2 hi159 dL_law_739 ?_
  refine fx_vi X h ym_X12_book yi_X12_book ys_X12_book (fx_s8 (List.mem_of_getElem? (i := 147) rfl) rfl) sh_159 rfl (c_X12_book l G hT) (As := [.int (xs ((x3 + (1 : Int32))).toNatClampNeg), .int (xs ((x3 + (2 : Int32))).toNatClampNeg)]) (rest := [.int r157]) rfl rfl ⟨Nat.le_of_ble_eq_true rfl, Nat.le_of_ble_eq_true rfl⟩ ⟨Nat.le_of_ble_eq_true rfl, Nat.le_of_ble_eq_true rfl⟩ hl.1 (Nat.le_of_ble_eq_true rfl) dL_law_740 (fun r161 M160 H locs hT h => ?_)
  refine lv_icmp_eq (tgt := 1409) hx hb dL_law_743 (by decide) (fun hc162 => ?_) (fun hc162 => ?_)
  · have hT := hT.1 hc162
    exact w_L_law_1409 X hr hk hX hbl hbA hz0 hB18 x3 M160 _ _ ls hT h hl
  · have hT := hT.2 hc162
    refine lv_iconst (v := 0) hx hb dL_law_746 (by decide) ?_
    exact hT.elim
def T_L_case16 (B18 : Int32 → Mm → Prop) (L : Nat) (xs : Nat → Int32) (x3 : Int32) (M : Mm) : Prop := (vp_in (x3 + (1 : Int32)) L ∧ (vp_in (x3 + (2 : Int32)) L ∧ (T_X11_would (xs ((x3 + (1 : Int32))).toNatClampNeg) (xs ((x3 + (2 : Int32))).toNatClampNeg) M (fun r166 M165 => (vp_in (x3 + (1 : Int32)) L ∧ (vp_in (x3 + (2 : Int32)) L ∧ (T_X12_would (xs ((x3 + (1 : Int32))).toNatClampNeg) (xs ((x3 + (2 : Int32))).toNatClampNeg) M165 (fun r170 M169 => ((r166 = r170 → (T_L_law_1409 B18 x3 M169)) ∧ (¬ r166 = r170 → False))))))))))
set_option maxHeartbeats 4000000 in
set_option maxRecDepth 100000 in
theorem w_L_case16 {p : Program} {l : Launch} {e : Env} {s : State} {m : MethodId} {below : List Frame} {meth : Method} {c : Code} {G : fx_G} {b L : Nat} {xs : Nat → Int32} {B18 : Int32 → Mm → Prop} (X : fx_C G p s m c #[Value.ref b] code 4 R_law) (hr : meth.sig.returnType = ret) (hk : meth.locks = false) (hX : va_X b L xs s s.heap) (hbl : b < s.heap.size) (hbA : ¬ fx_A G b) (hz0 : G.2.2.2 = s.heap.size) (hB18 : ∀ (x3 : Int32) (M : Mm) (H : Heap) (locs : List Loc) (ls : Array Slot), B18 x3 M → fx_H G SH M s H locs → lv_has ls 4 [(0, .ref b), (1, .ref (G.2.2.2 + 0)), (2, .ref (G.2.2.2 + 159)), (3, .int x3)] → W p l e room_1 s m #[Value.ref b] below meth c H locs 200 21639 (lw_Z below #[Value.ref b] s) (F0 m 18 ls [])) : ∀ (x3 : Int32) (M : Mm) (H : Heap) (locs : List Loc) (ls : Array Slot), T_L_case16 B18 L xs x3 M → fx_H G SH M s H locs → lv_has ls 4 [(0, .ref b), (1, .ref (G.2.2.2 + 0)), (2, .ref (G.2.2.2 + 159)), (3, .int x3)] → W p l e room_1 s m #[Value.ref b] below meth c H locs 200 21639 (lw_Z below #[Value.ref b] s) (F0 m 748 ls []) := by
  obtain ⟨⟨hx, hb, hml, hown, hts⟩, hK, hQ⟩ := id X
  intro x3 M H locs ls hT h hl
  unfold T_L_case16 at hT
  refine lv_aload_n hx hb dL_law_748 rfl (lv_at hl 1 rfl) ?_
  refine lv_aload_n hx hb dL_law_749 rfl (lv_at hl 0 rfl) ?_
  refine lv_iload_n hx hb dL_law_750 rfl (lv_at hl 3 rfl) ?_
  refine lv_iconst (v := 1) hx hb dL_law_751 (by decide) ?_
  refine lv_iadd hx hb dL_law_752 ?_
  obtain ⟨hi163, hT⟩ := hT
  refine va_sld hx hb hX hbl hbA h.2 hi163 dL_law_753 ?_
  refine lv_aload_n hx hb dL_law_754 rfl (lv_at hl 0 rfl) ?_
  refine lv_iload_n hx hb dL_law_755 rfl (lv_at hl 3 rfl) ?_
  refine lv_iconst (v := 2) hx hb dL_law_756 (by decide) ?_
  refine lv_iadd hx hb dL_law_757 ?_
  obtain ⟨hi164, hT⟩ := hT
  refine va_sld hx hb hX hbl hbA h.2 hi164 dL_law_758 ?_
  refine fx_vi X h ym_X11_would yi_X11_would ys_X11_would (fx_s5 (List.mem_of_getElem? (i := 53) rfl) rfl) sh_0 rfl (c_X11_would l G hT) (As := [.int (xs ((x3 + (1 : Int32))).toNatClampNeg), .int (xs ((x3 + (2 : Int32))).toNatClampNeg)]) (rest := []) rfl rfl ⟨Nat.le_of_ble_eq_true rfl, Nat.le_of_ble_eq_true rfl⟩ ⟨Nat.le_of_ble_eq_true rfl, Nat.le_of_ble_eq_true rfl⟩ hl.1 (Nat.le_of_ble_eq_true rfl) dL_law_759 (fun r166 M165 H locs hT h => ?_)
  refine lv_aload_n hx hb dL_law_762 rfl (lv_at hl 2 rfl) ?_
  refine lv_aload_n hx hb dL_law_763 rfl (lv_at hl 0 rfl) ?_
  refine lv_iload_n hx hb dL_law_764 rfl (lv_at hl 3 rfl) ?_
  refine lv_iconst (v := 1) hx hb dL_law_765 (by decide) ?_
  refine lv_iadd hx hb dL_law_766 ?_
  obtain ⟨hi167, hT⟩ := hT
  refine va_sld hx hb hX hbl hbA h.2 hi167 dL_law_767 ?_
  refine lv_aload_n hx hb dL_law_768 rfl (lv_at hl 0 rfl) ?_
  refine lv_iload_n hx hb dL_law_769 rfl (lv_at hl 3 rfl) ?_
  refine lv_iconst (v := 2) hx hb dL_law_770 (by decide) ?_
  refine lv_iadd hx hb dL_law_771 ?_
  obtain ⟨hi168, hT⟩ := hT
  refine va_sld hx hb hX hbl hbA h.2 hi168 dL_law_772 ?_
  refine fx_vi X h ym_X12_would yi_X12_would ys_X12_would (fx_s8 (List.mem_of_getElem? (i := 151) rfl) rfl) sh_159 rfl (c_X12_would l G hT) (As := [.int (xs ((x3 + (1 : Int32))).toNatClampNeg), .int (xs ((x3 + (2 : Int32))).toNatClampNeg)]) (rest := [.int r166]) rfl rfl ⟨Nat.le_of_ble_eq_true rfl, Nat.le_of_ble_eq_true rfl⟩ ⟨Nat.le_of_ble_eq_true rfl, Nat.le_of_ble_eq_true rfl⟩ hl.1 (Nat.le_of_ble_eq_true rfl) dL_law_773 (fun r170 M169 H locs hT h => ?_)
  refine lv_icmp_eq (tgt := 1409) hx hb dL_law_776 (by decide) (fun hc171 => ?_) (fun hc171 => ?_)
  · have hT := hT.1 hc171
    exact w_L_law_1409 X hr hk hX hbl hbA hz0 hB18 x3 M169 _ _ ls hT h hl
  · have hT := hT.2 hc171
    refine lv_iconst (v := 0) hx hb dL_law_779 (by decide) ?_
    exact hT.elim
def T_L_case17 (B18 : Int32 → Mm → Prop) (L : Nat) (xs : Nat → Int32) (x3 : Int32) (M : Mm) : Prop := (vp_in (x3 + (1 : Int32)) L ∧ (vp_in (x3 + (2 : Int32)) L ∧ (T_X11_goes (xs ((x3 + (1 : Int32))).toNatClampNeg) (xs ((x3 + (2 : Int32))).toNatClampNeg) M (fun r175 M174 => (vp_in (x3 + (1 : Int32)) L ∧ (vp_in (x3 + (2 : Int32)) L ∧ (T_X12_goes (xs ((x3 + (1 : Int32))).toNatClampNeg) (xs ((x3 + (2 : Int32))).toNatClampNeg) M174 (fun r179 M178 => ((r175 = r179 → (T_L_law_1409 B18 x3 M178)) ∧ (¬ r175 = r179 → False))))))))))
set_option maxHeartbeats 4000000 in
set_option maxRecDepth 100000 in
theorem w_L_case17 {p : Program} {l : Launch} {e : Env} {s : State} {m : MethodId} {below : List Frame} {meth : Method} {c : Code} {G : fx_G} {b L : Nat} {xs : Nat → Int32} {B18 : Int32 → Mm → Prop} (X : fx_C G p s m c #[Value.ref b] code 4 R_law) (hr : meth.sig.returnType = ret) (hk : meth.locks = false) (hX : va_X b L xs s s.heap) (hbl : b < s.heap.size) (hbA : ¬ fx_A G b) (hz0 : G.2.2.2 = s.heap.size) (hB18 : ∀ (x3 : Int32) (M : Mm) (H : Heap) (locs : List Loc) (ls : Array Slot), B18 x3 M → fx_H G SH M s H locs → lv_has ls 4 [(0, .ref b), (1, .ref (G.2.2.2 + 0)), (2, .ref (G.2.2.2 + 159)), (3, .int x3)] → W p l e room_1 s m #[Value.ref b] below meth c H locs 200 21639 (lw_Z below #[Value.ref b] s) (F0 m 18 ls [])) : ∀ (x3 : Int32) (M : Mm) (H : Heap) (locs : List Loc) (ls : Array Slot), T_L_case17 B18 L xs x3 M → fx_H G SH M s H locs → lv_has ls 4 [(0, .ref b), (1, .ref (G.2.2.2 + 0)), (2, .ref (G.2.2.2 + 159)), (3, .int x3)] → W p l e room_1 s m #[Value.ref b] below meth c H locs 200 21639 (lw_Z below #[Value.ref b] s) (F0 m 781 ls []) := by
  obtain ⟨⟨hx, hb, hml, hown, hts⟩, hK, hQ⟩ := id X
  intro x3 M H locs ls hT h hl
  unfold T_L_case17 at hT
  refine lv_aload_n hx hb dL_law_781 rfl (lv_at hl 1 rfl) ?_
  refine lv_aload_n hx hb dL_law_782 rfl (lv_at hl 0 rfl) ?_
  refine lv_iload_n hx hb dL_law_783 rfl (lv_at hl 3 rfl) ?_
  refine lv_iconst (v := 1) hx hb dL_law_784 (by decide) ?_
  refine lv_iadd hx hb dL_law_785 ?_
  obtain ⟨hi172, hT⟩ := hT
  refine va_sld hx hb hX hbl hbA h.2 hi172 dL_law_786 ?_
  refine lv_aload_n hx hb dL_law_787 rfl (lv_at hl 0 rfl) ?_
  refine lv_iload_n hx hb dL_law_788 rfl (lv_at hl 3 rfl) ?_
  refine lv_iconst (v := 2) hx hb dL_law_789 (by decide) ?_
  refine lv_iadd hx hb dL_law_790 ?_
  obtain ⟨hi173, hT⟩ := hT
  refine va_sld hx hb hX hbl hbA h.2 hi173 dL_law_791 ?_
  refine fx_vi X h ym_X11_goes yi_X11_goes ys_X11_goes (fx_s5 (List.mem_of_getElem? (i := 59) rfl) rfl) sh_0 rfl (c_X11_goes l G hT) (As := [.int (xs ((x3 + (1 : Int32))).toNatClampNeg), .int (xs ((x3 + (2 : Int32))).toNatClampNeg)]) (rest := []) rfl rfl ⟨Nat.le_of_ble_eq_true rfl, Nat.le_of_ble_eq_true rfl⟩ ⟨Nat.le_of_ble_eq_true rfl, Nat.le_of_ble_eq_true rfl⟩ hl.1 (Nat.le_of_ble_eq_true rfl) dL_law_792 (fun r175 M174 H locs hT h => ?_)
  refine lv_aload_n hx hb dL_law_795 rfl (lv_at hl 2 rfl) ?_
  refine lv_aload_n hx hb dL_law_796 rfl (lv_at hl 0 rfl) ?_
  refine lv_iload_n hx hb dL_law_797 rfl (lv_at hl 3 rfl) ?_
  refine lv_iconst (v := 1) hx hb dL_law_798 (by decide) ?_
  refine lv_iadd hx hb dL_law_799 ?_
  obtain ⟨hi176, hT⟩ := hT
  refine va_sld hx hb hX hbl hbA h.2 hi176 dL_law_800 ?_
  refine lv_aload_n hx hb dL_law_801 rfl (lv_at hl 0 rfl) ?_
  refine lv_iload_n hx hb dL_law_802 rfl (lv_at hl 3 rfl) ?_
  refine lv_iconst (v := 2) hx hb dL_law_803 (by decide) ?_
  refine lv_iadd hx hb dL_law_804 ?_
  obtain ⟨hi177, hT⟩ := hT
  refine va_sld hx hb hX hbl hbA h.2 hi177 dL_law_805 ?_
  refine fx_vi X h ym_X12_goes yi_X12_goes ys_X12_goes (fx_s8 (List.mem_of_getElem? (i := 163) rfl) rfl) sh_159 rfl (c_X12_goes l G hT) (As := [.int (xs ((x3 + (1 : Int32))).toNatClampNeg), .int (xs ((x3 + (2 : Int32))).toNatClampNeg)]) (rest := [.int r175]) rfl rfl ⟨Nat.le_of_ble_eq_true rfl, Nat.le_of_ble_eq_true rfl⟩ ⟨Nat.le_of_ble_eq_true rfl, Nat.le_of_ble_eq_true rfl⟩ hl.1 (Nat.le_of_ble_eq_true rfl) dL_law_806 (fun r179 M178 H locs hT h => ?_)
  refine lv_icmp_eq (tgt := 1409) hx hb dL_law_809 (by decide) (fun hc180 => ?_) (fun hc180 => ?_)
  · have hT := hT.1 hc180
    exact w_L_law_1409 X hr hk hX hbl hbA hz0 hB18 x3 M178 _ _ ls hT h hl
  · have hT := hT.2 hc180
    refine lv_iconst (v := 0) hx hb dL_law_812 (by decide) ?_
    exact hT.elim
def T_L_case18 (B18 : Int32 → Mm → Prop) (L : Nat) (xs : Nat → Int32) (x3 : Int32) (M : Mm) : Prop := (vp_in (x3 + (1 : Int32)) L ∧ (vp_in (x3 + (2 : Int32)) L ∧ (T_X11_weighs (xs ((x3 + (1 : Int32))).toNatClampNeg) (xs ((x3 + (2 : Int32))).toNatClampNeg) M (fun r184 M183 => (vp_in (x3 + (1 : Int32)) L ∧ (vp_in (x3 + (2 : Int32)) L ∧ (T_X12_weighs (xs ((x3 + (1 : Int32))).toNatClampNeg) (xs ((x3 + (2 : Int32))).toNatClampNeg) M183 (fun r188 M187 => ((r184 = r188 → (T_L_law_1409 B18 x3 M187)) ∧ (¬ r184 = r188 → False))))))))))
set_option maxHeartbeats 4000000 in
set_option maxRecDepth 100000 in
theorem w_L_case18 {p : Program} {l : Launch} {e : Env} {s : State} {m : MethodId} {below : List Frame} {meth : Method} {c : Code} {G : fx_G} {b L : Nat} {xs : Nat → Int32} {B18 : Int32 → Mm → Prop} (X : fx_C G p s m c #[Value.ref b] code 4 R_law) (hr : meth.sig.returnType = ret) (hk : meth.locks = false) (hX : va_X b L xs s s.heap) (hbl : b < s.heap.size) (hbA : ¬ fx_A G b) (hz0 : G.2.2.2 = s.heap.size) (hB18 : ∀ (x3 : Int32) (M : Mm) (H : Heap) (locs : List Loc) (ls : Array Slot), B18 x3 M → fx_H G SH M s H locs → lv_has ls 4 [(0, .ref b), (1, .ref (G.2.2.2 + 0)), (2, .ref (G.2.2.2 + 159)), (3, .int x3)] → W p l e room_1 s m #[Value.ref b] below meth c H locs 200 21639 (lw_Z below #[Value.ref b] s) (F0 m 18 ls [])) : ∀ (x3 : Int32) (M : Mm) (H : Heap) (locs : List Loc) (ls : Array Slot), T_L_case18 B18 L xs x3 M → fx_H G SH M s H locs → lv_has ls 4 [(0, .ref b), (1, .ref (G.2.2.2 + 0)), (2, .ref (G.2.2.2 + 159)), (3, .int x3)] → W p l e room_1 s m #[Value.ref b] below meth c H locs 200 21639 (lw_Z below #[Value.ref b] s) (F0 m 814 ls []) := by
  obtain ⟨⟨hx, hb, hml, hown, hts⟩, hK, hQ⟩ := id X
  intro x3 M H locs ls hT h hl
  unfold T_L_case18 at hT
  refine lv_aload_n hx hb dL_law_814 rfl (lv_at hl 1 rfl) ?_
  refine lv_aload_n hx hb dL_law_815 rfl (lv_at hl 0 rfl) ?_
  refine lv_iload_n hx hb dL_law_816 rfl (lv_at hl 3 rfl) ?_
  refine lv_iconst (v := 1) hx hb dL_law_817 (by decide) ?_
  refine lv_iadd hx hb dL_law_818 ?_
  obtain ⟨hi181, hT⟩ := hT
  refine va_sld hx hb hX hbl hbA h.2 hi181 dL_law_819 ?_
  refine lv_aload_n hx hb dL_law_820 rfl (lv_at hl 0 rfl) ?_
  refine lv_iload_n hx hb dL_law_821 rfl (lv_at hl 3 rfl) ?_
  refine lv_iconst (v := 2) hx hb dL_law_822 (by decide) ?_
  refine lv_iadd hx hb dL_law_823 ?_
  obtain ⟨hi182, hT⟩ := hT
  refine va_sld hx hb hX hbl hbA h.2 hi182 dL_law_824 ?_
  refine fx_vi X h ym_X11_weighs yi_X11_weighs ys_X11_weighs (fx_s5 (List.mem_of_getElem? (i := 73) rfl) rfl) sh_0 rfl (c_X11_weighs l G hT) (As := [.int (xs ((x3 + (1 : Int32))).toNatClampNeg), .int (xs ((x3 + (2 : Int32))).toNatClampNeg)]) (rest := []) rfl rfl ⟨Nat.le_of_ble_eq_true rfl, Nat.le_of_ble_eq_true rfl⟩ ⟨Nat.le_of_ble_eq_true rfl, Nat.le_of_ble_eq_true rfl⟩ hl.1 (Nat.le_of_ble_eq_true rfl) dL_law_825 (fun r184 M183 H locs hT h => ?_)
  refine lv_aload_n hx hb dL_law_828 rfl (lv_at hl 2 rfl) ?_
  refine lv_aload_n hx hb dL_law_829 rfl (lv_at hl 0 rfl) ?_
  refine lv_iload_n hx hb dL_law_830 rfl (lv_at hl 3 rfl) ?_
  refine lv_iconst (v := 1) hx hb dL_law_831 (by decide) ?_
  refine lv_iadd hx hb dL_law_832 ?_
  obtain ⟨hi185, hT⟩ := hT
  refine va_sld hx hb hX hbl hbA h.2 hi185 dL_law_833 ?_
  refine lv_aload_n hx hb dL_law_834 rfl (lv_at hl 0 rfl) ?_
  refine lv_iload_n hx hb dL_law_835 rfl (lv_at hl 3 rfl) ?_
  refine lv_iconst (v := 2) hx hb dL_law_836 (by decide) ?_
  refine lv_iadd hx hb dL_law_837 ?_
  obtain ⟨hi186, hT⟩ := hT
  refine va_sld hx hb hX hbl hbA h.2 hi186 dL_law_838 ?_
  refine fx_vi X h ym_X12_weighs yi_X12_weighs ys_X12_weighs (fx_s8 (List.mem_of_getElem? (i := 175) rfl) rfl) sh_159 rfl (c_X12_weighs l G hT) (As := [.int (xs ((x3 + (1 : Int32))).toNatClampNeg), .int (xs ((x3 + (2 : Int32))).toNatClampNeg)]) (rest := [.int r184]) rfl rfl ⟨Nat.le_of_ble_eq_true rfl, Nat.le_of_ble_eq_true rfl⟩ ⟨Nat.le_of_ble_eq_true rfl, Nat.le_of_ble_eq_true rfl⟩ hl.1 (Nat.le_of_ble_eq_true rfl) dL_law_839 (fun r188 M187 H locs hT h => ?_)
  refine lv_icmp_eq (tgt := 1409) hx hb dL_law_842 (by decide) (fun hc189 => ?_) (fun hc189 => ?_)
  · have hT := hT.1 hc189
    exact w_L_law_1409 X hr hk hX hbl hbA hz0 hB18 x3 M187 _ _ ls hT h hl
  · have hT := hT.2 hc189
    refine lv_iconst (v := 0) hx hb dL_law_845 (by decide) ?_
    exact hT.elim
def T_L_case19 (B18 : Int32 → Mm → Prop) (L : Nat) (xs : Nat → Int32) (x3 : Int32) (M : Mm) : Prop := (vp_in (x3 + (1 : Int32)) L ∧ (vp_in (x3 + (2 : Int32)) L ∧ (T_X11_inside (xs ((x3 + (1 : Int32))).toNatClampNeg) (xs ((x3 + (2 : Int32))).toNatClampNeg) M (fun r193 M192 => (vp_in (x3 + (1 : Int32)) L ∧ (vp_in (x3 + (2 : Int32)) L ∧ (T_X12_inside (xs ((x3 + (1 : Int32))).toNatClampNeg) (xs ((x3 + (2 : Int32))).toNatClampNeg) M192 (fun r197 M196 => ((r193 = r197 → (T_L_law_1409 B18 x3 M196)) ∧ (¬ r193 = r197 → False))))))))))
set_option maxHeartbeats 4000000 in
set_option maxRecDepth 100000 in
theorem w_L_case19 {p : Program} {l : Launch} {e : Env} {s : State} {m : MethodId} {below : List Frame} {meth : Method} {c : Code} {G : fx_G} {b L : Nat} {xs : Nat → Int32} {B18 : Int32 → Mm → Prop} (X : fx_C G p s m c #[Value.ref b] code 4 R_law) (hr : meth.sig.returnType = ret) (hk : meth.locks = false) (hX : va_X b L xs s s.heap) (hbl : b < s.heap.size) (hbA : ¬ fx_A G b) (hz0 : G.2.2.2 = s.heap.size) (hB18 : ∀ (x3 : Int32) (M : Mm) (H : Heap) (locs : List Loc) (ls : Array Slot), B18 x3 M → fx_H G SH M s H locs → lv_has ls 4 [(0, .ref b), (1, .ref (G.2.2.2 + 0)), (2, .ref (G.2.2.2 + 159)), (3, .int x3)] → W p l e room_1 s m #[Value.ref b] below meth c H locs 200 21639 (lw_Z below #[Value.ref b] s) (F0 m 18 ls [])) : ∀ (x3 : Int32) (M : Mm) (H : Heap) (locs : List Loc) (ls : Array Slot), T_L_case19 B18 L xs x3 M → fx_H G SH M s H locs → lv_has ls 4 [(0, .ref b), (1, .ref (G.2.2.2 + 0)), (2, .ref (G.2.2.2 + 159)), (3, .int x3)] → W p l e room_1 s m #[Value.ref b] below meth c H locs 200 21639 (lw_Z below #[Value.ref b] s) (F0 m 847 ls []) := by
  obtain ⟨⟨hx, hb, hml, hown, hts⟩, hK, hQ⟩ := id X
  intro x3 M H locs ls hT h hl
  unfold T_L_case19 at hT
  refine lv_aload_n hx hb dL_law_847 rfl (lv_at hl 1 rfl) ?_
  refine lv_aload_n hx hb dL_law_848 rfl (lv_at hl 0 rfl) ?_
  refine lv_iload_n hx hb dL_law_849 rfl (lv_at hl 3 rfl) ?_
  refine lv_iconst (v := 1) hx hb dL_law_850 (by decide) ?_
  refine lv_iadd hx hb dL_law_851 ?_
  obtain ⟨hi190, hT⟩ := hT
  refine va_sld hx hb hX hbl hbA h.2 hi190 dL_law_852 ?_
  refine lv_aload_n hx hb dL_law_853 rfl (lv_at hl 0 rfl) ?_
  refine lv_iload_n hx hb dL_law_854 rfl (lv_at hl 3 rfl) ?_
  refine lv_iconst (v := 2) hx hb dL_law_855 (by decide) ?_
  refine lv_iadd hx hb dL_law_856 ?_
  obtain ⟨hi191, hT⟩ := hT
  refine va_sld hx hb hX hbl hbA h.2 hi191 dL_law_857 ?_
  refine fx_vi X h ym_X11_inside yi_X11_inside ys_X11_inside (fx_s5 (List.mem_of_getElem? (i := 77) rfl) rfl) sh_0 rfl (c_X11_inside l G hT) (As := [.int (xs ((x3 + (1 : Int32))).toNatClampNeg), .int (xs ((x3 + (2 : Int32))).toNatClampNeg)]) (rest := []) rfl rfl ⟨Nat.le_of_ble_eq_true rfl, Nat.le_of_ble_eq_true rfl⟩ ⟨Nat.le_of_ble_eq_true rfl, Nat.le_of_ble_eq_true rfl⟩ hl.1 (Nat.le_of_ble_eq_true rfl) dL_law_858 (fun r193 M192 H locs hT h => ?_)
  refine lv_aload_n hx hb dL_law_861 rfl (lv_at hl 2 rfl) ?_
  refine lv_aload_n hx hb dL_law_862 rfl (lv_at hl 0 rfl) ?_
  refine lv_iload_n hx hb dL_law_863 rfl (lv_at hl 3 rfl) ?_
  refine lv_iconst (v := 1) hx hb dL_law_864 (by decide) ?_
  refine lv_iadd hx hb dL_law_865 ?_
  obtain ⟨hi194, hT⟩ := hT
  refine va_sld hx hb hX hbl hbA h.2 hi194 dL_law_866 ?_
  refine lv_aload_n hx hb dL_law_867 rfl (lv_at hl 0 rfl) ?_
  refine lv_iload_n hx hb dL_law_868 rfl (lv_at hl 3 rfl) ?_
  refine lv_iconst (v := 2) hx hb dL_law_869 (by decide) ?_
  refine lv_iadd hx hb dL_law_870 ?_
  obtain ⟨hi195, hT⟩ := hT
  refine va_sld hx hb hX hbl hbA h.2 hi195 dL_law_871 ?_
  refine fx_vi X h ym_X12_inside yi_X12_inside ys_X12_inside (fx_s8 (List.mem_of_getElem? (i := 179) rfl) rfl) sh_159 rfl (c_X12_inside l G hT) (As := [.int (xs ((x3 + (1 : Int32))).toNatClampNeg), .int (xs ((x3 + (2 : Int32))).toNatClampNeg)]) (rest := [.int r193]) rfl rfl ⟨Nat.le_of_ble_eq_true rfl, Nat.le_of_ble_eq_true rfl⟩ ⟨Nat.le_of_ble_eq_true rfl, Nat.le_of_ble_eq_true rfl⟩ hl.1 (Nat.le_of_ble_eq_true rfl) dL_law_872 (fun r197 M196 H locs hT h => ?_)
  refine lv_icmp_eq (tgt := 1409) hx hb dL_law_875 (by decide) (fun hc198 => ?_) (fun hc198 => ?_)
  · have hT := hT.1 hc198
    exact w_L_law_1409 X hr hk hX hbl hbA hz0 hB18 x3 M196 _ _ ls hT h hl
  · have hT := hT.2 hc198
    refine lv_iconst (v := 0) hx hb dL_law_878 (by decide) ?_
    exact hT.elim
def T_L_case20 (B18 : Int32 → Mm → Prop) (L : Nat) (xs : Nat → Int32) (x3 : Int32) (M : Mm) : Prop := (vp_in (x3 + (1 : Int32)) L ∧ (T_X11_length (xs ((x3 + (1 : Int32))).toNatClampNeg) M (fun r201 M200 => (vp_in (x3 + (1 : Int32)) L ∧ (T_X12_length (xs ((x3 + (1 : Int32))).toNatClampNeg) M200 (fun r204 M203 => ((r201 = r204 → (T_L_law_1409 B18 x3 M203)) ∧ (¬ r201 = r204 → False))))))))
set_option maxHeartbeats 4000000 in
set_option maxRecDepth 100000 in
theorem w_L_case20 {p : Program} {l : Launch} {e : Env} {s : State} {m : MethodId} {below : List Frame} {meth : Method} {c : Code} {G : fx_G} {b L : Nat} {xs : Nat → Int32} {B18 : Int32 → Mm → Prop} (X : fx_C G p s m c #[Value.ref b] code 4 R_law) (hr : meth.sig.returnType = ret) (hk : meth.locks = false) (hX : va_X b L xs s s.heap) (hbl : b < s.heap.size) (hbA : ¬ fx_A G b) (hz0 : G.2.2.2 = s.heap.size) (hB18 : ∀ (x3 : Int32) (M : Mm) (H : Heap) (locs : List Loc) (ls : Array Slot), B18 x3 M → fx_H G SH M s H locs → lv_has ls 4 [(0, .ref b), (1, .ref (G.2.2.2 + 0)), (2, .ref (G.2.2.2 + 159)), (3, .int x3)] → W p l e room_1 s m #[Value.ref b] below meth c H locs 200 21639 (lw_Z below #[Value.ref b] s) (F0 m 18 ls [])) : ∀ (x3 : Int32) (M : Mm) (H : Heap) (locs : List Loc) (ls : Array Slot), T_L_case20 B18 L xs x3 M → fx_H G SH M s H locs → lv_has ls 4 [(0, .ref b), (1, .ref (G.2.2.2 + 0)), (2, .ref (G.2.2.2 + 159)), (3, .int x3)] → W p l e room_1 s m #[Value.ref b] below meth c H locs 200 21639 (lw_Z below #[Value.ref b] s) (F0 m 880 ls []) := by
  obtain ⟨⟨hx, hb, hml, hown, hts⟩, hK, hQ⟩ := id X
  intro x3 M H locs ls hT h hl
  unfold T_L_case20 at hT
  refine lv_aload_n hx hb dL_law_880 rfl (lv_at hl 1 rfl) ?_
  refine lv_aload_n hx hb dL_law_881 rfl (lv_at hl 0 rfl) ?_
  refine lv_iload_n hx hb dL_law_882 rfl (lv_at hl 3 rfl) ?_
  refine lv_iconst (v := 1) hx hb dL_law_883 (by decide) ?_
  refine lv_iadd hx hb dL_law_884 ?_
  obtain ⟨hi199, hT⟩ := hT
  refine va_sld hx hb hX hbl hbA h.2 hi199 dL_law_885 ?_
  refine fx_vi X h ym_X11_length yi_X11_length ys_X11_length (fx_s5 (List.mem_of_getElem? (i := 91) rfl) rfl) sh_0 rfl (c_X11_length l G hT) (As := [.int (xs ((x3 + (1 : Int32))).toNatClampNeg)]) (rest := []) rfl rfl ⟨Nat.le_of_ble_eq_true rfl, Nat.le_of_ble_eq_true rfl⟩ ⟨Nat.le_of_ble_eq_true rfl, Nat.le_of_ble_eq_true rfl⟩ hl.1 (Nat.le_of_ble_eq_true rfl) dL_law_886 (fun r201 M200 H locs hT h => ?_)
  refine lv_aload_n hx hb dL_law_889 rfl (lv_at hl 2 rfl) ?_
  refine lv_aload_n hx hb dL_law_890 rfl (lv_at hl 0 rfl) ?_
  refine lv_iload_n hx hb dL_law_891 rfl (lv_at hl 3 rfl) ?_
  refine lv_iconst (v := 1) hx hb dL_law_892 (by decide) ?_
  refine lv_iadd hx hb dL_law_893 ?_
  obtain ⟨hi202, hT⟩ := hT
  refine va_sld hx hb hX hbl hbA h.2 hi202 dL_law_894 ?_
  refine fx_vi X h ym_X12_length yi_X12_length ys_X12_length (fx_s8 (List.mem_of_getElem? (i := 209) rfl) rfl) sh_159 rfl (c_X12_length l G hT) (As := [.int (xs ((x3 + (1 : Int32))).toNatClampNeg)]) (rest := [.int r201]) rfl rfl ⟨Nat.le_of_ble_eq_true rfl, Nat.le_of_ble_eq_true rfl⟩ ⟨Nat.le_of_ble_eq_true rfl, Nat.le_of_ble_eq_true rfl⟩ hl.1 (Nat.le_of_ble_eq_true rfl) dL_law_895 (fun r204 M203 H locs hT h => ?_)
  refine lv_icmp_eq (tgt := 1409) hx hb dL_law_898 (by decide) (fun hc205 => ?_) (fun hc205 => ?_)
  · have hT := hT.1 hc205
    exact w_L_law_1409 X hr hk hX hbl hbA hz0 hB18 x3 M203 _ _ ls hT h hl
  · have hT := hT.2 hc205
    refine lv_iconst (v := 0) hx hb dL_law_901 (by decide) ?_
    exact hT.elim
def T_L_case21 (B18 : Int32 → Mm → Prop) (L : Nat) (xs : Nat → Int32) (x3 : Int32) (M : Mm) : Prop := (vp_in (x3 + (1 : Int32)) L ∧ (vp_in (x3 + (2 : Int32)) L ∧ (T_X11_strings (xs ((x3 + (1 : Int32))).toNatClampNeg) (xs ((x3 + (2 : Int32))).toNatClampNeg) M (fun r209 M208 => (vp_in (x3 + (1 : Int32)) L ∧ (vp_in (x3 + (2 : Int32)) L ∧ (T_X12_strings (xs ((x3 + (1 : Int32))).toNatClampNeg) (xs ((x3 + (2 : Int32))).toNatClampNeg) M208 (fun r213 M212 => ((r209 = r213 → (T_L_law_1409 B18 x3 M212)) ∧ (¬ r209 = r213 → False))))))))))
set_option maxHeartbeats 4000000 in
set_option maxRecDepth 100000 in
theorem w_L_case21 {p : Program} {l : Launch} {e : Env} {s : State} {m : MethodId} {below : List Frame} {meth : Method} {c : Code} {G : fx_G} {b L : Nat} {xs : Nat → Int32} {B18 : Int32 → Mm → Prop} (X : fx_C G p s m c #[Value.ref b] code 4 R_law) (hr : meth.sig.returnType = ret) (hk : meth.locks = false) (hX : va_X b L xs s s.heap) (hbl : b < s.heap.size) (hbA : ¬ fx_A G b) (hz0 : G.2.2.2 = s.heap.size) (hB18 : ∀ (x3 : Int32) (M : Mm) (H : Heap) (locs : List Loc) (ls : Array Slot), B18 x3 M → fx_H G SH M s H locs → lv_has ls 4 [(0, .ref b), (1, .ref (G.2.2.2 + 0)), (2, .ref (G.2.2.2 + 159)), (3, .int x3)] → W p l e room_1 s m #[Value.ref b] below meth c H locs 200 21639 (lw_Z below #[Value.ref b] s) (F0 m 18 ls [])) : ∀ (x3 : Int32) (M : Mm) (H : Heap) (locs : List Loc) (ls : Array Slot), T_L_case21 B18 L xs x3 M → fx_H G SH M s H locs → lv_has ls 4 [(0, .ref b), (1, .ref (G.2.2.2 + 0)), (2, .ref (G.2.2.2 + 159)), (3, .int x3)] → W p l e room_1 s m #[Value.ref b] below meth c H locs 200 21639 (lw_Z below #[Value.ref b] s) (F0 m 903 ls []) := by
  obtain ⟨⟨hx, hb, hml, hown, hts⟩, hK, hQ⟩ := id X
  intro x3 M H locs ls hT h hl
  unfold T_L_case21 at hT
  refine lv_aload_n hx hb dL_law_903 rfl (lv_at hl 1 rfl) ?_
  refine lv_aload_n hx hb dL_law_904 rfl (lv_at hl 0 rfl) ?_
  refine lv_iload_n hx hb dL_law_905 rfl (lv_at hl 3 rfl) ?_
  refine lv_iconst (v := 1) hx hb dL_law_906 (by decide) ?_
  refine lv_iadd hx hb dL_law_907 ?_
  obtain ⟨hi206, hT⟩ := hT
  refine va_sld hx hb hX hbl hbA h.2 hi206 dL_law_908 ?_
  refine lv_aload_n hx hb dL_law_909 rfl (lv_at hl 0 rfl) ?_
  refine lv_iload_n hx hb dL_law_910 rfl (lv_at hl 3 rfl) ?_
  refine lv_iconst (v := 2) hx hb dL_law_911 (by decide) ?_
  refine lv_iadd hx hb dL_law_912 ?_
  obtain ⟨hi207, hT⟩ := hT
  refine va_sld hx hb hX hbl hbA h.2 hi207 dL_law_913 ?_
  refine fx_vi X h ym_X11_strings yi_X11_strings ys_X11_strings (fx_s5 (List.mem_of_getElem? (i := 95) rfl) rfl) sh_0 rfl (c_X11_strings l G hT) (As := [.int (xs ((x3 + (1 : Int32))).toNatClampNeg), .int (xs ((x3 + (2 : Int32))).toNatClampNeg)]) (rest := []) rfl rfl ⟨Nat.le_of_ble_eq_true rfl, Nat.le_of_ble_eq_true rfl⟩ ⟨Nat.le_of_ble_eq_true rfl, Nat.le_of_ble_eq_true rfl⟩ hl.1 (Nat.le_of_ble_eq_true rfl) dL_law_914 (fun r209 M208 H locs hT h => ?_)
  refine lv_aload_n hx hb dL_law_917 rfl (lv_at hl 2 rfl) ?_
  refine lv_aload_n hx hb dL_law_918 rfl (lv_at hl 0 rfl) ?_
  refine lv_iload_n hx hb dL_law_919 rfl (lv_at hl 3 rfl) ?_
  refine lv_iconst (v := 1) hx hb dL_law_920 (by decide) ?_
  refine lv_iadd hx hb dL_law_921 ?_
  obtain ⟨hi210, hT⟩ := hT
  refine va_sld hx hb hX hbl hbA h.2 hi210 dL_law_922 ?_
  refine lv_aload_n hx hb dL_law_923 rfl (lv_at hl 0 rfl) ?_
  refine lv_iload_n hx hb dL_law_924 rfl (lv_at hl 3 rfl) ?_
  refine lv_iconst (v := 2) hx hb dL_law_925 (by decide) ?_
  refine lv_iadd hx hb dL_law_926 ?_
  obtain ⟨hi211, hT⟩ := hT
  refine va_sld hx hb hX hbl hbA h.2 hi211 dL_law_927 ?_
  refine fx_vi X h ym_X12_strings yi_X12_strings ys_X12_strings (fx_s8 (List.mem_of_getElem? (i := 213) rfl) rfl) sh_159 rfl (c_X12_strings l G hT) (As := [.int (xs ((x3 + (1 : Int32))).toNatClampNeg), .int (xs ((x3 + (2 : Int32))).toNatClampNeg)]) (rest := [.int r209]) rfl rfl ⟨Nat.le_of_ble_eq_true rfl, Nat.le_of_ble_eq_true rfl⟩ ⟨Nat.le_of_ble_eq_true rfl, Nat.le_of_ble_eq_true rfl⟩ hl.1 (Nat.le_of_ble_eq_true rfl) dL_law_928 (fun r213 M212 H locs hT h => ?_)
  refine lv_icmp_eq (tgt := 1409) hx hb dL_law_931 (by decide) (fun hc214 => ?_) (fun hc214 => ?_)
  · have hT := hT.1 hc214
    exact w_L_law_1409 X hr hk hX hbl hbA hz0 hB18 x3 M212 _ _ ls hT h hl
  · have hT := hT.2 hc214
    refine lv_iconst (v := 0) hx hb dL_law_934 (by decide) ?_
    exact hT.elim
def T_L_case22 (B18 : Int32 → Mm → Prop) (L : Nat) (xs : Nat → Int32) (x3 : Int32) (M : Mm) : Prop := (vp_in (x3 + (1 : Int32)) L ∧ (T_X11_coin (xs ((x3 + (1 : Int32))).toNatClampNeg) M (fun r217 M216 => (vp_in (x3 + (1 : Int32)) L ∧ (T_X12_coin (xs ((x3 + (1 : Int32))).toNatClampNeg) M216 (fun r220 M219 => ((r217 = r220 → (T_L_law_1409 B18 x3 M219)) ∧ (¬ r217 = r220 → False))))))))
set_option maxHeartbeats 4000000 in
set_option maxRecDepth 100000 in
theorem w_L_case22 {p : Program} {l : Launch} {e : Env} {s : State} {m : MethodId} {below : List Frame} {meth : Method} {c : Code} {G : fx_G} {b L : Nat} {xs : Nat → Int32} {B18 : Int32 → Mm → Prop} (X : fx_C G p s m c #[Value.ref b] code 4 R_law) (hr : meth.sig.returnType = ret) (hk : meth.locks = false) (hX : va_X b L xs s s.heap) (hbl : b < s.heap.size) (hbA : ¬ fx_A G b) (hz0 : G.2.2.2 = s.heap.size) (hB18 : ∀ (x3 : Int32) (M : Mm) (H : Heap) (locs : List Loc) (ls : Array Slot), B18 x3 M → fx_H G SH M s H locs → lv_has ls 4 [(0, .ref b), (1, .ref (G.2.2.2 + 0)), (2, .ref (G.2.2.2 + 159)), (3, .int x3)] → W p l e room_1 s m #[Value.ref b] below meth c H locs 200 21639 (lw_Z below #[Value.ref b] s) (F0 m 18 ls [])) : ∀ (x3 : Int32) (M : Mm) (H : Heap) (locs : List Loc) (ls : Array Slot), T_L_case22 B18 L xs x3 M → fx_H G SH M s H locs → lv_has ls 4 [(0, .ref b), (1, .ref (G.2.2.2 + 0)), (2, .ref (G.2.2.2 + 159)), (3, .int x3)] → W p l e room_1 s m #[Value.ref b] below meth c H locs 200 21639 (lw_Z below #[Value.ref b] s) (F0 m 936 ls []) := by
  obtain ⟨⟨hx, hb, hml, hown, hts⟩, hK, hQ⟩ := id X
  intro x3 M H locs ls hT h hl
  unfold T_L_case22 at hT
  refine lv_aload_n hx hb dL_law_936 rfl (lv_at hl 1 rfl) ?_
  refine lv_aload_n hx hb dL_law_937 rfl (lv_at hl 0 rfl) ?_
  refine lv_iload_n hx hb dL_law_938 rfl (lv_at hl 3 rfl) ?_
  refine lv_iconst (v := 1) hx hb dL_law_939 (by decide) ?_
  refine lv_iadd hx hb dL_law_940 ?_
  obtain ⟨hi215, hT⟩ := hT
  refine va_sld hx hb hX hbl hbA h.2 hi215 dL_law_941 ?_
  refine fx_vi X h ym_X11_coin yi_X11_coin ys_X11_coin (fx_s5 (List.mem_of_getElem? (i := 108) rfl) rfl) sh_0 rfl (c_X11_coin l G hT) (As := [.int (xs ((x3 + (1 : Int32))).toNatClampNeg)]) (rest := []) rfl rfl ⟨Nat.le_of_ble_eq_true rfl, Nat.le_of_ble_eq_true rfl⟩ ⟨Nat.le_of_ble_eq_true rfl, Nat.le_of_ble_eq_true rfl⟩ hl.1 (Nat.le_of_ble_eq_true rfl) dL_law_942 (fun r217 M216 H locs hT h => ?_)
  refine lv_aload_n hx hb dL_law_945 rfl (lv_at hl 2 rfl) ?_
  refine lv_aload_n hx hb dL_law_946 rfl (lv_at hl 0 rfl) ?_
  refine lv_iload_n hx hb dL_law_947 rfl (lv_at hl 3 rfl) ?_
  refine lv_iconst (v := 1) hx hb dL_law_948 (by decide) ?_
  refine lv_iadd hx hb dL_law_949 ?_
  obtain ⟨hi218, hT⟩ := hT
  refine va_sld hx hb hX hbl hbA h.2 hi218 dL_law_950 ?_
  refine fx_vi X h ym_X12_coin yi_X12_coin ys_X12_coin (fx_s8 (List.mem_of_getElem? (i := 201) rfl) rfl) sh_159 rfl (c_X12_coin l G hT) (As := [.int (xs ((x3 + (1 : Int32))).toNatClampNeg)]) (rest := [.int r217]) rfl rfl ⟨Nat.le_of_ble_eq_true rfl, Nat.le_of_ble_eq_true rfl⟩ ⟨Nat.le_of_ble_eq_true rfl, Nat.le_of_ble_eq_true rfl⟩ hl.1 (Nat.le_of_ble_eq_true rfl) dL_law_951 (fun r220 M219 H locs hT h => ?_)
  refine lv_icmp_eq (tgt := 1409) hx hb dL_law_954 (by decide) (fun hc221 => ?_) (fun hc221 => ?_)
  · have hT := hT.1 hc221
    exact w_L_law_1409 X hr hk hX hbl hbA hz0 hB18 x3 M219 _ _ ls hT h hl
  · have hT := hT.2 hc221
    refine lv_iconst (v := 0) hx hb dL_law_957 (by decide) ?_
    exact hT.elim
def T_L_case23 (B18 : Int32 → Mm → Prop) (L : Nat) (xs : Nat → Int32) (x3 : Int32) (M : Mm) : Prop := (vp_in (x3 + (1 : Int32)) L ∧ (vp_in (x3 + (2 : Int32)) L ∧ (T_X11_pays (xs ((x3 + (1 : Int32))).toNatClampNeg) (xs ((x3 + (2 : Int32))).toNatClampNeg) M (fun r225 M224 => (vp_in (x3 + (1 : Int32)) L ∧ (vp_in (x3 + (2 : Int32)) L ∧ (T_X12_pays (xs ((x3 + (1 : Int32))).toNatClampNeg) (xs ((x3 + (2 : Int32))).toNatClampNeg) M224 (fun r229 M228 => ((r225 = r229 → (T_L_law_1409 B18 x3 M228)) ∧ (¬ r225 = r229 → False))))))))))
set_option maxHeartbeats 4000000 in
set_option maxRecDepth 100000 in
theorem w_L_case23 {p : Program} {l : Launch} {e : Env} {s : State} {m : MethodId} {below : List Frame} {meth : Method} {c : Code} {G : fx_G} {b L : Nat} {xs : Nat → Int32} {B18 : Int32 → Mm → Prop} (X : fx_C G p s m c #[Value.ref b] code 4 R_law) (hr : meth.sig.returnType = ret) (hk : meth.locks = false) (hX : va_X b L xs s s.heap) (hbl : b < s.heap.size) (hbA : ¬ fx_A G b) (hz0 : G.2.2.2 = s.heap.size) (hB18 : ∀ (x3 : Int32) (M : Mm) (H : Heap) (locs : List Loc) (ls : Array Slot), B18 x3 M → fx_H G SH M s H locs → lv_has ls 4 [(0, .ref b), (1, .ref (G.2.2.2 + 0)), (2, .ref (G.2.2.2 + 159)), (3, .int x3)] → W p l e room_1 s m #[Value.ref b] below meth c H locs 200 21639 (lw_Z below #[Value.ref b] s) (F0 m 18 ls [])) : ∀ (x3 : Int32) (M : Mm) (H : Heap) (locs : List Loc) (ls : Array Slot), T_L_case23 B18 L xs x3 M → fx_H G SH M s H locs → lv_has ls 4 [(0, .ref b), (1, .ref (G.2.2.2 + 0)), (2, .ref (G.2.2.2 + 159)), (3, .int x3)] → W p l e room_1 s m #[Value.ref b] below meth c H locs 200 21639 (lw_Z below #[Value.ref b] s) (F0 m 959 ls []) := by
  obtain ⟨⟨hx, hb, hml, hown, hts⟩, hK, hQ⟩ := id X
  intro x3 M H locs ls hT h hl
  unfold T_L_case23 at hT
  refine lv_aload_n hx hb dL_law_959 rfl (lv_at hl 1 rfl) ?_
  refine lv_aload_n hx hb dL_law_960 rfl (lv_at hl 0 rfl) ?_
  refine lv_iload_n hx hb dL_law_961 rfl (lv_at hl 3 rfl) ?_
  refine lv_iconst (v := 1) hx hb dL_law_962 (by decide) ?_
  refine lv_iadd hx hb dL_law_963 ?_
  obtain ⟨hi222, hT⟩ := hT
  refine va_sld hx hb hX hbl hbA h.2 hi222 dL_law_964 ?_
  refine lv_aload_n hx hb dL_law_965 rfl (lv_at hl 0 rfl) ?_
  refine lv_iload_n hx hb dL_law_966 rfl (lv_at hl 3 rfl) ?_
  refine lv_iconst (v := 2) hx hb dL_law_967 (by decide) ?_
  refine lv_iadd hx hb dL_law_968 ?_
  obtain ⟨hi223, hT⟩ := hT
  refine va_sld hx hb hX hbl hbA h.2 hi223 dL_law_969 ?_
  refine fx_vi X h ym_X11_pays yi_X11_pays ys_X11_pays (fx_s5 (List.mem_of_getElem? (i := 116) rfl) rfl) sh_0 rfl (c_X11_pays l G hT) (As := [.int (xs ((x3 + (1 : Int32))).toNatClampNeg), .int (xs ((x3 + (2 : Int32))).toNatClampNeg)]) (rest := []) rfl rfl ⟨Nat.le_of_ble_eq_true rfl, Nat.le_of_ble_eq_true rfl⟩ ⟨Nat.le_of_ble_eq_true rfl, Nat.le_of_ble_eq_true rfl⟩ hl.1 (Nat.le_of_ble_eq_true rfl) dL_law_970 (fun r225 M224 H locs hT h => ?_)
  refine lv_aload_n hx hb dL_law_973 rfl (lv_at hl 2 rfl) ?_
  refine lv_aload_n hx hb dL_law_974 rfl (lv_at hl 0 rfl) ?_
  refine lv_iload_n hx hb dL_law_975 rfl (lv_at hl 3 rfl) ?_
  refine lv_iconst (v := 1) hx hb dL_law_976 (by decide) ?_
  refine lv_iadd hx hb dL_law_977 ?_
  obtain ⟨hi226, hT⟩ := hT
  refine va_sld hx hb hX hbl hbA h.2 hi226 dL_law_978 ?_
  refine lv_aload_n hx hb dL_law_979 rfl (lv_at hl 0 rfl) ?_
  refine lv_iload_n hx hb dL_law_980 rfl (lv_at hl 3 rfl) ?_
  refine lv_iconst (v := 2) hx hb dL_law_981 (by decide) ?_
  refine lv_iadd hx hb dL_law_982 ?_
  obtain ⟨hi227, hT⟩ := hT
  refine va_sld hx hb hX hbl hbA h.2 hi227 dL_law_983 ?_
  refine fx_vi X h ym_X12_pays yi_X12_pays ys_X12_pays (fx_s8 (List.mem_of_getElem? (i := 205) rfl) rfl) sh_159 rfl (c_X12_pays l G hT) (As := [.int (xs ((x3 + (1 : Int32))).toNatClampNeg), .int (xs ((x3 + (2 : Int32))).toNatClampNeg)]) (rest := [.int r225]) rfl rfl ⟨Nat.le_of_ble_eq_true rfl, Nat.le_of_ble_eq_true rfl⟩ ⟨Nat.le_of_ble_eq_true rfl, Nat.le_of_ble_eq_true rfl⟩ hl.1 (Nat.le_of_ble_eq_true rfl) dL_law_984 (fun r229 M228 H locs hT h => ?_)
  refine lv_icmp_eq (tgt := 1409) hx hb dL_law_987 (by decide) (fun hc230 => ?_) (fun hc230 => ?_)
  · have hT := hT.1 hc230
    exact w_L_law_1409 X hr hk hX hbl hbA hz0 hB18 x3 M228 _ _ ls hT h hl
  · have hT := hT.2 hc230
    refine lv_iconst (v := 0) hx hb dL_law_990 (by decide) ?_
    exact hT.elim
def T_L_case24 (B18 : Int32 → Mm → Prop) (L : Nat) (xs : Nat → Int32) (x3 : Int32) (M : Mm) : Prop := (vp_in (x3 + (1 : Int32)) L ∧ (vp_in (x3 + (2 : Int32)) L ∧ (T_X11_rank (xs ((x3 + (1 : Int32))).toNatClampNeg) (xs ((x3 + (2 : Int32))).toNatClampNeg) M (fun r234 M233 => (vp_in (x3 + (1 : Int32)) L ∧ (vp_in (x3 + (2 : Int32)) L ∧ (T_X12_rank (xs ((x3 + (1 : Int32))).toNatClampNeg) (xs ((x3 + (2 : Int32))).toNatClampNeg) M233 (fun r238 M237 => ((r234 = r238 → (T_L_law_1409 B18 x3 M237)) ∧ (¬ r234 = r238 → False))))))))))
set_option maxHeartbeats 4000000 in
set_option maxRecDepth 100000 in
theorem w_L_case24 {p : Program} {l : Launch} {e : Env} {s : State} {m : MethodId} {below : List Frame} {meth : Method} {c : Code} {G : fx_G} {b L : Nat} {xs : Nat → Int32} {B18 : Int32 → Mm → Prop} (X : fx_C G p s m c #[Value.ref b] code 4 R_law) (hr : meth.sig.returnType = ret) (hk : meth.locks = false) (hX : va_X b L xs s s.heap) (hbl : b < s.heap.size) (hbA : ¬ fx_A G b) (hz0 : G.2.2.2 = s.heap.size) (hB18 : ∀ (x3 : Int32) (M : Mm) (H : Heap) (locs : List Loc) (ls : Array Slot), B18 x3 M → fx_H G SH M s H locs → lv_has ls 4 [(0, .ref b), (1, .ref (G.2.2.2 + 0)), (2, .ref (G.2.2.2 + 159)), (3, .int x3)] → W p l e room_1 s m #[Value.ref b] below meth c H locs 200 21639 (lw_Z below #[Value.ref b] s) (F0 m 18 ls [])) : ∀ (x3 : Int32) (M : Mm) (H : Heap) (locs : List Loc) (ls : Array Slot), T_L_case24 B18 L xs x3 M → fx_H G SH M s H locs → lv_has ls 4 [(0, .ref b), (1, .ref (G.2.2.2 + 0)), (2, .ref (G.2.2.2 + 159)), (3, .int x3)] → W p l e room_1 s m #[Value.ref b] below meth c H locs 200 21639 (lw_Z below #[Value.ref b] s) (F0 m 992 ls []) := by
  obtain ⟨⟨hx, hb, hml, hown, hts⟩, hK, hQ⟩ := id X
  intro x3 M H locs ls hT h hl
  unfold T_L_case24 at hT
  refine lv_aload_n hx hb dL_law_992 rfl (lv_at hl 1 rfl) ?_
  refine lv_aload_n hx hb dL_law_993 rfl (lv_at hl 0 rfl) ?_
  refine lv_iload_n hx hb dL_law_994 rfl (lv_at hl 3 rfl) ?_
  refine lv_iconst (v := 1) hx hb dL_law_995 (by decide) ?_
  refine lv_iadd hx hb dL_law_996 ?_
  obtain ⟨hi231, hT⟩ := hT
  refine va_sld hx hb hX hbl hbA h.2 hi231 dL_law_997 ?_
  refine lv_aload_n hx hb dL_law_998 rfl (lv_at hl 0 rfl) ?_
  refine lv_iload_n hx hb dL_law_999 rfl (lv_at hl 3 rfl) ?_
  refine lv_iconst (v := 2) hx hb dL_law_1000 (by decide) ?_
  refine lv_iadd hx hb dL_law_1001 ?_
  obtain ⟨hi232, hT⟩ := hT
  refine va_sld hx hb hX hbl hbA h.2 hi232 dL_law_1002 ?_
  refine fx_vi X h ym_X11_rank yi_X11_rank ys_X11_rank (fx_s5 (List.mem_of_getElem? (i := 120) rfl) rfl) sh_0 rfl (c_X11_rank l G hT) (As := [.int (xs ((x3 + (1 : Int32))).toNatClampNeg), .int (xs ((x3 + (2 : Int32))).toNatClampNeg)]) (rest := []) rfl rfl ⟨Nat.le_of_ble_eq_true rfl, Nat.le_of_ble_eq_true rfl⟩ ⟨Nat.le_of_ble_eq_true rfl, Nat.le_of_ble_eq_true rfl⟩ hl.1 (Nat.le_of_ble_eq_true rfl) dL_law_1003 (fun r234 M233 H locs hT h => ?_)
  refine lv_aload_n hx hb dL_law_1006 rfl (lv_at hl 2 rfl) ?_
  refine lv_aload_n hx hb dL_law_1007 rfl (lv_at hl 0 rfl) ?_
  refine lv_iload_n hx hb dL_law_1008 rfl (lv_at hl 3 rfl) ?_
  refine lv_iconst (v := 1) hx hb dL_law_1009 (by decide) ?_
  refine lv_iadd hx hb dL_law_1010 ?_
  obtain ⟨hi235, hT⟩ := hT
  refine va_sld hx hb hX hbl hbA h.2 hi235 dL_law_1011 ?_
  refine lv_aload_n hx hb dL_law_1012 rfl (lv_at hl 0 rfl) ?_
  refine lv_iload_n hx hb dL_law_1013 rfl (lv_at hl 3 rfl) ?_
  refine lv_iconst (v := 2) hx hb dL_law_1014 (by decide) ?_
  refine lv_iadd hx hb dL_law_1015 ?_
  obtain ⟨hi236, hT⟩ := hT
  refine va_sld hx hb hX hbl hbA h.2 hi236 dL_law_1016 ?_
  refine fx_vi X h ym_X12_rank yi_X12_rank ys_X12_rank (fx_s8 (List.mem_of_getElem? (i := 229) rfl) rfl) sh_159 rfl (c_X12_rank l G hT) (As := [.int (xs ((x3 + (1 : Int32))).toNatClampNeg), .int (xs ((x3 + (2 : Int32))).toNatClampNeg)]) (rest := [.int r234]) rfl rfl ⟨Nat.le_of_ble_eq_true rfl, Nat.le_of_ble_eq_true rfl⟩ ⟨Nat.le_of_ble_eq_true rfl, Nat.le_of_ble_eq_true rfl⟩ hl.1 (Nat.le_of_ble_eq_true rfl) dL_law_1017 (fun r238 M237 H locs hT h => ?_)
  refine lv_icmp_eq (tgt := 1409) hx hb dL_law_1020 (by decide) (fun hc239 => ?_) (fun hc239 => ?_)
  · have hT := hT.1 hc239
    exact w_L_law_1409 X hr hk hX hbl hbA hz0 hB18 x3 M237 _ _ ls hT h hl
  · have hT := hT.2 hc239
    refine lv_iconst (v := 0) hx hb dL_law_1023 (by decide) ?_
    exact hT.elim
def T_L_case25 (B18 : Int32 → Mm → Prop) (L : Nat) (xs : Nat → Int32) (x3 : Int32) (M : Mm) : Prop := (vp_in (x3 + (1 : Int32)) L ∧ (T_X11_swaps (xs ((x3 + (1 : Int32))).toNatClampNeg) M (fun r242 M241 => (vp_in (x3 + (1 : Int32)) L ∧ (T_X12_swaps (xs ((x3 + (1 : Int32))).toNatClampNeg) M241 (fun r245 M244 => ((r242 = r245 → (T_L_law_1409 B18 x3 M244)) ∧ (¬ r242 = r245 → False))))))))
set_option maxHeartbeats 4000000 in
set_option maxRecDepth 100000 in
theorem w_L_case25 {p : Program} {l : Launch} {e : Env} {s : State} {m : MethodId} {below : List Frame} {meth : Method} {c : Code} {G : fx_G} {b L : Nat} {xs : Nat → Int32} {B18 : Int32 → Mm → Prop} (X : fx_C G p s m c #[Value.ref b] code 4 R_law) (hr : meth.sig.returnType = ret) (hk : meth.locks = false) (hX : va_X b L xs s s.heap) (hbl : b < s.heap.size) (hbA : ¬ fx_A G b) (hz0 : G.2.2.2 = s.heap.size) (hB18 : ∀ (x3 : Int32) (M : Mm) (H : Heap) (locs : List Loc) (ls : Array Slot), B18 x3 M → fx_H G SH M s H locs → lv_has ls 4 [(0, .ref b), (1, .ref (G.2.2.2 + 0)), (2, .ref (G.2.2.2 + 159)), (3, .int x3)] → W p l e room_1 s m #[Value.ref b] below meth c H locs 200 21639 (lw_Z below #[Value.ref b] s) (F0 m 18 ls [])) : ∀ (x3 : Int32) (M : Mm) (H : Heap) (locs : List Loc) (ls : Array Slot), T_L_case25 B18 L xs x3 M → fx_H G SH M s H locs → lv_has ls 4 [(0, .ref b), (1, .ref (G.2.2.2 + 0)), (2, .ref (G.2.2.2 + 159)), (3, .int x3)] → W p l e room_1 s m #[Value.ref b] below meth c H locs 200 21639 (lw_Z below #[Value.ref b] s) (F0 m 1025 ls []) := by
  obtain ⟨⟨hx, hb, hml, hown, hts⟩, hK, hQ⟩ := id X
  intro x3 M H locs ls hT h hl
  unfold T_L_case25 at hT
  refine lv_aload_n hx hb dL_law_1025 rfl (lv_at hl 1 rfl) ?_
  refine lv_aload_n hx hb dL_law_1026 rfl (lv_at hl 0 rfl) ?_
  refine lv_iload_n hx hb dL_law_1027 rfl (lv_at hl 3 rfl) ?_
  refine lv_iconst (v := 1) hx hb dL_law_1028 (by decide) ?_
  refine lv_iadd hx hb dL_law_1029 ?_
  obtain ⟨hi240, hT⟩ := hT
  refine va_sld hx hb hX hbl hbA h.2 hi240 dL_law_1030 ?_
  refine fx_vi X h ym_X11_swaps yi_X11_swaps ys_X11_swaps (fx_s5 (List.mem_of_getElem? (i := 132) rfl) rfl) sh_0 rfl (c_X11_swaps l G hT) (As := [.int (xs ((x3 + (1 : Int32))).toNatClampNeg)]) (rest := []) rfl rfl ⟨Nat.le_of_ble_eq_true rfl, Nat.le_of_ble_eq_true rfl⟩ ⟨Nat.le_of_ble_eq_true rfl, Nat.le_of_ble_eq_true rfl⟩ hl.1 (Nat.le_of_ble_eq_true rfl) dL_law_1031 (fun r242 M241 H locs hT h => ?_)
  refine lv_aload_n hx hb dL_law_1034 rfl (lv_at hl 2 rfl) ?_
  refine lv_aload_n hx hb dL_law_1035 rfl (lv_at hl 0 rfl) ?_
  refine lv_iload_n hx hb dL_law_1036 rfl (lv_at hl 3 rfl) ?_
  refine lv_iconst (v := 1) hx hb dL_law_1037 (by decide) ?_
  refine lv_iadd hx hb dL_law_1038 ?_
  obtain ⟨hi243, hT⟩ := hT
  refine va_sld hx hb hX hbl hbA h.2 hi243 dL_law_1039 ?_
  refine fx_vi X h ym_X12_swaps yi_X12_swaps ys_X12_swaps (fx_s8 (List.mem_of_getElem? (i := 238) rfl) rfl) sh_159 rfl (c_X12_swaps l G hT) (As := [.int (xs ((x3 + (1 : Int32))).toNatClampNeg)]) (rest := [.int r242]) rfl rfl ⟨Nat.le_of_ble_eq_true rfl, Nat.le_of_ble_eq_true rfl⟩ ⟨Nat.le_of_ble_eq_true rfl, Nat.le_of_ble_eq_true rfl⟩ hl.1 (Nat.le_of_ble_eq_true rfl) dL_law_1040 (fun r245 M244 H locs hT h => ?_)
  refine lv_icmp_eq (tgt := 1409) hx hb dL_law_1043 (by decide) (fun hc246 => ?_) (fun hc246 => ?_)
  · have hT := hT.1 hc246
    exact w_L_law_1409 X hr hk hX hbl hbA hz0 hB18 x3 M244 _ _ ls hT h hl
  · have hT := hT.2 hc246
    refine lv_iconst (v := 0) hx hb dL_law_1046 (by decide) ?_
    exact hT.elim
def T_L_case26 (B18 : Int32 → Mm → Prop) (L : Nat) (xs : Nat → Int32) (x3 : Int32) (M : Mm) : Prop := (vp_in (x3 + (1 : Int32)) L ∧ (T_X11_wishes (xs ((x3 + (1 : Int32))).toNatClampNeg) M (fun r249 M248 => (vp_in (x3 + (1 : Int32)) L ∧ (T_X12_wishes (xs ((x3 + (1 : Int32))).toNatClampNeg) M248 (fun r252 M251 => ((r249 = r252 → (T_L_law_1409 B18 x3 M251)) ∧ (¬ r249 = r252 → False))))))))
set_option maxHeartbeats 4000000 in
set_option maxRecDepth 100000 in
theorem w_L_case26 {p : Program} {l : Launch} {e : Env} {s : State} {m : MethodId} {below : List Frame} {meth : Method} {c : Code} {G : fx_G} {b L : Nat} {xs : Nat → Int32} {B18 : Int32 → Mm → Prop} (X : fx_C G p s m c #[Value.ref b] code 4 R_law) (hr : meth.sig.returnType = ret) (hk : meth.locks = false) (hX : va_X b L xs s s.heap) (hbl : b < s.heap.size) (hbA : ¬ fx_A G b) (hz0 : G.2.2.2 = s.heap.size) (hB18 : ∀ (x3 : Int32) (M : Mm) (H : Heap) (locs : List Loc) (ls : Array Slot), B18 x3 M → fx_H G SH M s H locs → lv_has ls 4 [(0, .ref b), (1, .ref (G.2.2.2 + 0)), (2, .ref (G.2.2.2 + 159)), (3, .int x3)] → W p l e room_1 s m #[Value.ref b] below meth c H locs 200 21639 (lw_Z below #[Value.ref b] s) (F0 m 18 ls [])) : ∀ (x3 : Int32) (M : Mm) (H : Heap) (locs : List Loc) (ls : Array Slot), T_L_case26 B18 L xs x3 M → fx_H G SH M s H locs → lv_has ls 4 [(0, .ref b), (1, .ref (G.2.2.2 + 0)), (2, .ref (G.2.2.2 + 159)), (3, .int x3)] → W p l e room_1 s m #[Value.ref b] below meth c H locs 200 21639 (lw_Z below #[Value.ref b] s) (F0 m 1048 ls []) := by
  obtain ⟨⟨hx, hb, hml, hown, hts⟩, hK, hQ⟩ := id X
  intro x3 M H locs ls hT h hl
  unfold T_L_case26 at hT
  refine lv_aload_n hx hb dL_law_1048 rfl (lv_at hl 1 rfl) ?_
  refine lv_aload_n hx hb dL_law_1049 rfl (lv_at hl 0 rfl) ?_
  refine lv_iload_n hx hb dL_law_1050 rfl (lv_at hl 3 rfl) ?_
  refine lv_iconst (v := 1) hx hb dL_law_1051 (by decide) ?_
  refine lv_iadd hx hb dL_law_1052 ?_
  obtain ⟨hi247, hT⟩ := hT
  refine va_sld hx hb hX hbl hbA h.2 hi247 dL_law_1053 ?_
  refine fx_vi X h ym_X11_wishes yi_X11_wishes ys_X11_wishes (fx_s5 (List.mem_of_getElem? (i := 149) rfl) rfl) sh_0 rfl (c_X11_wishes l G hT) (As := [.int (xs ((x3 + (1 : Int32))).toNatClampNeg)]) (rest := []) rfl rfl ⟨Nat.le_of_ble_eq_true rfl, Nat.le_of_ble_eq_true rfl⟩ ⟨Nat.le_of_ble_eq_true rfl, Nat.le_of_ble_eq_true rfl⟩ hl.1 (Nat.le_of_ble_eq_true rfl) dL_law_1054 (fun r249 M248 H locs hT h => ?_)
  refine lv_aload_n hx hb dL_law_1057 rfl (lv_at hl 2 rfl) ?_
  refine lv_aload_n hx hb dL_law_1058 rfl (lv_at hl 0 rfl) ?_
  refine lv_iload_n hx hb dL_law_1059 rfl (lv_at hl 3 rfl) ?_
  refine lv_iconst (v := 1) hx hb dL_law_1060 (by decide) ?_
  refine lv_iadd hx hb dL_law_1061 ?_
  obtain ⟨hi250, hT⟩ := hT
  refine va_sld hx hb hX hbl hbA h.2 hi250 dL_law_1062 ?_
  refine fx_vi X h ym_X12_wishes yi_X12_wishes ys_X12_wishes (fx_s9 (List.mem_of_getElem? (i := 14) rfl) rfl) sh_159 rfl (c_X12_wishes l G hT) (As := [.int (xs ((x3 + (1 : Int32))).toNatClampNeg)]) (rest := [.int r249]) rfl rfl ⟨Nat.le_of_ble_eq_true rfl, Nat.le_of_ble_eq_true rfl⟩ ⟨Nat.le_of_ble_eq_true rfl, Nat.le_of_ble_eq_true rfl⟩ hl.1 (Nat.le_of_ble_eq_true rfl) dL_law_1063 (fun r252 M251 H locs hT h => ?_)
  refine lv_icmp_eq (tgt := 1409) hx hb dL_law_1066 (by decide) (fun hc253 => ?_) (fun hc253 => ?_)
  · have hT := hT.1 hc253
    exact w_L_law_1409 X hr hk hX hbl hbA hz0 hB18 x3 M251 _ _ ls hT h hl
  · have hT := hT.2 hc253
    refine lv_iconst (v := 0) hx hb dL_law_1069 (by decide) ?_
    exact hT.elim
def T_L_case27 (B18 : Int32 → Mm → Prop) (L : Nat) (xs : Nat → Int32) (x3 : Int32) (M : Mm) : Prop := (vp_in (x3 + (1 : Int32)) L ∧ (vp_in (x3 + (2 : Int32)) L ∧ (T_X11_put (xs ((x3 + (1 : Int32))).toNatClampNeg) (xs ((x3 + (2 : Int32))).toNatClampNeg) M (fun r257 M256 => (vp_in (x3 + (1 : Int32)) L ∧ (vp_in (x3 + (2 : Int32)) L ∧ (T_X12_put (xs ((x3 + (1 : Int32))).toNatClampNeg) (xs ((x3 + (2 : Int32))).toNatClampNeg) M256 (fun r261 M260 => ((r257 = r261 → (T_L_law_1409 B18 x3 M260)) ∧ (¬ r257 = r261 → False))))))))))
set_option maxHeartbeats 4000000 in
set_option maxRecDepth 100000 in
theorem w_L_case27 {p : Program} {l : Launch} {e : Env} {s : State} {m : MethodId} {below : List Frame} {meth : Method} {c : Code} {G : fx_G} {b L : Nat} {xs : Nat → Int32} {B18 : Int32 → Mm → Prop} (X : fx_C G p s m c #[Value.ref b] code 4 R_law) (hr : meth.sig.returnType = ret) (hk : meth.locks = false) (hX : va_X b L xs s s.heap) (hbl : b < s.heap.size) (hbA : ¬ fx_A G b) (hz0 : G.2.2.2 = s.heap.size) (hB18 : ∀ (x3 : Int32) (M : Mm) (H : Heap) (locs : List Loc) (ls : Array Slot), B18 x3 M → fx_H G SH M s H locs → lv_has ls 4 [(0, .ref b), (1, .ref (G.2.2.2 + 0)), (2, .ref (G.2.2.2 + 159)), (3, .int x3)] → W p l e room_1 s m #[Value.ref b] below meth c H locs 200 21639 (lw_Z below #[Value.ref b] s) (F0 m 18 ls [])) : ∀ (x3 : Int32) (M : Mm) (H : Heap) (locs : List Loc) (ls : Array Slot), T_L_case27 B18 L xs x3 M → fx_H G SH M s H locs → lv_has ls 4 [(0, .ref b), (1, .ref (G.2.2.2 + 0)), (2, .ref (G.2.2.2 + 159)), (3, .int x3)] → W p l e room_1 s m #[Value.ref b] below meth c H locs 200 21639 (lw_Z below #[Value.ref b] s) (F0 m 1071 ls []) := by
  obtain ⟨⟨hx, hb, hml, hown, hts⟩, hK, hQ⟩ := id X
  intro x3 M H locs ls hT h hl
  unfold T_L_case27 at hT
  refine lv_aload_n hx hb dL_law_1071 rfl (lv_at hl 1 rfl) ?_
  refine lv_aload_n hx hb dL_law_1072 rfl (lv_at hl 0 rfl) ?_
  refine lv_iload_n hx hb dL_law_1073 rfl (lv_at hl 3 rfl) ?_
  refine lv_iconst (v := 1) hx hb dL_law_1074 (by decide) ?_
  refine lv_iadd hx hb dL_law_1075 ?_
  obtain ⟨hi254, hT⟩ := hT
  refine va_sld hx hb hX hbl hbA h.2 hi254 dL_law_1076 ?_
  refine lv_aload_n hx hb dL_law_1077 rfl (lv_at hl 0 rfl) ?_
  refine lv_iload_n hx hb dL_law_1078 rfl (lv_at hl 3 rfl) ?_
  refine lv_iconst (v := 2) hx hb dL_law_1079 (by decide) ?_
  refine lv_iadd hx hb dL_law_1080 ?_
  obtain ⟨hi255, hT⟩ := hT
  refine va_sld hx hb hX hbl hbA h.2 hi255 dL_law_1081 ?_
  refine fx_vi X h ym_X11_put yi_X11_put ys_X11_put (fx_s5 (List.mem_of_getElem? (i := 173) rfl) rfl) sh_0 rfl (c_X11_put l G hT) (As := [.int (xs ((x3 + (1 : Int32))).toNatClampNeg), .int (xs ((x3 + (2 : Int32))).toNatClampNeg)]) (rest := []) rfl rfl ⟨Nat.le_of_ble_eq_true rfl, Nat.le_of_ble_eq_true rfl⟩ ⟨Nat.le_of_ble_eq_true rfl, Nat.le_of_ble_eq_true rfl⟩ hl.1 (Nat.le_of_ble_eq_true rfl) dL_law_1082 (fun r257 M256 H locs hT h => ?_)
  refine lv_aload_n hx hb dL_law_1085 rfl (lv_at hl 2 rfl) ?_
  refine lv_aload_n hx hb dL_law_1086 rfl (lv_at hl 0 rfl) ?_
  refine lv_iload_n hx hb dL_law_1087 rfl (lv_at hl 3 rfl) ?_
  refine lv_iconst (v := 1) hx hb dL_law_1088 (by decide) ?_
  refine lv_iadd hx hb dL_law_1089 ?_
  obtain ⟨hi258, hT⟩ := hT
  refine va_sld hx hb hX hbl hbA h.2 hi258 dL_law_1090 ?_
  refine lv_aload_n hx hb dL_law_1091 rfl (lv_at hl 0 rfl) ?_
  refine lv_iload_n hx hb dL_law_1092 rfl (lv_at hl 3 rfl) ?_
  refine lv_iconst (v := 2) hx hb dL_law_1093 (by decide) ?_
  refine lv_iadd hx hb dL_law_1094 ?_
  obtain ⟨hi259, hT⟩ := hT
  refine va_sld hx hb hX hbl hbA h.2 hi259 dL_law_1095 ?_
  refine fx_vi X h ym_X12_put yi_X12_put ys_X12_put (fx_s9 (List.mem_of_getElem? (i := 30) rfl) rfl) sh_159 rfl (c_X12_put l G hT) (As := [.int (xs ((x3 + (1 : Int32))).toNatClampNeg), .int (xs ((x3 + (2 : Int32))).toNatClampNeg)]) (rest := [.int r257]) rfl rfl ⟨Nat.le_of_ble_eq_true rfl, Nat.le_of_ble_eq_true rfl⟩ ⟨Nat.le_of_ble_eq_true rfl, Nat.le_of_ble_eq_true rfl⟩ hl.1 (Nat.le_of_ble_eq_true rfl) dL_law_1096 (fun r261 M260 H locs hT h => ?_)
  refine lv_icmp_eq (tgt := 1409) hx hb dL_law_1099 (by decide) (fun hc262 => ?_) (fun hc262 => ?_)
  · have hT := hT.1 hc262
    exact w_L_law_1409 X hr hk hX hbl hbA hz0 hB18 x3 M260 _ _ ls hT h hl
  · have hT := hT.2 hc262
    refine lv_iconst (v := 0) hx hb dL_law_1102 (by decide) ?_
    exact hT.elim
def T_L_case28 (B18 : Int32 → Mm → Prop) (L : Nat) (xs : Nat → Int32) (x3 : Int32) (M : Mm) : Prop := (vp_in (x3 + (1 : Int32)) L ∧ (T_X11_puts (xs ((x3 + (1 : Int32))).toNatClampNeg) M (fun r265 M264 => (vp_in (x3 + (1 : Int32)) L ∧ (T_X12_puts (xs ((x3 + (1 : Int32))).toNatClampNeg) M264 (fun r268 M267 => ((r265 = r268 → (T_L_law_1409 B18 x3 M267)) ∧ (¬ r265 = r268 → False))))))))
set_option maxHeartbeats 4000000 in
set_option maxRecDepth 100000 in
theorem w_L_case28 {p : Program} {l : Launch} {e : Env} {s : State} {m : MethodId} {below : List Frame} {meth : Method} {c : Code} {G : fx_G} {b L : Nat} {xs : Nat → Int32} {B18 : Int32 → Mm → Prop} (X : fx_C G p s m c #[Value.ref b] code 4 R_law) (hr : meth.sig.returnType = ret) (hk : meth.locks = false) (hX : va_X b L xs s s.heap) (hbl : b < s.heap.size) (hbA : ¬ fx_A G b) (hz0 : G.2.2.2 = s.heap.size) (hB18 : ∀ (x3 : Int32) (M : Mm) (H : Heap) (locs : List Loc) (ls : Array Slot), B18 x3 M → fx_H G SH M s H locs → lv_has ls 4 [(0, .ref b), (1, .ref (G.2.2.2 + 0)), (2, .ref (G.2.2.2 + 159)), (3, .int x3)] → W p l e room_1 s m #[Value.ref b] below meth c H locs 200 21639 (lw_Z below #[Value.ref b] s) (F0 m 18 ls [])) : ∀ (x3 : Int32) (M : Mm) (H : Heap) (locs : List Loc) (ls : Array Slot), T_L_case28 B18 L xs x3 M → fx_H G SH M s H locs → lv_has ls 4 [(0, .ref b), (1, .ref (G.2.2.2 + 0)), (2, .ref (G.2.2.2 + 159)), (3, .int x3)] → W p l e room_1 s m #[Value.ref b] below meth c H locs 200 21639 (lw_Z below #[Value.ref b] s) (F0 m 1104 ls []) := by
  obtain ⟨⟨hx, hb, hml, hown, hts⟩, hK, hQ⟩ := id X
  intro x3 M H locs ls hT h hl
  unfold T_L_case28 at hT
  refine lv_aload_n hx hb dL_law_1104 rfl (lv_at hl 1 rfl) ?_
  refine lv_aload_n hx hb dL_law_1105 rfl (lv_at hl 0 rfl) ?_
  refine lv_iload_n hx hb dL_law_1106 rfl (lv_at hl 3 rfl) ?_
  refine lv_iconst (v := 1) hx hb dL_law_1107 (by decide) ?_
  refine lv_iadd hx hb dL_law_1108 ?_
  obtain ⟨hi263, hT⟩ := hT
  refine va_sld hx hb hX hbl hbA h.2 hi263 dL_law_1109 ?_
  refine fx_vi X h ym_X11_puts yi_X11_puts ys_X11_puts (fx_s5 (List.mem_of_getElem? (i := 177) rfl) rfl) sh_0 rfl (c_X11_puts l G hT) (As := [.int (xs ((x3 + (1 : Int32))).toNatClampNeg)]) (rest := []) rfl rfl ⟨Nat.le_of_ble_eq_true rfl, Nat.le_of_ble_eq_true rfl⟩ ⟨Nat.le_of_ble_eq_true rfl, Nat.le_of_ble_eq_true rfl⟩ hl.1 (Nat.le_of_ble_eq_true rfl) dL_law_1110 (fun r265 M264 H locs hT h => ?_)
  refine lv_aload_n hx hb dL_law_1113 rfl (lv_at hl 2 rfl) ?_
  refine lv_aload_n hx hb dL_law_1114 rfl (lv_at hl 0 rfl) ?_
  refine lv_iload_n hx hb dL_law_1115 rfl (lv_at hl 3 rfl) ?_
  refine lv_iconst (v := 1) hx hb dL_law_1116 (by decide) ?_
  refine lv_iadd hx hb dL_law_1117 ?_
  obtain ⟨hi266, hT⟩ := hT
  refine va_sld hx hb hX hbl hbA h.2 hi266 dL_law_1118 ?_
  refine fx_vi X h ym_X12_puts yi_X12_puts ys_X12_puts (fx_s9 (List.mem_of_getElem? (i := 34) rfl) rfl) sh_159 rfl (c_X12_puts l G hT) (As := [.int (xs ((x3 + (1 : Int32))).toNatClampNeg)]) (rest := [.int r265]) rfl rfl ⟨Nat.le_of_ble_eq_true rfl, Nat.le_of_ble_eq_true rfl⟩ ⟨Nat.le_of_ble_eq_true rfl, Nat.le_of_ble_eq_true rfl⟩ hl.1 (Nat.le_of_ble_eq_true rfl) dL_law_1119 (fun r268 M267 H locs hT h => ?_)
  refine lv_icmp_eq (tgt := 1409) hx hb dL_law_1122 (by decide) (fun hc269 => ?_) (fun hc269 => ?_)
  · have hT := hT.1 hc269
    exact w_L_law_1409 X hr hk hX hbl hbA hz0 hB18 x3 M267 _ _ ls hT h hl
  · have hT := hT.2 hc269
    refine lv_iconst (v := 0) hx hb dL_law_1125 (by decide) ?_
    exact hT.elim
def T_L_case29 (B18 : Int32 → Mm → Prop) (L : Nat) (xs : Nat → Int32) (x3 : Int32) (M : Mm) : Prop := (vp_in (x3 + (1 : Int32)) L ∧ (vp_in (x3 + (2 : Int32)) L ∧ (((xs ((x3 + (2 : Int32))).toNatClampNeg) = 0 → (T_X11_clue (xs ((x3 + (1 : Int32))).toNatClampNeg) (0 : Int32) M (fun r274 M273 => (vp_in (x3 + (1 : Int32)) L ∧ (vp_in (x3 + (2 : Int32)) L ∧ (((xs ((x3 + (2 : Int32))).toNatClampNeg) = 0 → (T_X12_clue (xs ((x3 + (1 : Int32))).toNatClampNeg) (0 : Int32) M273 (fun r279 M278 => ((r274 = r279 → (T_L_law_1409 B18 x3 M278)) ∧ (¬ r274 = r279 → False))))) ∧ (¬ (xs ((x3 + (2 : Int32))).toNatClampNeg) = 0 → (T_X12_clue (xs ((x3 + (1 : Int32))).toNatClampNeg) (1 : Int32) M273 (fun r282 M281 => ((r274 = r282 → (T_L_law_1409 B18 x3 M281)) ∧ (¬ r274 = r282 → False))))))))))) ∧ (¬ (xs ((x3 + (2 : Int32))).toNatClampNeg) = 0 → (T_X11_clue (xs ((x3 + (1 : Int32))).toNatClampNeg) (1 : Int32) M (fun r285 M284 => (vp_in (x3 + (1 : Int32)) L ∧ (vp_in (x3 + (2 : Int32)) L ∧ (((xs ((x3 + (2 : Int32))).toNatClampNeg) = 0 → (T_X12_clue (xs ((x3 + (1 : Int32))).toNatClampNeg) (0 : Int32) M284 (fun r290 M289 => ((r285 = r290 → (T_L_law_1409 B18 x3 M289)) ∧ (¬ r285 = r290 → False))))) ∧ (¬ (xs ((x3 + (2 : Int32))).toNatClampNeg) = 0 → (T_X12_clue (xs ((x3 + (1 : Int32))).toNatClampNeg) (1 : Int32) M284 (fun r293 M292 => ((r285 = r293 → (T_L_law_1409 B18 x3 M292)) ∧ (¬ r285 = r293 → False))))))))))))))
set_option maxHeartbeats 4000000 in
set_option maxRecDepth 100000 in
theorem w_L_case29 {p : Program} {l : Launch} {e : Env} {s : State} {m : MethodId} {below : List Frame} {meth : Method} {c : Code} {G : fx_G} {b L : Nat} {xs : Nat → Int32} {B18 : Int32 → Mm → Prop} (X : fx_C G p s m c #[Value.ref b] code 4 R_law) (hr : meth.sig.returnType = ret) (hk : meth.locks = false) (hX : va_X b L xs s s.heap) (hbl : b < s.heap.size) (hbA : ¬ fx_A G b) (hz0 : G.2.2.2 = s.heap.size) (hB18 : ∀ (x3 : Int32) (M : Mm) (H : Heap) (locs : List Loc) (ls : Array Slot), B18 x3 M → fx_H G SH M s H locs → lv_has ls 4 [(0, .ref b), (1, .ref (G.2.2.2 + 0)), (2, .ref (G.2.2.2 + 159)), (3, .int x3)] → W p l e room_1 s m #[Value.ref b] below meth c H locs 200 21639 (lw_Z below #[Value.ref b] s) (F0 m 18 ls [])) : ∀ (x3 : Int32) (M : Mm) (H : Heap) (locs : List Loc) (ls : Array Slot), T_L_case29 B18 L xs x3 M → fx_H G SH M s H locs → lv_has ls 4 [(0, .ref b), (1, .ref (G.2.2.2 + 0)), (2, .ref (G.2.2.2 + 159)), (3, .int x3)] → W p l e room_1 s m #[Value.ref b] below meth c H locs 200 21639 (lw_Z below #[Value.ref b] s) (F0 m 1127 ls []) := by
  obtain ⟨⟨hx, hb, hml, hown, hts⟩, hK, hQ⟩ := id X
  intro x3 M H locs ls hT h hl
  unfold T_L_case29 at hT
  refine lv_aload_n hx hb dL_law_1127 rfl (lv_at hl 1 rfl) ?_
  refine lv_aload_n hx hb dL_law_1128 rfl (lv_at hl 0 rfl) ?_
  refine lv_iload_n hx hb dL_law_1129 rfl (lv_at hl 3 rfl) ?_
  refine lv_iconst (v := 1) hx hb dL_law_1130 (by decide) ?_
  refine lv_iadd hx hb dL_law_1131 ?_
  obtain ⟨hi270, hT⟩ := hT
  refine va_sld hx hb hX hbl hbA h.2 hi270 dL_law_1132 ?_
  refine lv_aload_n hx hb dL_law_1133 rfl (lv_at hl 0 rfl) ?_
  refine lv_iload_n hx hb dL_law_1134 rfl (lv_at hl 3 rfl) ?_
  refine lv_iconst (v := 2) hx hb dL_law_1135 (by decide) ?_
  refine lv_iadd hx hb dL_law_1136 ?_
  obtain ⟨hi271, hT⟩ := hT
  refine va_sld hx hb hX hbl hbA h.2 hi271 dL_law_1137 ?_
  refine lv_if_eq (tgt := 1145) hx hb dL_law_1138 (by decide) (fun hc272 => ?_) (fun hc272 => ?_)
  · have hT := hT.1 hc272
    refine lv_iconst (v := 0) hx hb dL_law_1145 (by decide) ?_
    refine fx_vi X h ym_X11_clue yi_X11_clue ys_X11_clue (fx_s5 (List.mem_of_getElem? (i := 190) rfl) rfl) sh_0 rfl (c_X11_clue l G hT) (As := [.int (xs ((x3 + (1 : Int32))).toNatClampNeg), .int (0 : Int32)]) (rest := []) rfl rfl ⟨Nat.le_of_ble_eq_true rfl, Nat.le_of_ble_eq_true rfl⟩ ⟨Nat.le_of_ble_eq_true rfl, Nat.le_of_ble_eq_true rfl⟩ hl.1 (Nat.le_of_ble_eq_true rfl) dL_law_1146 (fun r274 M273 H locs hT h => ?_)
    refine lv_aload_n hx hb dL_law_1149 rfl (lv_at hl 2 rfl) ?_
    refine lv_aload_n hx hb dL_law_1150 rfl (lv_at hl 0 rfl) ?_
    refine lv_iload_n hx hb dL_law_1151 rfl (lv_at hl 3 rfl) ?_
    refine lv_iconst (v := 1) hx hb dL_law_1152 (by decide) ?_
    refine lv_iadd hx hb dL_law_1153 ?_
    obtain ⟨hi275, hT⟩ := hT
    refine va_sld hx hb hX hbl hbA h.2 hi275 dL_law_1154 ?_
    refine lv_aload_n hx hb dL_law_1155 rfl (lv_at hl 0 rfl) ?_
    refine lv_iload_n hx hb dL_law_1156 rfl (lv_at hl 3 rfl) ?_
    refine lv_iconst (v := 2) hx hb dL_law_1157 (by decide) ?_
    refine lv_iadd hx hb dL_law_1158 ?_
    obtain ⟨hi276, hT⟩ := hT
    refine va_sld hx hb hX hbl hbA h.2 hi276 dL_law_1159 ?_
    refine lv_if_eq (tgt := 1167) hx hb dL_law_1160 (by decide) (fun hc277 => ?_) (fun hc277 => ?_)
    · have hT := hT.1 hc277
      refine lv_iconst (v := 0) hx hb dL_law_1167 (by decide) ?_
      refine fx_vi X h ym_X12_clue yi_X12_clue ys_X12_clue (fx_s9 (List.mem_of_getElem? (i := 46) rfl) rfl) sh_159 rfl (c_X12_clue l G hT) (As := [.int (xs ((x3 + (1 : Int32))).toNatClampNeg), .int (0 : Int32)]) (rest := [.int r274]) rfl rfl ⟨Nat.le_of_ble_eq_true rfl, Nat.le_of_ble_eq_true rfl⟩ ⟨Nat.le_of_ble_eq_true rfl, Nat.le_of_ble_eq_true rfl⟩ hl.1 (Nat.le_of_ble_eq_true rfl) dL_law_1168 (fun r279 M278 H locs hT h => ?_)
      refine lv_icmp_eq (tgt := 1409) hx hb dL_law_1171 (by decide) (fun hc280 => ?_) (fun hc280 => ?_)
      · have hT := hT.1 hc280
        exact w_L_law_1409 X hr hk hX hbl hbA hz0 hB18 x3 M278 _ _ ls hT h hl
      · have hT := hT.2 hc280
        refine lv_iconst (v := 0) hx hb dL_law_1174 (by decide) ?_
        exact hT.elim
    · have hT := hT.2 hc277
      refine lv_iconst (v := 1) hx hb dL_law_1163 (by decide) ?_
      refine lv_goto (tgt := 1168) hx hb dL_law_1164 (by decide) ?_
      refine fx_vi X h ym_X12_clue yi_X12_clue ys_X12_clue (fx_s9 (List.mem_of_getElem? (i := 46) rfl) rfl) sh_159 rfl (c_X12_clue l G hT) (As := [.int (xs ((x3 + (1 : Int32))).toNatClampNeg), .int (1 : Int32)]) (rest := [.int r274]) rfl rfl ⟨Nat.le_of_ble_eq_true rfl, Nat.le_of_ble_eq_true rfl⟩ ⟨Nat.le_of_ble_eq_true rfl, Nat.le_of_ble_eq_true rfl⟩ hl.1 (Nat.le_of_ble_eq_true rfl) dL_law_1168 (fun r282 M281 H locs hT h => ?_)
      refine lv_icmp_eq (tgt := 1409) hx hb dL_law_1171 (by decide) (fun hc283 => ?_) (fun hc283 => ?_)
      · have hT := hT.1 hc283
        exact w_L_law_1409 X hr hk hX hbl hbA hz0 hB18 x3 M281 _ _ ls hT h hl
      · have hT := hT.2 hc283
        refine lv_iconst (v := 0) hx hb dL_law_1174 (by decide) ?_
        exact hT.elim
  · have hT := hT.2 hc272
    refine lv_iconst (v := 1) hx hb dL_law_1141 (by decide) ?_
    refine lv_goto (tgt := 1146) hx hb dL_law_1142 (by decide) ?_
    refine fx_vi X h ym_X11_clue yi_X11_clue ys_X11_clue (fx_s5 (List.mem_of_getElem? (i := 190) rfl) rfl) sh_0 rfl (c_X11_clue l G hT) (As := [.int (xs ((x3 + (1 : Int32))).toNatClampNeg), .int (1 : Int32)]) (rest := []) rfl rfl ⟨Nat.le_of_ble_eq_true rfl, Nat.le_of_ble_eq_true rfl⟩ ⟨Nat.le_of_ble_eq_true rfl, Nat.le_of_ble_eq_true rfl⟩ hl.1 (Nat.le_of_ble_eq_true rfl) dL_law_1146 (fun r285 M284 H locs hT h => ?_)
    refine lv_aload_n hx hb dL_law_1149 rfl (lv_at hl 2 rfl) ?_
    refine lv_aload_n hx hb dL_law_1150 rfl (lv_at hl 0 rfl) ?_
    refine lv_iload_n hx hb dL_law_1151 rfl (lv_at hl 3 rfl) ?_
    refine lv_iconst (v := 1) hx hb dL_law_1152 (by decide) ?_
    refine lv_iadd hx hb dL_law_1153 ?_
    obtain ⟨hi286, hT⟩ := hT
    refine va_sld hx hb hX hbl hbA h.2 hi286 dL_law_1154 ?_
    refine lv_aload_n hx hb dL_law_1155 rfl (lv_at hl 0 rfl) ?_
    refine lv_iload_n hx hb dL_law_1156 rfl (lv_at hl 3 rfl) ?_
    refine lv_iconst (v := 2) hx hb dL_law_1157 (by decide) ?_
    refine lv_iadd hx hb dL_law_1158 ?_
    obtain ⟨hi287, hT⟩ := hT
    refine va_sld hx hb hX hbl hbA h.2 hi287 dL_law_1159 ?_
    refine lv_if_eq (tgt := 1167) hx hb dL_law_1160 (by decide) (fun hc288 => ?_) (fun hc288 => ?_)
    · have hT := hT.1 hc288
      refine lv_iconst (v := 0) hx hb dL_law_1167 (by decide) ?_
      refine fx_vi X h ym_X12_clue yi_X12_clue ys_X12_clue (fx_s9 (List.mem_of_getElem? (i := 46) rfl) rfl) sh_159 rfl (c_X12_clue l G hT) (As := [.int (xs ((x3 + (1 : Int32))).toNatClampNeg), .int (0 : Int32)]) (rest := [.int r285]) rfl rfl ⟨Nat.le_of_ble_eq_true rfl, Nat.le_of_ble_eq_true rfl⟩ ⟨Nat.le_of_ble_eq_true rfl, Nat.le_of_ble_eq_true rfl⟩ hl.1 (Nat.le_of_ble_eq_true rfl) dL_law_1168 (fun r290 M289 H locs hT h => ?_)
      refine lv_icmp_eq (tgt := 1409) hx hb dL_law_1171 (by decide) (fun hc291 => ?_) (fun hc291 => ?_)
      · have hT := hT.1 hc291
        exact w_L_law_1409 X hr hk hX hbl hbA hz0 hB18 x3 M289 _ _ ls hT h hl
      · have hT := hT.2 hc291
        refine lv_iconst (v := 0) hx hb dL_law_1174 (by decide) ?_
        exact hT.elim
    · have hT := hT.2 hc288
      refine lv_iconst (v := 1) hx hb dL_law_1163 (by decide) ?_
      refine lv_goto (tgt := 1168) hx hb dL_law_1164 (by decide) ?_
      refine fx_vi X h ym_X12_clue yi_X12_clue ys_X12_clue (fx_s9 (List.mem_of_getElem? (i := 46) rfl) rfl) sh_159 rfl (c_X12_clue l G hT) (As := [.int (xs ((x3 + (1 : Int32))).toNatClampNeg), .int (1 : Int32)]) (rest := [.int r285]) rfl rfl ⟨Nat.le_of_ble_eq_true rfl, Nat.le_of_ble_eq_true rfl⟩ ⟨Nat.le_of_ble_eq_true rfl, Nat.le_of_ble_eq_true rfl⟩ hl.1 (Nat.le_of_ble_eq_true rfl) dL_law_1168 (fun r293 M292 H locs hT h => ?_)
      refine lv_icmp_eq (tgt := 1409) hx hb dL_law_1171 (by decide) (fun hc294 => ?_) (fun hc294 => ?_)
      · have hT := hT.1 hc294
        exact w_L_law_1409 X hr hk hX hbl hbA hz0 hB18 x3 M292 _ _ ls hT h hl
      · have hT := hT.2 hc294
        refine lv_iconst (v := 0) hx hb dL_law_1174 (by decide) ?_
        exact hT.elim
def T_L_case30 (B18 : Int32 → Mm → Prop) (L : Nat) (xs : Nat → Int32) (x3 : Int32) (M : Mm) : Prop := (vp_in (x3 + (1 : Int32)) L ∧ (T_X11_which (xs ((x3 + (1 : Int32))).toNatClampNeg) M (fun r297 M296 => (vp_in (x3 + (1 : Int32)) L ∧ (T_X12_which (xs ((x3 + (1 : Int32))).toNatClampNeg) M296 (fun r300 M299 => ((r297 = r300 → (T_L_law_1409 B18 x3 M299)) ∧ (¬ r297 = r300 → False))))))))
set_option maxHeartbeats 4000000 in
set_option maxRecDepth 100000 in
theorem w_L_case30 {p : Program} {l : Launch} {e : Env} {s : State} {m : MethodId} {below : List Frame} {meth : Method} {c : Code} {G : fx_G} {b L : Nat} {xs : Nat → Int32} {B18 : Int32 → Mm → Prop} (X : fx_C G p s m c #[Value.ref b] code 4 R_law) (hr : meth.sig.returnType = ret) (hk : meth.locks = false) (hX : va_X b L xs s s.heap) (hbl : b < s.heap.size) (hbA : ¬ fx_A G b) (hz0 : G.2.2.2 = s.heap.size) (hB18 : ∀ (x3 : Int32) (M : Mm) (H : Heap) (locs : List Loc) (ls : Array Slot), B18 x3 M → fx_H G SH M s H locs → lv_has ls 4 [(0, .ref b), (1, .ref (G.2.2.2 + 0)), (2, .ref (G.2.2.2 + 159)), (3, .int x3)] → W p l e room_1 s m #[Value.ref b] below meth c H locs 200 21639 (lw_Z below #[Value.ref b] s) (F0 m 18 ls [])) : ∀ (x3 : Int32) (M : Mm) (H : Heap) (locs : List Loc) (ls : Array Slot), T_L_case30 B18 L xs x3 M → fx_H G SH M s H locs → lv_has ls 4 [(0, .ref b), (1, .ref (G.2.2.2 + 0)), (2, .ref (G.2.2.2 + 159)), (3, .int x3)] → W p l e room_1 s m #[Value.ref b] below meth c H locs 200 21639 (lw_Z below #[Value.ref b] s) (F0 m 1176 ls []) := by
  obtain ⟨⟨hx, hb, hml, hown, hts⟩, hK, hQ⟩ := id X
  intro x3 M H locs ls hT h hl
  unfold T_L_case30 at hT
  refine lv_aload_n hx hb dL_law_1176 rfl (lv_at hl 1 rfl) ?_
  refine lv_aload_n hx hb dL_law_1177 rfl (lv_at hl 0 rfl) ?_
  refine lv_iload_n hx hb dL_law_1178 rfl (lv_at hl 3 rfl) ?_
  refine lv_iconst (v := 1) hx hb dL_law_1179 (by decide) ?_
  refine lv_iadd hx hb dL_law_1180 ?_
  obtain ⟨hi295, hT⟩ := hT
  refine va_sld hx hb hX hbl hbA h.2 hi295 dL_law_1181 ?_
  refine fx_vi X h ym_X11_which yi_X11_which ys_X11_which (fx_s5 (List.mem_of_getElem? (i := 195) rfl) rfl) sh_0 rfl (c_X11_which l G hT) (As := [.int (xs ((x3 + (1 : Int32))).toNatClampNeg)]) (rest := []) rfl rfl ⟨Nat.le_of_ble_eq_true rfl, Nat.le_of_ble_eq_true rfl⟩ ⟨Nat.le_of_ble_eq_true rfl, Nat.le_of_ble_eq_true rfl⟩ hl.1 (Nat.le_of_ble_eq_true rfl) dL_law_1182 (fun r297 M296 H locs hT h => ?_)
  refine lv_aload_n hx hb dL_law_1185 rfl (lv_at hl 2 rfl) ?_
  refine lv_aload_n hx hb dL_law_1186 rfl (lv_at hl 0 rfl) ?_
  refine lv_iload_n hx hb dL_law_1187 rfl (lv_at hl 3 rfl) ?_
  refine lv_iconst (v := 1) hx hb dL_law_1188 (by decide) ?_
  refine lv_iadd hx hb dL_law_1189 ?_
  obtain ⟨hi298, hT⟩ := hT
  refine va_sld hx hb hX hbl hbA h.2 hi298 dL_law_1190 ?_
  refine fx_vi X h ym_X12_which yi_X12_which ys_X12_which (fx_s9 (List.mem_of_getElem? (i := 51) rfl) rfl) sh_159 rfl (c_X12_which l G hT) (As := [.int (xs ((x3 + (1 : Int32))).toNatClampNeg)]) (rest := [.int r297]) rfl rfl ⟨Nat.le_of_ble_eq_true rfl, Nat.le_of_ble_eq_true rfl⟩ ⟨Nat.le_of_ble_eq_true rfl, Nat.le_of_ble_eq_true rfl⟩ hl.1 (Nat.le_of_ble_eq_true rfl) dL_law_1191 (fun r300 M299 H locs hT h => ?_)
  refine lv_icmp_eq (tgt := 1409) hx hb dL_law_1194 (by decide) (fun hc301 => ?_) (fun hc301 => ?_)
  · have hT := hT.1 hc301
    exact w_L_law_1409 X hr hk hX hbl hbA hz0 hB18 x3 M299 _ _ ls hT h hl
  · have hT := hT.2 hc301
    refine lv_iconst (v := 0) hx hb dL_law_1197 (by decide) ?_
    exact hT.elim
def T_L_case31 (B18 : Int32 → Mm → Prop) (L : Nat) (xs : Nat → Int32) (x3 : Int32) (M : Mm) : Prop := (vp_in (x3 + (1 : Int32)) L ∧ (T_X11_police (xs ((x3 + (1 : Int32))).toNatClampNeg) M (fun r304 M303 => (vp_in (x3 + (1 : Int32)) L ∧ (T_X12_police (xs ((x3 + (1 : Int32))).toNatClampNeg) M303 (fun r307 M306 => ((r304 = r307 → (T_L_law_1409 B18 x3 M306)) ∧ (¬ r304 = r307 → False))))))))
set_option maxHeartbeats 4000000 in
set_option maxRecDepth 100000 in
theorem w_L_case31 {p : Program} {l : Launch} {e : Env} {s : State} {m : MethodId} {below : List Frame} {meth : Method} {c : Code} {G : fx_G} {b L : Nat} {xs : Nat → Int32} {B18 : Int32 → Mm → Prop} (X : fx_C G p s m c #[Value.ref b] code 4 R_law) (hr : meth.sig.returnType = ret) (hk : meth.locks = false) (hX : va_X b L xs s s.heap) (hbl : b < s.heap.size) (hbA : ¬ fx_A G b) (hz0 : G.2.2.2 = s.heap.size) (hB18 : ∀ (x3 : Int32) (M : Mm) (H : Heap) (locs : List Loc) (ls : Array Slot), B18 x3 M → fx_H G SH M s H locs → lv_has ls 4 [(0, .ref b), (1, .ref (G.2.2.2 + 0)), (2, .ref (G.2.2.2 + 159)), (3, .int x3)] → W p l e room_1 s m #[Value.ref b] below meth c H locs 200 21639 (lw_Z below #[Value.ref b] s) (F0 m 18 ls [])) : ∀ (x3 : Int32) (M : Mm) (H : Heap) (locs : List Loc) (ls : Array Slot), T_L_case31 B18 L xs x3 M → fx_H G SH M s H locs → lv_has ls 4 [(0, .ref b), (1, .ref (G.2.2.2 + 0)), (2, .ref (G.2.2.2 + 159)), (3, .int x3)] → W p l e room_1 s m #[Value.ref b] below meth c H locs 200 21639 (lw_Z below #[Value.ref b] s) (F0 m 1199 ls []) := by
  obtain ⟨⟨hx, hb, hml, hown, hts⟩, hK, hQ⟩ := id X
  intro x3 M H locs ls hT h hl
  unfold T_L_case31 at hT
  refine lv_aload_n hx hb dL_law_1199 rfl (lv_at hl 1 rfl) ?_
  refine lv_aload_n hx hb dL_law_1200 rfl (lv_at hl 0 rfl) ?_
  refine lv_iload_n hx hb dL_law_1201 rfl (lv_at hl 3 rfl) ?_
  refine lv_iconst (v := 1) hx hb dL_law_1202 (by decide) ?_
  refine lv_iadd hx hb dL_law_1203 ?_
  obtain ⟨hi302, hT⟩ := hT
  refine va_sld hx hb hX hbl hbA h.2 hi302 dL_law_1204 ?_
  refine fx_vi X h ym_X11_police yi_X11_police ys_X11_police (fx_s5 (List.mem_of_getElem? (i := 211) rfl) rfl) sh_0 rfl (c_X11_police l G hT) (As := [.int (xs ((x3 + (1 : Int32))).toNatClampNeg)]) (rest := []) rfl rfl ⟨Nat.le_of_ble_eq_true rfl, Nat.le_of_ble_eq_true rfl⟩ ⟨Nat.le_of_ble_eq_true rfl, Nat.le_of_ble_eq_true rfl⟩ hl.1 (Nat.le_of_ble_eq_true rfl) dL_law_1205 (fun r304 M303 H locs hT h => ?_)
  refine lv_aload_n hx hb dL_law_1208 rfl (lv_at hl 2 rfl) ?_
  refine lv_aload_n hx hb dL_law_1209 rfl (lv_at hl 0 rfl) ?_
  refine lv_iload_n hx hb dL_law_1210 rfl (lv_at hl 3 rfl) ?_
  refine lv_iconst (v := 1) hx hb dL_law_1211 (by decide) ?_
  refine lv_iadd hx hb dL_law_1212 ?_
  obtain ⟨hi305, hT⟩ := hT
  refine va_sld hx hb hX hbl hbA h.2 hi305 dL_law_1213 ?_
  refine fx_vi X h ym_X12_police yi_X12_police ys_X12_police (fx_s9 (List.mem_of_getElem? (i := 63) rfl) rfl) sh_159 rfl (c_X12_police l G hT) (As := [.int (xs ((x3 + (1 : Int32))).toNatClampNeg)]) (rest := [.int r304]) rfl rfl ⟨Nat.le_of_ble_eq_true rfl, Nat.le_of_ble_eq_true rfl⟩ ⟨Nat.le_of_ble_eq_true rfl, Nat.le_of_ble_eq_true rfl⟩ hl.1 (Nat.le_of_ble_eq_true rfl) dL_law_1214 (fun r307 M306 H locs hT h => ?_)
  refine lv_icmp_eq (tgt := 1409) hx hb dL_law_1217 (by decide) (fun hc308 => ?_) (fun hc308 => ?_)
  · have hT := hT.1 hc308
    exact w_L_law_1409 X hr hk hX hbl hbA hz0 hB18 x3 M306 _ _ ls hT h hl
  · have hT := hT.2 hc308
    refine lv_iconst (v := 0) hx hb dL_law_1220 (by decide) ?_
    exact hT.elim
def T_L_case32 (B18 : Int32 → Mm → Prop) (L : Nat) (xs : Nat → Int32) (x3 : Int32) (M : Mm) : Prop := (vp_in (x3 + (1 : Int32)) L ∧ (T_X11_every (xs ((x3 + (1 : Int32))).toNatClampNeg) M (fun r311 M310 => (vp_in (x3 + (1 : Int32)) L ∧ (T_X12_every (xs ((x3 + (1 : Int32))).toNatClampNeg) M310 (fun r314 M313 => ((r311 = r314 → (T_L_law_1409 B18 x3 M313)) ∧ (¬ r311 = r314 → False))))))))
set_option maxHeartbeats 4000000 in
set_option maxRecDepth 100000 in
theorem w_L_case32 {p : Program} {l : Launch} {e : Env} {s : State} {m : MethodId} {below : List Frame} {meth : Method} {c : Code} {G : fx_G} {b L : Nat} {xs : Nat → Int32} {B18 : Int32 → Mm → Prop} (X : fx_C G p s m c #[Value.ref b] code 4 R_law) (hr : meth.sig.returnType = ret) (hk : meth.locks = false) (hX : va_X b L xs s s.heap) (hbl : b < s.heap.size) (hbA : ¬ fx_A G b) (hz0 : G.2.2.2 = s.heap.size) (hB18 : ∀ (x3 : Int32) (M : Mm) (H : Heap) (locs : List Loc) (ls : Array Slot), B18 x3 M → fx_H G SH M s H locs → lv_has ls 4 [(0, .ref b), (1, .ref (G.2.2.2 + 0)), (2, .ref (G.2.2.2 + 159)), (3, .int x3)] → W p l e room_1 s m #[Value.ref b] below meth c H locs 200 21639 (lw_Z below #[Value.ref b] s) (F0 m 18 ls [])) : ∀ (x3 : Int32) (M : Mm) (H : Heap) (locs : List Loc) (ls : Array Slot), T_L_case32 B18 L xs x3 M → fx_H G SH M s H locs → lv_has ls 4 [(0, .ref b), (1, .ref (G.2.2.2 + 0)), (2, .ref (G.2.2.2 + 159)), (3, .int x3)] → W p l e room_1 s m #[Value.ref b] below meth c H locs 200 21639 (lw_Z below #[Value.ref b] s) (F0 m 1222 ls []) := by
  obtain ⟨⟨hx, hb, hml, hown, hts⟩, hK, hQ⟩ := id X
  intro x3 M H locs ls hT h hl
  unfold T_L_case32 at hT
  refine lv_aload_n hx hb dL_law_1222 rfl (lv_at hl 1 rfl) ?_
  refine lv_aload_n hx hb dL_law_1223 rfl (lv_at hl 0 rfl) ?_
  refine lv_iload_n hx hb dL_law_1224 rfl (lv_at hl 3 rfl) ?_
  refine lv_iconst (v := 1) hx hb dL_law_1225 (by decide) ?_
  refine lv_iadd hx hb dL_law_1226 ?_
  obtain ⟨hi309, hT⟩ := hT
  refine va_sld hx hb hX hbl hbA h.2 hi309 dL_law_1227 ?_
  refine fx_vi X h ym_X11_every yi_X11_every ys_X11_every (fx_s5 (List.mem_of_getElem? (i := 215) rfl) rfl) sh_0 rfl (c_X11_every l G hT) (As := [.int (xs ((x3 + (1 : Int32))).toNatClampNeg)]) (rest := []) rfl rfl ⟨Nat.le_of_ble_eq_true rfl, Nat.le_of_ble_eq_true rfl⟩ ⟨Nat.le_of_ble_eq_true rfl, Nat.le_of_ble_eq_true rfl⟩ hl.1 (Nat.le_of_ble_eq_true rfl) dL_law_1228 (fun r311 M310 H locs hT h => ?_)
  refine lv_aload_n hx hb dL_law_1231 rfl (lv_at hl 2 rfl) ?_
  refine lv_aload_n hx hb dL_law_1232 rfl (lv_at hl 0 rfl) ?_
  refine lv_iload_n hx hb dL_law_1233 rfl (lv_at hl 3 rfl) ?_
  refine lv_iconst (v := 1) hx hb dL_law_1234 (by decide) ?_
  refine lv_iadd hx hb dL_law_1235 ?_
  obtain ⟨hi312, hT⟩ := hT
  refine va_sld hx hb hX hbl hbA h.2 hi312 dL_law_1236 ?_
  refine fx_vi X h ym_X12_every yi_X12_every ys_X12_every (fx_s9 (List.mem_of_getElem? (i := 67) rfl) rfl) sh_159 rfl (c_X12_every l G hT) (As := [.int (xs ((x3 + (1 : Int32))).toNatClampNeg)]) (rest := [.int r311]) rfl rfl ⟨Nat.le_of_ble_eq_true rfl, Nat.le_of_ble_eq_true rfl⟩ ⟨Nat.le_of_ble_eq_true rfl, Nat.le_of_ble_eq_true rfl⟩ hl.1 (Nat.le_of_ble_eq_true rfl) dL_law_1237 (fun r314 M313 H locs hT h => ?_)
  refine lv_icmp_eq (tgt := 1409) hx hb dL_law_1240 (by decide) (fun hc315 => ?_) (fun hc315 => ?_)
  · have hT := hT.1 hc315
    exact w_L_law_1409 X hr hk hX hbl hbA hz0 hB18 x3 M313 _ _ ls hT h hl
  · have hT := hT.2 hc315
    refine lv_iconst (v := 0) hx hb dL_law_1243 (by decide) ?_
    exact hT.elim
def T_L_case33 (B18 : Int32 → Mm → Prop) (L : Nat) (xs : Nat → Int32) (x3 : Int32) (M : Mm) : Prop := (vp_in (x3 + (1 : Int32)) L ∧ (vp_in (x3 + (2 : Int32)) L ∧ (vp_in (x3 + (3 : Int32)) L ∧ (T_X11_shill (xs ((x3 + (1 : Int32))).toNatClampNeg) (xs ((x3 + (2 : Int32))).toNatClampNeg) (xs ((x3 + (3 : Int32))).toNatClampNeg) M (fun r320 M319 => (vp_in (x3 + (1 : Int32)) L ∧ (vp_in (x3 + (2 : Int32)) L ∧ (vp_in (x3 + (3 : Int32)) L ∧ (T_X12_shill (xs ((x3 + (1 : Int32))).toNatClampNeg) (xs ((x3 + (2 : Int32))).toNatClampNeg) (xs ((x3 + (3 : Int32))).toNatClampNeg) M319 (fun r325 M324 => ((r320 = r325 → (T_L_law_1409 B18 x3 M324)) ∧ (¬ r320 = r325 → False))))))))))))
set_option maxHeartbeats 4000000 in
set_option maxRecDepth 100000 in
theorem w_L_case33 {p : Program} {l : Launch} {e : Env} {s : State} {m : MethodId} {below : List Frame} {meth : Method} {c : Code} {G : fx_G} {b L : Nat} {xs : Nat → Int32} {B18 : Int32 → Mm → Prop} (X : fx_C G p s m c #[Value.ref b] code 4 R_law) (hr : meth.sig.returnType = ret) (hk : meth.locks = false) (hX : va_X b L xs s s.heap) (hbl : b < s.heap.size) (hbA : ¬ fx_A G b) (hz0 : G.2.2.2 = s.heap.size) (hB18 : ∀ (x3 : Int32) (M : Mm) (H : Heap) (locs : List Loc) (ls : Array Slot), B18 x3 M → fx_H G SH M s H locs → lv_has ls 4 [(0, .ref b), (1, .ref (G.2.2.2 + 0)), (2, .ref (G.2.2.2 + 159)), (3, .int x3)] → W p l e room_1 s m #[Value.ref b] below meth c H locs 200 21639 (lw_Z below #[Value.ref b] s) (F0 m 18 ls [])) : ∀ (x3 : Int32) (M : Mm) (H : Heap) (locs : List Loc) (ls : Array Slot), T_L_case33 B18 L xs x3 M → fx_H G SH M s H locs → lv_has ls 4 [(0, .ref b), (1, .ref (G.2.2.2 + 0)), (2, .ref (G.2.2.2 + 159)), (3, .int x3)] → W p l e room_1 s m #[Value.ref b] below meth c H locs 200 21639 (lw_Z below #[Value.ref b] s) (F0 m 1245 ls []) := by
  obtain ⟨⟨hx, hb, hml, hown, hts⟩, hK, hQ⟩ := id X
  intro x3 M H locs ls hT h hl
  unfold T_L_case33 at hT
  refine lv_aload_n hx hb dL_law_1245 rfl (lv_at hl 1 rfl) ?_
  refine lv_aload_n hx hb dL_law_1246 rfl (lv_at hl 0 rfl) ?_
  refine lv_iload_n hx hb dL_law_1247 rfl (lv_at hl 3 rfl) ?_
  refine lv_iconst (v := 1) hx hb dL_law_1248 (by decide) ?_
  refine lv_iadd hx hb dL_law_1249 ?_
  obtain ⟨hi316, hT⟩ := hT
  refine va_sld hx hb hX hbl hbA h.2 hi316 dL_law_1250 ?_
  refine lv_aload_n hx hb dL_law_1251 rfl (lv_at hl 0 rfl) ?_
  refine lv_iload_n hx hb dL_law_1252 rfl (lv_at hl 3 rfl) ?_
  refine lv_iconst (v := 2) hx hb dL_law_1253 (by decide) ?_
  refine lv_iadd hx hb dL_law_1254 ?_
  obtain ⟨hi317, hT⟩ := hT
  refine va_sld hx hb hX hbl hbA h.2 hi317 dL_law_1255 ?_
  refine lv_aload_n hx hb dL_law_1256 rfl (lv_at hl 0 rfl) ?_
  refine lv_iload_n hx hb dL_law_1257 rfl (lv_at hl 3 rfl) ?_
  refine lv_iconst (v := 3) hx hb dL_law_1258 (by decide) ?_
  refine lv_iadd hx hb dL_law_1259 ?_
  obtain ⟨hi318, hT⟩ := hT
  refine va_sld hx hb hX hbl hbA h.2 hi318 dL_law_1260 ?_
  refine fx_vi X h ym_X11_shill yi_X11_shill ys_X11_shill (fx_s5 (List.mem_of_getElem? (i := 233) rfl) rfl) sh_0 rfl (c_X11_shill l G hT) (As := [.int (xs ((x3 + (1 : Int32))).toNatClampNeg), .int (xs ((x3 + (2 : Int32))).toNatClampNeg), .int (xs ((x3 + (3 : Int32))).toNatClampNeg)]) (rest := []) rfl rfl ⟨Nat.le_of_ble_eq_true rfl, Nat.le_of_ble_eq_true rfl⟩ ⟨Nat.le_of_ble_eq_true rfl, Nat.le_of_ble_eq_true rfl⟩ hl.1 (Nat.le_of_ble_eq_true rfl) dL_law_1261 (fun r320 M319 H locs hT h => ?_)
  refine lv_aload_n hx hb dL_law_1264 rfl (lv_at hl 2 rfl) ?_
  refine lv_aload_n hx hb dL_law_1265 rfl (lv_at hl 0 rfl) ?_
  refine lv_iload_n hx hb dL_law_1266 rfl (lv_at hl 3 rfl) ?_
  refine lv_iconst (v := 1) hx hb dL_law_1267 (by decide) ?_
  refine lv_iadd hx hb dL_law_1268 ?_
  obtain ⟨hi321, hT⟩ := hT
  refine va_sld hx hb hX hbl hbA h.2 hi321 dL_law_1269 ?_
  refine lv_aload_n hx hb dL_law_1270 rfl (lv_at hl 0 rfl) ?_
  refine lv_iload_n hx hb dL_law_1271 rfl (lv_at hl 3 rfl) ?_
  refine lv_iconst (v := 2) hx hb dL_law_1272 (by decide) ?_
  refine lv_iadd hx hb dL_law_1273 ?_
  obtain ⟨hi322, hT⟩ := hT
  refine va_sld hx hb hX hbl hbA h.2 hi322 dL_law_1274 ?_
  refine lv_aload_n hx hb dL_law_1275 rfl (lv_at hl 0 rfl) ?_
  refine lv_iload_n hx hb dL_law_1276 rfl (lv_at hl 3 rfl) ?_
  refine lv_iconst (v := 3) hx hb dL_law_1277 (by decide) ?_
  refine lv_iadd hx hb dL_law_1278 ?_
  obtain ⟨hi323, hT⟩ := hT
  refine va_sld hx hb hX hbl hbA h.2 hi323 dL_law_1279 ?_
  refine fx_vi X h ym_X12_shill yi_X12_shill ys_X12_shill (fx_s9 (List.mem_of_getElem? (i := 79) rfl) rfl) sh_159 rfl (c_X12_shill l G hT) (As := [.int (xs ((x3 + (1 : Int32))).toNatClampNeg), .int (xs ((x3 + (2 : Int32))).toNatClampNeg), .int (xs ((x3 + (3 : Int32))).toNatClampNeg)]) (rest := [.int r320]) rfl rfl ⟨Nat.le_of_ble_eq_true rfl, Nat.le_of_ble_eq_true rfl⟩ ⟨Nat.le_of_ble_eq_true rfl, Nat.le_of_ble_eq_true rfl⟩ hl.1 (Nat.le_of_ble_eq_true rfl) dL_law_1280 (fun r325 M324 H locs hT h => ?_)
  refine lv_icmp_eq (tgt := 1409) hx hb dL_law_1283 (by decide) (fun hc326 => ?_) (fun hc326 => ?_)
  · have hT := hT.1 hc326
    exact w_L_law_1409 X hr hk hX hbl hbA hz0 hB18 x3 M324 _ _ ls hT h hl
  · have hT := hT.2 hc326
    refine lv_iconst (v := 0) hx hb dL_law_1286 (by decide) ?_
    exact hT.elim
def T_L_case34 (B18 : Int32 → Mm → Prop) (L : Nat) (xs : Nat → Int32) (x3 : Int32) (M : Mm) : Prop := (vp_in (x3 + (1 : Int32)) L ∧ (T_X11_halves (xs ((x3 + (1 : Int32))).toNatClampNeg) M (fun r329 M328 => (vp_in (x3 + (1 : Int32)) L ∧ (T_X12_halves (xs ((x3 + (1 : Int32))).toNatClampNeg) M328 (fun r332 M331 => ((r329 = r332 → (T_L_law_1409 B18 x3 M331)) ∧ (¬ r329 = r332 → False))))))))
set_option maxHeartbeats 4000000 in
set_option maxRecDepth 100000 in
theorem w_L_case34 {p : Program} {l : Launch} {e : Env} {s : State} {m : MethodId} {below : List Frame} {meth : Method} {c : Code} {G : fx_G} {b L : Nat} {xs : Nat → Int32} {B18 : Int32 → Mm → Prop} (X : fx_C G p s m c #[Value.ref b] code 4 R_law) (hr : meth.sig.returnType = ret) (hk : meth.locks = false) (hX : va_X b L xs s s.heap) (hbl : b < s.heap.size) (hbA : ¬ fx_A G b) (hz0 : G.2.2.2 = s.heap.size) (hB18 : ∀ (x3 : Int32) (M : Mm) (H : Heap) (locs : List Loc) (ls : Array Slot), B18 x3 M → fx_H G SH M s H locs → lv_has ls 4 [(0, .ref b), (1, .ref (G.2.2.2 + 0)), (2, .ref (G.2.2.2 + 159)), (3, .int x3)] → W p l e room_1 s m #[Value.ref b] below meth c H locs 200 21639 (lw_Z below #[Value.ref b] s) (F0 m 18 ls [])) : ∀ (x3 : Int32) (M : Mm) (H : Heap) (locs : List Loc) (ls : Array Slot), T_L_case34 B18 L xs x3 M → fx_H G SH M s H locs → lv_has ls 4 [(0, .ref b), (1, .ref (G.2.2.2 + 0)), (2, .ref (G.2.2.2 + 159)), (3, .int x3)] → W p l e room_1 s m #[Value.ref b] below meth c H locs 200 21639 (lw_Z below #[Value.ref b] s) (F0 m 1288 ls []) := by
  obtain ⟨⟨hx, hb, hml, hown, hts⟩, hK, hQ⟩ := id X
  intro x3 M H locs ls hT h hl
  unfold T_L_case34 at hT
  refine lv_aload_n hx hb dL_law_1288 rfl (lv_at hl 1 rfl) ?_
  refine lv_aload_n hx hb dL_law_1289 rfl (lv_at hl 0 rfl) ?_
  refine lv_iload_n hx hb dL_law_1290 rfl (lv_at hl 3 rfl) ?_
  refine lv_iconst (v := 1) hx hb dL_law_1291 (by decide) ?_
  refine lv_iadd hx hb dL_law_1292 ?_
  obtain ⟨hi327, hT⟩ := hT
  refine va_sld hx hb hX hbl hbA h.2 hi327 dL_law_1293 ?_
  refine fx_vi X h ym_X11_halves yi_X11_halves ys_X11_halves (fx_s6 (List.mem_of_getElem? (i := 7) rfl) rfl) sh_0 rfl (c_X11_halves l G hT) (As := [.int (xs ((x3 + (1 : Int32))).toNatClampNeg)]) (rest := []) rfl rfl ⟨Nat.le_of_ble_eq_true rfl, Nat.le_of_ble_eq_true rfl⟩ ⟨Nat.le_of_ble_eq_true rfl, Nat.le_of_ble_eq_true rfl⟩ hl.1 (Nat.le_of_ble_eq_true rfl) dL_law_1294 (fun r329 M328 H locs hT h => ?_)
  refine lv_aload_n hx hb dL_law_1297 rfl (lv_at hl 2 rfl) ?_
  refine lv_aload_n hx hb dL_law_1298 rfl (lv_at hl 0 rfl) ?_
  refine lv_iload_n hx hb dL_law_1299 rfl (lv_at hl 3 rfl) ?_
  refine lv_iconst (v := 1) hx hb dL_law_1300 (by decide) ?_
  refine lv_iadd hx hb dL_law_1301 ?_
  obtain ⟨hi330, hT⟩ := hT
  refine va_sld hx hb hX hbl hbA h.2 hi330 dL_law_1302 ?_
  refine fx_vi X h ym_X12_halves yi_X12_halves ys_X12_halves (fx_s9 (List.mem_of_getElem? (i := 92) rfl) rfl) sh_159 rfl (c_X12_halves l G hT) (As := [.int (xs ((x3 + (1 : Int32))).toNatClampNeg)]) (rest := [.int r329]) rfl rfl ⟨Nat.le_of_ble_eq_true rfl, Nat.le_of_ble_eq_true rfl⟩ ⟨Nat.le_of_ble_eq_true rfl, Nat.le_of_ble_eq_true rfl⟩ hl.1 (Nat.le_of_ble_eq_true rfl) dL_law_1303 (fun r332 M331 H locs hT h => ?_)
  refine lv_icmp_eq (tgt := 1409) hx hb dL_law_1306 (by decide) (fun hc333 => ?_) (fun hc333 => ?_)
  · have hT := hT.1 hc333
    exact w_L_law_1409 X hr hk hX hbl hbA hz0 hB18 x3 M331 _ _ ls hT h hl
  · have hT := hT.2 hc333
    refine lv_iconst (v := 0) hx hb dL_law_1309 (by decide) ?_
    exact hT.elim
def T_L_case35 (B18 : Int32 → Mm → Prop) (L : Nat) (xs : Nat → Int32) (x3 : Int32) (M : Mm) : Prop := (vp_in (x3 + (1 : Int32)) L ∧ (T_X11_game (xs ((x3 + (1 : Int32))).toNatClampNeg) M (fun r336 M335 => (vp_in (x3 + (1 : Int32)) L ∧ (T_X12_game (xs ((x3 + (1 : Int32))).toNatClampNeg) M335 (fun r339 M338 => ((r336 = r339 → (T_L_law_1409 B18 x3 M338)) ∧ (¬ r336 = r339 → False))))))))
set_option maxHeartbeats 4000000 in
set_option maxRecDepth 100000 in
theorem w_L_case35 {p : Program} {l : Launch} {e : Env} {s : State} {m : MethodId} {below : List Frame} {meth : Method} {c : Code} {G : fx_G} {b L : Nat} {xs : Nat → Int32} {B18 : Int32 → Mm → Prop} (X : fx_C G p s m c #[Value.ref b] code 4 R_law) (hr : meth.sig.returnType = ret) (hk : meth.locks = false) (hX : va_X b L xs s s.heap) (hbl : b < s.heap.size) (hbA : ¬ fx_A G b) (hz0 : G.2.2.2 = s.heap.size) (hB18 : ∀ (x3 : Int32) (M : Mm) (H : Heap) (locs : List Loc) (ls : Array Slot), B18 x3 M → fx_H G SH M s H locs → lv_has ls 4 [(0, .ref b), (1, .ref (G.2.2.2 + 0)), (2, .ref (G.2.2.2 + 159)), (3, .int x3)] → W p l e room_1 s m #[Value.ref b] below meth c H locs 200 21639 (lw_Z below #[Value.ref b] s) (F0 m 18 ls [])) : ∀ (x3 : Int32) (M : Mm) (H : Heap) (locs : List Loc) (ls : Array Slot), T_L_case35 B18 L xs x3 M → fx_H G SH M s H locs → lv_has ls 4 [(0, .ref b), (1, .ref (G.2.2.2 + 0)), (2, .ref (G.2.2.2 + 159)), (3, .int x3)] → W p l e room_1 s m #[Value.ref b] below meth c H locs 200 21639 (lw_Z below #[Value.ref b] s) (F0 m 1311 ls []) := by
  obtain ⟨⟨hx, hb, hml, hown, hts⟩, hK, hQ⟩ := id X
  intro x3 M H locs ls hT h hl
  unfold T_L_case35 at hT
  refine lv_aload_n hx hb dL_law_1311 rfl (lv_at hl 1 rfl) ?_
  refine lv_aload_n hx hb dL_law_1312 rfl (lv_at hl 0 rfl) ?_
  refine lv_iload_n hx hb dL_law_1313 rfl (lv_at hl 3 rfl) ?_
  refine lv_iconst (v := 1) hx hb dL_law_1314 (by decide) ?_
  refine lv_iadd hx hb dL_law_1315 ?_
  obtain ⟨hi334, hT⟩ := hT
  refine va_sld hx hb hX hbl hbA h.2 hi334 dL_law_1316 ?_
  refine fx_vi X h ym_X11_game yi_X11_game ys_X11_game (fx_s6 (List.mem_of_getElem? (i := 20) rfl) rfl) sh_0 rfl (c_X11_game l G hT) (As := [.int (xs ((x3 + (1 : Int32))).toNatClampNeg)]) (rest := []) rfl rfl ⟨Nat.le_of_ble_eq_true rfl, Nat.le_of_ble_eq_true rfl⟩ ⟨Nat.le_of_ble_eq_true rfl, Nat.le_of_ble_eq_true rfl⟩ hl.1 (Nat.le_of_ble_eq_true rfl) dL_law_1317 (fun r336 M335 H locs hT h => ?_)
  refine lv_aload_n hx hb dL_law_1320 rfl (lv_at hl 2 rfl) ?_
  refine lv_aload_n hx hb dL_law_1321 rfl (lv_at hl 0 rfl) ?_
  refine lv_iload_n hx hb dL_law_1322 rfl (lv_at hl 3 rfl) ?_
  refine lv_iconst (v := 1) hx hb dL_law_1323 (by decide) ?_
  refine lv_iadd hx hb dL_law_1324 ?_
  obtain ⟨hi337, hT⟩ := hT
  refine va_sld hx hb hX hbl hbA h.2 hi337 dL_law_1325 ?_
  refine fx_vi X h ym_X12_game yi_X12_game ys_X12_game (fx_s9 (List.mem_of_getElem? (i := 100) rfl) rfl) sh_159 rfl (c_X12_game l G hT) (As := [.int (xs ((x3 + (1 : Int32))).toNatClampNeg)]) (rest := [.int r336]) rfl rfl ⟨Nat.le_of_ble_eq_true rfl, Nat.le_of_ble_eq_true rfl⟩ ⟨Nat.le_of_ble_eq_true rfl, Nat.le_of_ble_eq_true rfl⟩ hl.1 (Nat.le_of_ble_eq_true rfl) dL_law_1326 (fun r339 M338 H locs hT h => ?_)
  refine lv_icmp_eq (tgt := 1409) hx hb dL_law_1329 (by decide) (fun hc340 => ?_) (fun hc340 => ?_)
  · have hT := hT.1 hc340
    exact w_L_law_1409 X hr hk hX hbl hbA hz0 hB18 x3 M338 _ _ ls hT h hl
  · have hT := hT.2 hc340
    refine lv_iconst (v := 0) hx hb dL_law_1332 (by decide) ?_
    exact hT.elim
def T_L_case36 (B18 : Int32 → Mm → Prop) (L : Nat) (xs : Nat → Int32) (x3 : Int32) (M : Mm) : Prop := (T_X11_undo M (fun r342 M341 => (T_X12_undo M341 (fun r344 M343 => ((r342 = r344 → (T_L_law_1409 B18 x3 M343)) ∧ (¬ r342 = r344 → False))))))
set_option maxHeartbeats 4000000 in
set_option maxRecDepth 100000 in
theorem w_L_case36 {p : Program} {l : Launch} {e : Env} {s : State} {m : MethodId} {below : List Frame} {meth : Method} {c : Code} {G : fx_G} {b L : Nat} {xs : Nat → Int32} {B18 : Int32 → Mm → Prop} (X : fx_C G p s m c #[Value.ref b] code 4 R_law) (hr : meth.sig.returnType = ret) (hk : meth.locks = false) (hX : va_X b L xs s s.heap) (hbl : b < s.heap.size) (hbA : ¬ fx_A G b) (hz0 : G.2.2.2 = s.heap.size) (hB18 : ∀ (x3 : Int32) (M : Mm) (H : Heap) (locs : List Loc) (ls : Array Slot), B18 x3 M → fx_H G SH M s H locs → lv_has ls 4 [(0, .ref b), (1, .ref (G.2.2.2 + 0)), (2, .ref (G.2.2.2 + 159)), (3, .int x3)] → W p l e room_1 s m #[Value.ref b] below meth c H locs 200 21639 (lw_Z below #[Value.ref b] s) (F0 m 18 ls [])) : ∀ (x3 : Int32) (M : Mm) (H : Heap) (locs : List Loc) (ls : Array Slot), T_L_case36 B18 L xs x3 M → fx_H G SH M s H locs → lv_has ls 4 [(0, .ref b), (1, .ref (G.2.2.2 + 0)), (2, .ref (G.2.2.2 + 159)), (3, .int x3)] → W p l e room_1 s m #[Value.ref b] below meth c H locs 200 21639 (lw_Z below #[Value.ref b] s) (F0 m 1334 ls []) := by
  obtain ⟨⟨hx, hb, hml, hown, hts⟩, hK, hQ⟩ := id X
  intro x3 M H locs ls hT h hl
  unfold T_L_case36 at hT
  refine lv_aload_n hx hb dL_law_1334 rfl (lv_at hl 1 rfl) ?_
  refine fx_vi X h ym_X11_undo yi_X11_undo ys_X11_undo (fx_s6 (List.mem_of_getElem? (i := 42) rfl) rfl) sh_0 rfl (c_X11_undo l G hT) (As := []) (rest := []) rfl rfl ⟨Nat.le_of_ble_eq_true rfl, Nat.le_of_ble_eq_true rfl⟩ ⟨Nat.le_of_ble_eq_true rfl, Nat.le_of_ble_eq_true rfl⟩ hl.1 (Nat.le_of_ble_eq_true rfl) dL_law_1335 (fun r342 M341 H locs hT h => ?_)
  refine lv_aload_n hx hb dL_law_1338 rfl (lv_at hl 2 rfl) ?_
  refine fx_vi X h ym_X12_undo yi_X12_undo ys_X12_undo (fx_s7 (List.mem_of_getElem? (i := 65) rfl) rfl) sh_159 rfl (c_X12_undo l G hT) (As := []) (rest := [.int r342]) rfl rfl ⟨Nat.le_of_ble_eq_true rfl, Nat.le_of_ble_eq_true rfl⟩ ⟨Nat.le_of_ble_eq_true rfl, Nat.le_of_ble_eq_true rfl⟩ hl.1 (Nat.le_of_ble_eq_true rfl) dL_law_1339 (fun r344 M343 H locs hT h => ?_)
  refine lv_icmp_eq (tgt := 1409) hx hb dL_law_1342 (by decide) (fun hc345 => ?_) (fun hc345 => ?_)
  · have hT := hT.1 hc345
    exact w_L_law_1409 X hr hk hX hbl hbA hz0 hB18 x3 M343 _ _ ls hT h hl
  · have hT := hT.2 hc345
    refine lv_iconst (v := 0) hx hb dL_law_1345 (by decide) ?_
    exact hT.elim
def T_L_case37 (B18 : Int32 → Mm → Prop) (L : Nat) (xs : Nat → Int32) (x3 : Int32) (M : Mm) : Prop := (vp_in (x3 + (1 : Int32)) L ∧ (((xs ((x3 + (1 : Int32))).toNatClampNeg) = 0 → (T_X11_image (0 : Int32) M (fun r349 M348 => (vp_in (x3 + (1 : Int32)) L ∧ (((xs ((x3 + (1 : Int32))).toNatClampNeg) = 0 → (T_X12_image (0 : Int32) M348 (fun r353 M352 => ((r349 = r353 → (T_L_law_1409 B18 x3 M352)) ∧ (¬ r349 = r353 → False))))) ∧ (¬ (xs ((x3 + (1 : Int32))).toNatClampNeg) = 0 → (T_X12_image (1 : Int32) M348 (fun r356 M355 => ((r349 = r356 → (T_L_law_1409 B18 x3 M355)) ∧ (¬ r349 = r356 → False)))))))))) ∧ (¬ (xs ((x3 + (1 : Int32))).toNatClampNeg) = 0 → (T_X11_image (1 : Int32) M (fun r359 M358 => (vp_in (x3 + (1 : Int32)) L ∧ (((xs ((x3 + (1 : Int32))).toNatClampNeg) = 0 → (T_X12_image (0 : Int32) M358 (fun r363 M362 => ((r359 = r363 → (T_L_law_1409 B18 x3 M362)) ∧ (¬ r359 = r363 → False))))) ∧ (¬ (xs ((x3 + (1 : Int32))).toNatClampNeg) = 0 → (T_X12_image (1 : Int32) M358 (fun r366 M365 => ((r359 = r366 → (T_L_law_1409 B18 x3 M365)) ∧ (¬ r359 = r366 → False))))))))))))
set_option maxHeartbeats 4000000 in
set_option maxRecDepth 100000 in
theorem w_L_case37 {p : Program} {l : Launch} {e : Env} {s : State} {m : MethodId} {below : List Frame} {meth : Method} {c : Code} {G : fx_G} {b L : Nat} {xs : Nat → Int32} {B18 : Int32 → Mm → Prop} (X : fx_C G p s m c #[Value.ref b] code 4 R_law) (hr : meth.sig.returnType = ret) (hk : meth.locks = false) (hX : va_X b L xs s s.heap) (hbl : b < s.heap.size) (hbA : ¬ fx_A G b) (hz0 : G.2.2.2 = s.heap.size) (hB18 : ∀ (x3 : Int32) (M : Mm) (H : Heap) (locs : List Loc) (ls : Array Slot), B18 x3 M → fx_H G SH M s H locs → lv_has ls 4 [(0, .ref b), (1, .ref (G.2.2.2 + 0)), (2, .ref (G.2.2.2 + 159)), (3, .int x3)] → W p l e room_1 s m #[Value.ref b] below meth c H locs 200 21639 (lw_Z below #[Value.ref b] s) (F0 m 18 ls [])) : ∀ (x3 : Int32) (M : Mm) (H : Heap) (locs : List Loc) (ls : Array Slot), T_L_case37 B18 L xs x3 M → fx_H G SH M s H locs → lv_has ls 4 [(0, .ref b), (1, .ref (G.2.2.2 + 0)), (2, .ref (G.2.2.2 + 159)), (3, .int x3)] → W p l e room_1 s m #[Value.ref b] below meth c H locs 200 21639 (lw_Z below #[Value.ref b] s) (F0 m 1347 ls []) := by
  obtain ⟨⟨hx, hb, hml, hown, hts⟩, hK, hQ⟩ := id X
  intro x3 M H locs ls hT h hl
  unfold T_L_case37 at hT
  refine lv_aload_n hx hb dL_law_1347 rfl (lv_at hl 1 rfl) ?_
  refine lv_aload_n hx hb dL_law_1348 rfl (lv_at hl 0 rfl) ?_
  refine lv_iload_n hx hb dL_law_1349 rfl (lv_at hl 3 rfl) ?_
  refine lv_iconst (v := 1) hx hb dL_law_1350 (by decide) ?_
  refine lv_iadd hx hb dL_law_1351 ?_
  obtain ⟨hi346, hT⟩ := hT
  refine va_sld hx hb hX hbl hbA h.2 hi346 dL_law_1352 ?_
  refine lv_if_eq (tgt := 1360) hx hb dL_law_1353 (by decide) (fun hc347 => ?_) (fun hc347 => ?_)
  · have hT := hT.1 hc347
    refine lv_iconst (v := 0) hx hb dL_law_1360 (by decide) ?_
    refine fx_vi X h ym_X11_image yi_X11_image ys_X11_image (fx_s6 (List.mem_of_getElem? (i := 50) rfl) rfl) sh_0 rfl (c_X11_image l G hT) (As := [.int (0 : Int32)]) (rest := []) rfl rfl ⟨Nat.le_of_ble_eq_true rfl, Nat.le_of_ble_eq_true rfl⟩ ⟨Nat.le_of_ble_eq_true rfl, Nat.le_of_ble_eq_true rfl⟩ hl.1 (Nat.le_of_ble_eq_true rfl) dL_law_1361 (fun r349 M348 H locs hT h => ?_)
    refine lv_aload_n hx hb dL_law_1364 rfl (lv_at hl 2 rfl) ?_
    refine lv_aload_n hx hb dL_law_1365 rfl (lv_at hl 0 rfl) ?_
    refine lv_iload_n hx hb dL_law_1366 rfl (lv_at hl 3 rfl) ?_
    refine lv_iconst (v := 1) hx hb dL_law_1367 (by decide) ?_
    refine lv_iadd hx hb dL_law_1368 ?_
    obtain ⟨hi350, hT⟩ := hT
    refine va_sld hx hb hX hbl hbA h.2 hi350 dL_law_1369 ?_
    refine lv_if_eq (tgt := 1377) hx hb dL_law_1370 (by decide) (fun hc351 => ?_) (fun hc351 => ?_)
    · have hT := hT.1 hc351
      refine lv_iconst (v := 0) hx hb dL_law_1377 (by decide) ?_
      refine fx_vi X h ym_X12_image yi_X12_image ys_X12_image (fx_s9 (List.mem_of_getElem? (i := 112) rfl) rfl) sh_159 rfl (c_X12_image l G hT) (As := [.int (0 : Int32)]) (rest := [.int r349]) rfl rfl ⟨Nat.le_of_ble_eq_true rfl, Nat.le_of_ble_eq_true rfl⟩ ⟨Nat.le_of_ble_eq_true rfl, Nat.le_of_ble_eq_true rfl⟩ hl.1 (Nat.le_of_ble_eq_true rfl) dL_law_1378 (fun r353 M352 H locs hT h => ?_)
      refine lv_icmp_eq (tgt := 1409) hx hb dL_law_1381 (by decide) (fun hc354 => ?_) (fun hc354 => ?_)
      · have hT := hT.1 hc354
        exact w_L_law_1409 X hr hk hX hbl hbA hz0 hB18 x3 M352 _ _ ls hT h hl
      · have hT := hT.2 hc354
        refine lv_iconst (v := 0) hx hb dL_law_1384 (by decide) ?_
        exact hT.elim
    · have hT := hT.2 hc351
      refine lv_iconst (v := 1) hx hb dL_law_1373 (by decide) ?_
      refine lv_goto (tgt := 1378) hx hb dL_law_1374 (by decide) ?_
      refine fx_vi X h ym_X12_image yi_X12_image ys_X12_image (fx_s9 (List.mem_of_getElem? (i := 112) rfl) rfl) sh_159 rfl (c_X12_image l G hT) (As := [.int (1 : Int32)]) (rest := [.int r349]) rfl rfl ⟨Nat.le_of_ble_eq_true rfl, Nat.le_of_ble_eq_true rfl⟩ ⟨Nat.le_of_ble_eq_true rfl, Nat.le_of_ble_eq_true rfl⟩ hl.1 (Nat.le_of_ble_eq_true rfl) dL_law_1378 (fun r356 M355 H locs hT h => ?_)
      refine lv_icmp_eq (tgt := 1409) hx hb dL_law_1381 (by decide) (fun hc357 => ?_) (fun hc357 => ?_)
      · have hT := hT.1 hc357
        exact w_L_law_1409 X hr hk hX hbl hbA hz0 hB18 x3 M355 _ _ ls hT h hl
      · have hT := hT.2 hc357
        refine lv_iconst (v := 0) hx hb dL_law_1384 (by decide) ?_
        exact hT.elim
  · have hT := hT.2 hc347
    refine lv_iconst (v := 1) hx hb dL_law_1356 (by decide) ?_
    refine lv_goto (tgt := 1361) hx hb dL_law_1357 (by decide) ?_
    refine fx_vi X h ym_X11_image yi_X11_image ys_X11_image (fx_s6 (List.mem_of_getElem? (i := 50) rfl) rfl) sh_0 rfl (c_X11_image l G hT) (As := [.int (1 : Int32)]) (rest := []) rfl rfl ⟨Nat.le_of_ble_eq_true rfl, Nat.le_of_ble_eq_true rfl⟩ ⟨Nat.le_of_ble_eq_true rfl, Nat.le_of_ble_eq_true rfl⟩ hl.1 (Nat.le_of_ble_eq_true rfl) dL_law_1361 (fun r359 M358 H locs hT h => ?_)
    refine lv_aload_n hx hb dL_law_1364 rfl (lv_at hl 2 rfl) ?_
    refine lv_aload_n hx hb dL_law_1365 rfl (lv_at hl 0 rfl) ?_
    refine lv_iload_n hx hb dL_law_1366 rfl (lv_at hl 3 rfl) ?_
    refine lv_iconst (v := 1) hx hb dL_law_1367 (by decide) ?_
    refine lv_iadd hx hb dL_law_1368 ?_
    obtain ⟨hi360, hT⟩ := hT
    refine va_sld hx hb hX hbl hbA h.2 hi360 dL_law_1369 ?_
    refine lv_if_eq (tgt := 1377) hx hb dL_law_1370 (by decide) (fun hc361 => ?_) (fun hc361 => ?_)
    · have hT := hT.1 hc361
      refine lv_iconst (v := 0) hx hb dL_law_1377 (by decide) ?_
      refine fx_vi X h ym_X12_image yi_X12_image ys_X12_image (fx_s9 (List.mem_of_getElem? (i := 112) rfl) rfl) sh_159 rfl (c_X12_image l G hT) (As := [.int (0 : Int32)]) (rest := [.int r359]) rfl rfl ⟨Nat.le_of_ble_eq_true rfl, Nat.le_of_ble_eq_true rfl⟩ ⟨Nat.le_of_ble_eq_true rfl, Nat.le_of_ble_eq_true rfl⟩ hl.1 (Nat.le_of_ble_eq_true rfl) dL_law_1378 (fun r363 M362 H locs hT h => ?_)
      refine lv_icmp_eq (tgt := 1409) hx hb dL_law_1381 (by decide) (fun hc364 => ?_) (fun hc364 => ?_)
      · have hT := hT.1 hc364
        exact w_L_law_1409 X hr hk hX hbl hbA hz0 hB18 x3 M362 _ _ ls hT h hl
      · have hT := hT.2 hc364
        refine lv_iconst (v := 0) hx hb dL_law_1384 (by decide) ?_
        exact hT.elim
    · have hT := hT.2 hc361
      refine lv_iconst (v := 1) hx hb dL_law_1373 (by decide) ?_
      refine lv_goto (tgt := 1378) hx hb dL_law_1374 (by decide) ?_
      refine fx_vi X h ym_X12_image yi_X12_image ys_X12_image (fx_s9 (List.mem_of_getElem? (i := 112) rfl) rfl) sh_159 rfl (c_X12_image l G hT) (As := [.int (1 : Int32)]) (rest := [.int r359]) rfl rfl ⟨Nat.le_of_ble_eq_true rfl, Nat.le_of_ble_eq_true rfl⟩ ⟨Nat.le_of_ble_eq_true rfl, Nat.le_of_ble_eq_true rfl⟩ hl.1 (Nat.le_of_ble_eq_true rfl) dL_law_1378 (fun r366 M365 H locs hT h => ?_)
      refine lv_icmp_eq (tgt := 1409) hx hb dL_law_1381 (by decide) (fun hc367 => ?_) (fun hc367 => ?_)
      · have hT := hT.1 hc367
        exact w_L_law_1409 X hr hk hX hbl hbA hz0 hB18 x3 M365 _ _ ls hT h hl
      · have hT := hT.2 hc367
        refine lv_iconst (v := 0) hx hb dL_law_1384 (by decide) ?_
        exact hT.elim
def T_L_case38 (B18 : Int32 → Mm → Prop) (L : Nat) (xs : Nat → Int32) (x3 : Int32) (M : Mm) : Prop := (vp_in (x3 + (1 : Int32)) L ∧ (T_X11_look (xs ((x3 + (1 : Int32))).toNatClampNeg) M (fun r370 M369 => (vp_in (x3 + (1 : Int32)) L ∧ (T_X12_look (xs ((x3 + (1 : Int32))).toNatClampNeg) M369 (fun r373 M372 => ((r370 = r373 → (T_L_law_1409 B18 x3 M372)) ∧ (¬ r370 = r373 → False))))))))
set_option maxHeartbeats 4000000 in
set_option maxRecDepth 100000 in
theorem w_L_case38 {p : Program} {l : Launch} {e : Env} {s : State} {m : MethodId} {below : List Frame} {meth : Method} {c : Code} {G : fx_G} {b L : Nat} {xs : Nat → Int32} {B18 : Int32 → Mm → Prop} (X : fx_C G p s m c #[Value.ref b] code 4 R_law) (hr : meth.sig.returnType = ret) (hk : meth.locks = false) (hX : va_X b L xs s s.heap) (hbl : b < s.heap.size) (hbA : ¬ fx_A G b) (hz0 : G.2.2.2 = s.heap.size) (hB18 : ∀ (x3 : Int32) (M : Mm) (H : Heap) (locs : List Loc) (ls : Array Slot), B18 x3 M → fx_H G SH M s H locs → lv_has ls 4 [(0, .ref b), (1, .ref (G.2.2.2 + 0)), (2, .ref (G.2.2.2 + 159)), (3, .int x3)] → W p l e room_1 s m #[Value.ref b] below meth c H locs 200 21639 (lw_Z below #[Value.ref b] s) (F0 m 18 ls [])) : ∀ (x3 : Int32) (M : Mm) (H : Heap) (locs : List Loc) (ls : Array Slot), T_L_case38 B18 L xs x3 M → fx_H G SH M s H locs → lv_has ls 4 [(0, .ref b), (1, .ref (G.2.2.2 + 0)), (2, .ref (G.2.2.2 + 159)), (3, .int x3)] → W p l e room_1 s m #[Value.ref b] below meth c H locs 200 21639 (lw_Z below #[Value.ref b] s) (F0 m 1386 ls []) := by
  obtain ⟨⟨hx, hb, hml, hown, hts⟩, hK, hQ⟩ := id X
  intro x3 M H locs ls hT h hl
  unfold T_L_case38 at hT
  refine lv_aload_n hx hb dL_law_1386 rfl (lv_at hl 1 rfl) ?_
  refine lv_aload_n hx hb dL_law_1387 rfl (lv_at hl 0 rfl) ?_
  refine lv_iload_n hx hb dL_law_1388 rfl (lv_at hl 3 rfl) ?_
  refine lv_iconst (v := 1) hx hb dL_law_1389 (by decide) ?_
  refine lv_iadd hx hb dL_law_1390 ?_
  obtain ⟨hi368, hT⟩ := hT
  refine va_sld hx hb hX hbl hbA h.2 hi368 dL_law_1391 ?_
  refine fx_vi X h ym_X11_look yi_X11_look ys_X11_look (fx_s6 (List.mem_of_getElem? (i := 74) rfl) rfl) sh_0 rfl (c_X11_look l G hT) (As := [.int (xs ((x3 + (1 : Int32))).toNatClampNeg)]) (rest := []) rfl rfl ⟨Nat.le_of_ble_eq_true rfl, Nat.le_of_ble_eq_true rfl⟩ ⟨Nat.le_of_ble_eq_true rfl, Nat.le_of_ble_eq_true rfl⟩ hl.1 (Nat.le_of_ble_eq_true rfl) dL_law_1392 (fun r370 M369 H locs hT h => ?_)
  refine lv_aload_n hx hb dL_law_1395 rfl (lv_at hl 2 rfl) ?_
  refine lv_aload_n hx hb dL_law_1396 rfl (lv_at hl 0 rfl) ?_
  refine lv_iload_n hx hb dL_law_1397 rfl (lv_at hl 3 rfl) ?_
  refine lv_iconst (v := 1) hx hb dL_law_1398 (by decide) ?_
  refine lv_iadd hx hb dL_law_1399 ?_
  obtain ⟨hi371, hT⟩ := hT
  refine va_sld hx hb hX hbl hbA h.2 hi371 dL_law_1400 ?_
  refine fx_vi X h ym_X12_look yi_X12_look ys_X12_look (fx_s9 (List.mem_of_getElem? (i := 132) rfl) rfl) sh_159 rfl (c_X12_look l G hT) (As := [.int (xs ((x3 + (1 : Int32))).toNatClampNeg)]) (rest := [.int r370]) rfl rfl ⟨Nat.le_of_ble_eq_true rfl, Nat.le_of_ble_eq_true rfl⟩ ⟨Nat.le_of_ble_eq_true rfl, Nat.le_of_ble_eq_true rfl⟩ hl.1 (Nat.le_of_ble_eq_true rfl) dL_law_1401 (fun r373 M372 H locs hT h => ?_)
  refine lv_icmp_eq (tgt := 1409) hx hb dL_law_1404 (by decide) (fun hc374 => ?_) (fun hc374 => ?_)
  · have hT := hT.1 hc374
    exact w_L_law_1409 X hr hk hX hbl hbA hz0 hB18 x3 M372 _ _ ls hT h hl
  · have hT := hT.2 hc374
    refine lv_iconst (v := 0) hx hb dL_law_1407 (by decide) ?_
    exact hT.elim
def T_L_law_18 (L : Nat) (xs : Nat → Int32) : Nat → Int32 → Mm → Prop
  | 0, _, _ => False
  | n + 1, x3, M => ((((nI L) - (6 : Int32)) < x3 → True) ∧ (¬ ((nI L) - (6 : Int32)) < x3 → (vp_in x3 L ∧ ((((xs (x3).toNatClampNeg) &&& (63 : Int32)) = (0 : Int32) → T_L_case0 (T_L_law_18 L xs n) L xs x3 M) ∧ (¬ ((xs (x3).toNatClampNeg) &&& (63 : Int32)) = (0 : Int32) → ((((xs (x3).toNatClampNeg) &&& (63 : Int32)) = (1 : Int32) → T_L_case1 (T_L_law_18 L xs n) L xs x3 M) ∧ (¬ ((xs (x3).toNatClampNeg) &&& (63 : Int32)) = (1 : Int32) → ((((xs (x3).toNatClampNeg) &&& (63 : Int32)) = (2 : Int32) → T_L_case2 (T_L_law_18 L xs n) L xs x3 M) ∧ (¬ ((xs (x3).toNatClampNeg) &&& (63 : Int32)) = (2 : Int32) → ((((xs (x3).toNatClampNeg) &&& (63 : Int32)) = (3 : Int32) → T_L_case3 (T_L_law_18 L xs n) L xs x3 M) ∧ (¬ ((xs (x3).toNatClampNeg) &&& (63 : Int32)) = (3 : Int32) → ((((xs (x3).toNatClampNeg) &&& (63 : Int32)) = (4 : Int32) → T_L_case4 (T_L_law_18 L xs n) L xs x3 M) ∧ (¬ ((xs (x3).toNatClampNeg) &&& (63 : Int32)) = (4 : Int32) → ((((xs (x3).toNatClampNeg) &&& (63 : Int32)) = (5 : Int32) → T_L_case5 (T_L_law_18 L xs n) L xs x3 M) ∧ (¬ ((xs (x3).toNatClampNeg) &&& (63 : Int32)) = (5 : Int32) → ((((xs (x3).toNatClampNeg) &&& (63 : Int32)) = (6 : Int32) → T_L_case6 (T_L_law_18 L xs n) L xs x3 M) ∧ (¬ ((xs (x3).toNatClampNeg) &&& (63 : Int32)) = (6 : Int32) → ((((xs (x3).toNatClampNeg) &&& (63 : Int32)) = (7 : Int32) → T_L_case7 (T_L_law_18 L xs n) L xs x3 M) ∧ (¬ ((xs (x3).toNatClampNeg) &&& (63 : Int32)) = (7 : Int32) → ((((xs (x3).toNatClampNeg) &&& (63 : Int32)) = (8 : Int32) → T_L_case8 (T_L_law_18 L xs n) L xs x3 M) ∧ (¬ ((xs (x3).toNatClampNeg) &&& (63 : Int32)) = (8 : Int32) → ((((xs (x3).toNatClampNeg) &&& (63 : Int32)) = (9 : Int32) → T_L_case9 (T_L_law_18 L xs n) L xs x3 M) ∧ (¬ ((xs (x3).toNatClampNeg) &&& (63 : Int32)) = (9 : Int32) → ((((xs (x3).toNatClampNeg) &&& (63 : Int32)) = (10 : Int32) → T_L_case10 (T_L_law_18 L xs n) L xs x3 M) ∧ (¬ ((xs (x3).toNatClampNeg) &&& (63 : Int32)) = (10 : Int32) → ((((xs (x3).toNatClampNeg) &&& (63 : Int32)) = (11 : Int32) → T_L_case11 (T_L_law_18 L xs n) L xs x3 M) ∧ (¬ ((xs (x3).toNatClampNeg) &&& (63 : Int32)) = (11 : Int32) → ((((xs (x3).toNatClampNeg) &&& (63 : Int32)) = (12 : Int32) → T_L_case12 (T_L_law_18 L xs n) L xs x3 M) ∧ (¬ ((xs (x3).toNatClampNeg) &&& (63 : Int32)) = (12 : Int32) → ((((xs (x3).toNatClampNeg) &&& (63 : Int32)) = (13 : Int32) → T_L_case13 (T_L_law_18 L xs n) L xs x3 M) ∧ (¬ ((xs (x3).toNatClampNeg) &&& (63 : Int32)) = (13 : Int32) → ((((xs (x3).toNatClampNeg) &&& (63 : Int32)) = (14 : Int32) → T_L_case14 (T_L_law_18 L xs n) L xs x3 M) ∧ (¬ ((xs (x3).toNatClampNeg) &&& (63 : Int32)) = (14 : Int32) → ((((xs (x3).toNatClampNeg) &&& (63 : Int32)) = (15 : Int32) → T_L_case15 (T_L_law_18 L xs n) L xs x3 M) ∧ (¬ ((xs (x3).toNatClampNeg) &&& (63 : Int32)) = (15 : Int32) → ((((xs (x3).toNatClampNeg) &&& (63 : Int32)) = (16 : Int32) → T_L_case16 (T_L_law_18 L xs n) L xs x3 M) ∧ (¬ ((xs (x3).toNatClampNeg) &&& (63 : Int32)) = (16 : Int32) → ((((xs (x3).toNatClampNeg) &&& (63 : Int32)) = (17 : Int32) → T_L_case17 (T_L_law_18 L xs n) L xs x3 M) ∧ (¬ ((xs (x3).toNatClampNeg) &&& (63 : Int32)) = (17 : Int32) → ((((xs (x3).toNatClampNeg) &&& (63 : Int32)) = (18 : Int32) → T_L_case18 (T_L_law_18 L xs n) L xs x3 M) ∧ (¬ ((xs (x3).toNatClampNeg) &&& (63 : Int32)) = (18 : Int32) → ((((xs (x3).toNatClampNeg) &&& (63 : Int32)) = (19 : Int32) → T_L_case19 (T_L_law_18 L xs n) L xs x3 M) ∧ (¬ ((xs (x3).toNatClampNeg) &&& (63 : Int32)) = (19 : Int32) → ((((xs (x3).toNatClampNeg) &&& (63 : Int32)) = (20 : Int32) → T_L_case20 (T_L_law_18 L xs n) L xs x3 M) ∧ (¬ ((xs (x3).toNatClampNeg) &&& (63 : Int32)) = (20 : Int32) → ((((xs (x3).toNatClampNeg) &&& (63 : Int32)) = (21 : Int32) → T_L_case21 (T_L_law_18 L xs n) L xs x3 M) ∧ (¬ ((xs (x3).toNatClampNeg) &&& (63 : Int32)) = (21 : Int32) → ((((xs (x3).toNatClampNeg) &&& (63 : Int32)) = (22 : Int32) → T_L_case22 (T_L_law_18 L xs n) L xs x3 M) ∧ (¬ ((xs (x3).toNatClampNeg) &&& (63 : Int32)) = (22 : Int32) → ((((xs (x3).toNatClampNeg) &&& (63 : Int32)) = (23 : Int32) → T_L_case23 (T_L_law_18 L xs n) L xs x3 M) ∧ (¬ ((xs (x3).toNatClampNeg) &&& (63 : Int32)) = (23 : Int32) → ((((xs (x3).toNatClampNeg) &&& (63 : Int32)) = (24 : Int32) → T_L_case24 (T_L_law_18 L xs n) L xs x3 M) ∧ (¬ ((xs (x3).toNatClampNeg) &&& (63 : Int32)) = (24 : Int32) → ((((xs (x3).toNatClampNeg) &&& (63 : Int32)) = (25 : Int32) → T_L_case25 (T_L_law_18 L xs n) L xs x3 M) ∧ (¬ ((xs (x3).toNatClampNeg) &&& (63 : Int32)) = (25 : Int32) → ((((xs (x3).toNatClampNeg) &&& (63 : Int32)) = (26 : Int32) → T_L_case26 (T_L_law_18 L xs n) L xs x3 M) ∧ (¬ ((xs (x3).toNatClampNeg) &&& (63 : Int32)) = (26 : Int32) → ((((xs (x3).toNatClampNeg) &&& (63 : Int32)) = (27 : Int32) → T_L_case27 (T_L_law_18 L xs n) L xs x3 M) ∧ (¬ ((xs (x3).toNatClampNeg) &&& (63 : Int32)) = (27 : Int32) → ((((xs (x3).toNatClampNeg) &&& (63 : Int32)) = (28 : Int32) → T_L_case28 (T_L_law_18 L xs n) L xs x3 M) ∧ (¬ ((xs (x3).toNatClampNeg) &&& (63 : Int32)) = (28 : Int32) → ((((xs (x3).toNatClampNeg) &&& (63 : Int32)) = (29 : Int32) → T_L_case29 (T_L_law_18 L xs n) L xs x3 M) ∧ (¬ ((xs (x3).toNatClampNeg) &&& (63 : Int32)) = (29 : Int32) → ((((xs (x3).toNatClampNeg) &&& (63 : Int32)) = (30 : Int32) → T_L_case30 (T_L_law_18 L xs n) L xs x3 M) ∧ (¬ ((xs (x3).toNatClampNeg) &&& (63 : Int32)) = (30 : Int32) → ((((xs (x3).toNatClampNeg) &&& (63 : Int32)) = (31 : Int32) → T_L_case31 (T_L_law_18 L xs n) L xs x3 M) ∧ (¬ ((xs (x3).toNatClampNeg) &&& (63 : Int32)) = (31 : Int32) → ((((xs (x3).toNatClampNeg) &&& (63 : Int32)) = (32 : Int32) → T_L_case32 (T_L_law_18 L xs n) L xs x3 M) ∧ (¬ ((xs (x3).toNatClampNeg) &&& (63 : Int32)) = (32 : Int32) → ((((xs (x3).toNatClampNeg) &&& (63 : Int32)) = (33 : Int32) → T_L_case33 (T_L_law_18 L xs n) L xs x3 M) ∧ (¬ ((xs (x3).toNatClampNeg) &&& (63 : Int32)) = (33 : Int32) → ((((xs (x3).toNatClampNeg) &&& (63 : Int32)) = (34 : Int32) → T_L_case34 (T_L_law_18 L xs n) L xs x3 M) ∧ (¬ ((xs (x3).toNatClampNeg) &&& (63 : Int32)) = (34 : Int32) → ((((xs (x3).toNatClampNeg) &&& (63 : Int32)) = (35 : Int32) → T_L_case35 (T_L_law_18 L xs n) L xs x3 M) ∧ (¬ ((xs (x3).toNatClampNeg) &&& (63 : Int32)) = (35 : Int32) → ((((xs (x3).toNatClampNeg) &&& (63 : Int32)) = (36 : Int32) → T_L_case36 (T_L_law_18 L xs n) L xs x3 M) ∧ (¬ ((xs (x3).toNatClampNeg) &&& (63 : Int32)) = (36 : Int32) → ((((xs (x3).toNatClampNeg) &&& (63 : Int32)) = (37 : Int32) → T_L_case37 (T_L_law_18 L xs n) L xs x3 M) ∧ (¬ ((xs (x3).toNatClampNeg) &&& (63 : Int32)) = (37 : Int32) → ((((xs (x3).toNatClampNeg) &&& (63 : Int32)) = (38 : Int32) → T_L_case38 (T_L_law_18 L xs n) L xs x3 M) ∧ (¬ ((xs (x3).toNatClampNeg) &&& (63 : Int32)) = (38 : Int32) → (T_L_law_1409 (T_L_law_18 L xs n) x3 M))))))))))))))))))))))))))))))))))))))))))))))))))))))))))))))))))))))))))))))))))
set_option maxHeartbeats 8000000 in
set_option maxRecDepth 100000 in
theorem w_L_law_18 {p : Program} {l : Launch} {e : Env} {s : State} {m : MethodId} {below : List Frame} {meth : Method} {c : Code} {G : fx_G} {b L : Nat} {xs : Nat → Int32} (X : fx_C G p s m c #[Value.ref b] code 4 R_law) (hr : meth.sig.returnType = ret) (hk : meth.locks = false) (hX : va_X b L xs s s.heap) (hbl : b < s.heap.size) (hbA : ¬ fx_A G b) (hz0 : G.2.2.2 = s.heap.size) : ∀ (n : Nat) (x3 : Int32) (M : Mm) (H : Heap) (locs : List Loc) (ls : Array Slot), T_L_law_18 L xs n x3 M → fx_H G SH M s H locs → lv_has ls 4 [(0, .ref b), (1, .ref (G.2.2.2 + 0)), (2, .ref (G.2.2.2 + 159)), (3, .int x3)] → W p l e room_1 s m #[Value.ref b] below meth c H locs 200 21639 (lw_Z below #[Value.ref b] s) (F0 m 18 ls []) := by
  obtain ⟨⟨hx, hb, hml, hown, hts⟩, hK, hQ⟩ := id X
  intro n
  induction n with
  | zero =>
    intro x3 M H locs ls hT
    exact hT.elim
  | succ n ih =>
    intro x3 M H locs ls hT h hl
    rw [T_L_law_18] at hT
    refine lv_iload_n hx hb dL_law_18 rfl (lv_at hl 3 rfl) ?_
    refine lv_aload_n hx hb dL_law_19 rfl (lv_at hl 0 rfl) ?_
    refine va_slen hx hb hX hbl hbA h.2 dL_law_20 ?_
    refine lv_bipush (v := 6) hx hb dL_law_21 (by decide) ?_
    refine lv_isub hx hb dL_law_23 ?_
    refine lv_icmp_gt (tgt := 1415) hx hb dL_law_24 (by decide) (fun hc => ?_) (fun hc => ?_)
    · refine lv_iconst (v := 1) hx hb dL_law_1415 (by decide) ?_
      refine va_forget (fun q hq => by rw [← hz0]; exact h.2.2.2 q hq) ?_
      refine W.widen (k := 600000) (n := 7302250) (by omega) (by omega) ?_
      exact lw_ret hx hb hr hk dL_law_1416
    · obtain ⟨hi, hT⟩ := hT.2 hc
      refine lv_aload_n hx hb dL_law_27 rfl (lv_at hl 0 rfl) ?_
      refine lv_iload_n hx hb dL_law_28 rfl (lv_at hl 3 rfl) ?_
      refine va_sld hx hb hX hbl hbA h.2 hi dL_law_29 ?_
      refine lv_bipush (v := 63) hx hb dL_law_30 (by decide) ?_
      refine lv_iand hx hb dL_law_32 ?_
      obtain ⟨w, ew⟩ : ∃ z : Int32, z = ((xs (x3).toNatClampNeg) &&& (63 : Int32)) := ⟨_, rfl⟩
      rw [← ew] at hT ⊢
      by_cases hc0 : w = (0 : Int32)
      · refine lv_tableIn (off := 171) (tgt := 204) hx hb dL_law_33 (by rw [hc0]; decide) (by rw [hc0]; decide) (by rw [hc0]; rfl) (by decide) ?_
        exact w_L_case0 X hr hk hX hbl hbA hz0 (B18 := T_L_law_18 L xs n) ih x3 M _ _ ls (hT.1 hc0) h hl
      replace hT := hT.2 hc0
      have k0 : ¬ w.toInt = 0 := fun q => hc0 (Int32.toInt_inj.mp (q.trans (by decide)))
      by_cases hc1 : w = (1 : Int32)
      · refine lv_tableIn (off := 194) (tgt := 227) hx hb dL_law_33 (by rw [hc1]; decide) (by rw [hc1]; decide) (by rw [hc1]; rfl) (by decide) ?_
        exact w_L_case1 X hr hk hX hbl hbA hz0 (B18 := T_L_law_18 L xs n) ih x3 M _ _ ls (hT.1 hc1) h hl
      replace hT := hT.2 hc1
      have k1 : ¬ w.toInt = 1 := fun q => hc1 (Int32.toInt_inj.mp (q.trans (by decide)))
      by_cases hc2 : w = (2 : Int32)
      · refine lv_tableIn (off := 237) (tgt := 270) hx hb dL_law_33 (by rw [hc2]; decide) (by rw [hc2]; decide) (by rw [hc2]; rfl) (by decide) ?_
        exact w_L_case2 X hr hk hX hbl hbA hz0 (B18 := T_L_law_18 L xs n) ih x3 M _ _ ls (hT.1 hc2) h hl
      replace hT := hT.2 hc2
      have k2 : ¬ w.toInt = 2 := fun q => hc2 (Int32.toInt_inj.mp (q.trans (by decide)))
      by_cases hc3 : w = (3 : Int32)
      · refine lv_tableIn (off := 296) (tgt := 329) hx hb dL_law_33 (by rw [hc3]; decide) (by rw [hc3]; decide) (by rw [hc3]; rfl) (by decide) ?_
        exact w_L_case3 X hr hk hX hbl hbA hz0 (B18 := T_L_law_18 L xs n) ih x3 M _ _ ls (hT.1 hc3) h hl
      replace hT := hT.2 hc3
      have k3 : ¬ w.toInt = 3 := fun q => hc3 (Int32.toInt_inj.mp (q.trans (by decide)))
      by_cases hc4 : w = (4 : Int32)
      · refine lv_tableIn (off := 339) (tgt := 372) hx hb dL_law_33 (by rw [hc4]; decide) (by rw [hc4]; decide) (by rw [hc4]; rfl) (by decide) ?_
        exact w_L_case4 X hr hk hX hbl hbA hz0 (B18 := T_L_law_18 L xs n) ih x3 M _ _ ls (hT.1 hc4) h hl
      replace hT := hT.2 hc4
      have k4 : ¬ w.toInt = 4 := fun q => hc4 (Int32.toInt_inj.mp (q.trans (by decide)))
      by_cases hc5 : w = (5 : Int32)
      · refine lv_tableIn (off := 362) (tgt := 395) hx hb dL_law_33 (by rw [hc5]; decide) (by rw [hc5]; decide) (by rw [hc5]; rfl) (by decide) ?_
        exact w_L_case5 X hr hk hX hbl hbA hz0 (B18 := T_L_law_18 L xs n) ih x3 M _ _ ls (hT.1 hc5) h hl
      replace hT := hT.2 hc5
      have k5 : ¬ w.toInt = 5 := fun q => hc5 (Int32.toInt_inj.mp (q.trans (by decide)))
      by_cases hc6 : w = (6 : Int32)
      · refine lv_tableIn (off := 395) (tgt := 428) hx hb dL_law_33 (by rw [hc6]; decide) (by rw [hc6]; decide) (by rw [hc6]; rfl) (by decide) ?_
        exact w_L_case6 X hr hk hX hbl hbA hz0 (B18 := T_L_law_18 L xs n) ih x3 M _ _ ls (hT.1 hc6) h hl
      replace hT := hT.2 hc6
      have k6 : ¬ w.toInt = 6 := fun q => hc6 (Int32.toInt_inj.mp (q.trans (by decide)))
      by_cases hc7 : w = (7 : Int32)
      · refine lv_tableIn (off := 438) (tgt := 471) hx hb dL_law_33 (by rw [hc7]; decide) (by rw [hc7]; decide) (by rw [hc7]; rfl) (by decide) ?_
        exact w_L_case7 X hr hk hX hbl hbA hz0 (B18 := T_L_law_18 L xs n) ih x3 M _ _ ls (hT.1 hc7) h hl
      replace hT := hT.2 hc7
      have k7 : ¬ w.toInt = 7 := fun q => hc7 (Int32.toInt_inj.mp (q.trans (by decide)))
      by_cases hc8 : w = (8 : Int32)
      · refine lv_tableIn (off := 461) (tgt := 494) hx hb dL_law_33 (by rw [hc8]; decide) (by rw [hc8]; decide) (by rw [hc8]; rfl) (by decide) ?_
        exact w_L_case8 X hr hk hX hbl hbA hz0 (B18 := T_L_law_18 L xs n) ih x3 M _ _ ls (hT.1 hc8) h hl
      replace hT := hT.2 hc8
      have k8 : ¬ w.toInt = 8 := fun q => hc8 (Int32.toInt_inj.mp (q.trans (by decide)))
      by_cases hc9 : w = (9 : Int32)
      · refine lv_tableIn (off := 484) (tgt := 517) hx hb dL_law_33 (by rw [hc9]; decide) (by rw [hc9]; decide) (by rw [hc9]; rfl) (by decide) ?_
        exact w_L_case9 X hr hk hX hbl hbA hz0 (B18 := T_L_law_18 L xs n) ih x3 M _ _ ls (hT.1 hc9) h hl
      replace hT := hT.2 hc9
      have k9 : ¬ w.toInt = 9 := fun q => hc9 (Int32.toInt_inj.mp (q.trans (by decide)))
      by_cases hc10 : w = (10 : Int32)
      · refine lv_tableIn (off := 547) (tgt := 580) hx hb dL_law_33 (by rw [hc10]; decide) (by rw [hc10]; decide) (by rw [hc10]; rfl) (by decide) ?_
        exact w_L_case10 X hr hk hX hbl hbA hz0 (B18 := T_L_law_18 L xs n) ih x3 M _ _ ls (hT.1 hc10) h hl
      replace hT := hT.2 hc10
      have k10 : ¬ w.toInt = 10 := fun q => hc10 (Int32.toInt_inj.mp (q.trans (by decide)))
      by_cases hc11 : w = (11 : Int32)
      · refine lv_tableIn (off := 570) (tgt := 603) hx hb dL_law_33 (by rw [hc11]; decide) (by rw [hc11]; decide) (by rw [hc11]; rfl) (by decide) ?_
        exact w_L_case11 X hr hk hX hbl hbA hz0 (B18 := T_L_law_18 L xs n) ih x3 M _ _ ls (hT.1 hc11) h hl
      replace hT := hT.2 hc11
      have k11 : ¬ w.toInt = 11 := fun q => hc11 (Int32.toInt_inj.mp (q.trans (by decide)))
      by_cases hc12 : w = (12 : Int32)
      · refine lv_tableIn (off := 593) (tgt := 626) hx hb dL_law_33 (by rw [hc12]; decide) (by rw [hc12]; decide) (by rw [hc12]; rfl) (by decide) ?_
        exact w_L_case12 X hr hk hX hbl hbA hz0 (B18 := T_L_law_18 L xs n) ih x3 M _ _ ls (hT.1 hc12) h hl
      replace hT := hT.2 hc12
      have k12 : ¬ w.toInt = 12 := fun q => hc12 (Int32.toInt_inj.mp (q.trans (by decide)))
      by_cases hc13 : w = (13 : Int32)
      · refine lv_tableIn (off := 616) (tgt := 649) hx hb dL_law_33 (by rw [hc13]; decide) (by rw [hc13]; decide) (by rw [hc13]; rfl) (by decide) ?_
        exact w_L_case13 X hr hk hX hbl hbA hz0 (B18 := T_L_law_18 L xs n) ih x3 M _ _ ls (hT.1 hc13) h hl
      replace hT := hT.2 hc13
      have k13 : ¬ w.toInt = 13 := fun q => hc13 (Int32.toInt_inj.mp (q.trans (by decide)))
      by_cases hc14 : w = (14 : Int32)
      · refine lv_tableIn (off := 649) (tgt := 682) hx hb dL_law_33 (by rw [hc14]; decide) (by rw [hc14]; decide) (by rw [hc14]; rfl) (by decide) ?_
        exact w_L_case14 X hr hk hX hbl hbA hz0 (B18 := T_L_law_18 L xs n) ih x3 M _ _ ls (hT.1 hc14) h hl
      replace hT := hT.2 hc14
      have k14 : ¬ w.toInt = 14 := fun q => hc14 (Int32.toInt_inj.mp (q.trans (by decide)))
      by_cases hc15 : w = (15 : Int32)
      · refine lv_tableIn (off := 682) (tgt := 715) hx hb dL_law_33 (by rw [hc15]; decide) (by rw [hc15]; decide) (by rw [hc15]; rfl) (by decide) ?_
        exact w_L_case15 X hr hk hX hbl hbA hz0 (B18 := T_L_law_18 L xs n) ih x3 M _ _ ls (hT.1 hc15) h hl
      replace hT := hT.2 hc15
      have k15 : ¬ w.toInt = 15 := fun q => hc15 (Int32.toInt_inj.mp (q.trans (by decide)))
      by_cases hc16 : w = (16 : Int32)
      · refine lv_tableIn (off := 715) (tgt := 748) hx hb dL_law_33 (by rw [hc16]; decide) (by rw [hc16]; decide) (by rw [hc16]; rfl) (by decide) ?_
        exact w_L_case16 X hr hk hX hbl hbA hz0 (B18 := T_L_law_18 L xs n) ih x3 M _ _ ls (hT.1 hc16) h hl
      replace hT := hT.2 hc16
      have k16 : ¬ w.toInt = 16 := fun q => hc16 (Int32.toInt_inj.mp (q.trans (by decide)))
      by_cases hc17 : w = (17 : Int32)
      · refine lv_tableIn (off := 748) (tgt := 781) hx hb dL_law_33 (by rw [hc17]; decide) (by rw [hc17]; decide) (by rw [hc17]; rfl) (by decide) ?_
        exact w_L_case17 X hr hk hX hbl hbA hz0 (B18 := T_L_law_18 L xs n) ih x3 M _ _ ls (hT.1 hc17) h hl
      replace hT := hT.2 hc17
      have k17 : ¬ w.toInt = 17 := fun q => hc17 (Int32.toInt_inj.mp (q.trans (by decide)))
      by_cases hc18 : w = (18 : Int32)
      · refine lv_tableIn (off := 781) (tgt := 814) hx hb dL_law_33 (by rw [hc18]; decide) (by rw [hc18]; decide) (by rw [hc18]; rfl) (by decide) ?_
        exact w_L_case18 X hr hk hX hbl hbA hz0 (B18 := T_L_law_18 L xs n) ih x3 M _ _ ls (hT.1 hc18) h hl
      replace hT := hT.2 hc18
      have k18 : ¬ w.toInt = 18 := fun q => hc18 (Int32.toInt_inj.mp (q.trans (by decide)))
      by_cases hc19 : w = (19 : Int32)
      · refine lv_tableIn (off := 814) (tgt := 847) hx hb dL_law_33 (by rw [hc19]; decide) (by rw [hc19]; decide) (by rw [hc19]; rfl) (by decide) ?_
        exact w_L_case19 X hr hk hX hbl hbA hz0 (B18 := T_L_law_18 L xs n) ih x3 M _ _ ls (hT.1 hc19) h hl
      replace hT := hT.2 hc19
      have k19 : ¬ w.toInt = 19 := fun q => hc19 (Int32.toInt_inj.mp (q.trans (by decide)))
      by_cases hc20 : w = (20 : Int32)
      · refine lv_tableIn (off := 847) (tgt := 880) hx hb dL_law_33 (by rw [hc20]; decide) (by rw [hc20]; decide) (by rw [hc20]; rfl) (by decide) ?_
        exact w_L_case20 X hr hk hX hbl hbA hz0 (B18 := T_L_law_18 L xs n) ih x3 M _ _ ls (hT.1 hc20) h hl
      replace hT := hT.2 hc20
      have k20 : ¬ w.toInt = 20 := fun q => hc20 (Int32.toInt_inj.mp (q.trans (by decide)))
      by_cases hc21 : w = (21 : Int32)
      · refine lv_tableIn (off := 870) (tgt := 903) hx hb dL_law_33 (by rw [hc21]; decide) (by rw [hc21]; decide) (by rw [hc21]; rfl) (by decide) ?_
        exact w_L_case21 X hr hk hX hbl hbA hz0 (B18 := T_L_law_18 L xs n) ih x3 M _ _ ls (hT.1 hc21) h hl
      replace hT := hT.2 hc21
      have k21 : ¬ w.toInt = 21 := fun q => hc21 (Int32.toInt_inj.mp (q.trans (by decide)))
      by_cases hc22 : w = (22 : Int32)
      · refine lv_tableIn (off := 903) (tgt := 936) hx hb dL_law_33 (by rw [hc22]; decide) (by rw [hc22]; decide) (by rw [hc22]; rfl) (by decide) ?_
        exact w_L_case22 X hr hk hX hbl hbA hz0 (B18 := T_L_law_18 L xs n) ih x3 M _ _ ls (hT.1 hc22) h hl
      replace hT := hT.2 hc22
      have k22 : ¬ w.toInt = 22 := fun q => hc22 (Int32.toInt_inj.mp (q.trans (by decide)))
      by_cases hc23 : w = (23 : Int32)
      · refine lv_tableIn (off := 926) (tgt := 959) hx hb dL_law_33 (by rw [hc23]; decide) (by rw [hc23]; decide) (by rw [hc23]; rfl) (by decide) ?_
        exact w_L_case23 X hr hk hX hbl hbA hz0 (B18 := T_L_law_18 L xs n) ih x3 M _ _ ls (hT.1 hc23) h hl
      replace hT := hT.2 hc23
      have k23 : ¬ w.toInt = 23 := fun q => hc23 (Int32.toInt_inj.mp (q.trans (by decide)))
      by_cases hc24 : w = (24 : Int32)
      · refine lv_tableIn (off := 959) (tgt := 992) hx hb dL_law_33 (by rw [hc24]; decide) (by rw [hc24]; decide) (by rw [hc24]; rfl) (by decide) ?_
        exact w_L_case24 X hr hk hX hbl hbA hz0 (B18 := T_L_law_18 L xs n) ih x3 M _ _ ls (hT.1 hc24) h hl
      replace hT := hT.2 hc24
      have k24 : ¬ w.toInt = 24 := fun q => hc24 (Int32.toInt_inj.mp (q.trans (by decide)))
      by_cases hc25 : w = (25 : Int32)
      · refine lv_tableIn (off := 992) (tgt := 1025) hx hb dL_law_33 (by rw [hc25]; decide) (by rw [hc25]; decide) (by rw [hc25]; rfl) (by decide) ?_
        exact w_L_case25 X hr hk hX hbl hbA hz0 (B18 := T_L_law_18 L xs n) ih x3 M _ _ ls (hT.1 hc25) h hl
      replace hT := hT.2 hc25
      have k25 : ¬ w.toInt = 25 := fun q => hc25 (Int32.toInt_inj.mp (q.trans (by decide)))
      by_cases hc26 : w = (26 : Int32)
      · refine lv_tableIn (off := 1015) (tgt := 1048) hx hb dL_law_33 (by rw [hc26]; decide) (by rw [hc26]; decide) (by rw [hc26]; rfl) (by decide) ?_
        exact w_L_case26 X hr hk hX hbl hbA hz0 (B18 := T_L_law_18 L xs n) ih x3 M _ _ ls (hT.1 hc26) h hl
      replace hT := hT.2 hc26
      have k26 : ¬ w.toInt = 26 := fun q => hc26 (Int32.toInt_inj.mp (q.trans (by decide)))
      by_cases hc27 : w = (27 : Int32)
      · refine lv_tableIn (off := 1038) (tgt := 1071) hx hb dL_law_33 (by rw [hc27]; decide) (by rw [hc27]; decide) (by rw [hc27]; rfl) (by decide) ?_
        exact w_L_case27 X hr hk hX hbl hbA hz0 (B18 := T_L_law_18 L xs n) ih x3 M _ _ ls (hT.1 hc27) h hl
      replace hT := hT.2 hc27
      have k27 : ¬ w.toInt = 27 := fun q => hc27 (Int32.toInt_inj.mp (q.trans (by decide)))
      by_cases hc28 : w = (28 : Int32)
      · refine lv_tableIn (off := 1071) (tgt := 1104) hx hb dL_law_33 (by rw [hc28]; decide) (by rw [hc28]; decide) (by rw [hc28]; rfl) (by decide) ?_
        exact w_L_case28 X hr hk hX hbl hbA hz0 (B18 := T_L_law_18 L xs n) ih x3 M _ _ ls (hT.1 hc28) h hl
      replace hT := hT.2 hc28
      have k28 : ¬ w.toInt = 28 := fun q => hc28 (Int32.toInt_inj.mp (q.trans (by decide)))
      by_cases hc29 : w = (29 : Int32)
      · refine lv_tableIn (off := 1094) (tgt := 1127) hx hb dL_law_33 (by rw [hc29]; decide) (by rw [hc29]; decide) (by rw [hc29]; rfl) (by decide) ?_
        exact w_L_case29 X hr hk hX hbl hbA hz0 (B18 := T_L_law_18 L xs n) ih x3 M _ _ ls (hT.1 hc29) h hl
      replace hT := hT.2 hc29
      have k29 : ¬ w.toInt = 29 := fun q => hc29 (Int32.toInt_inj.mp (q.trans (by decide)))
      by_cases hc30 : w = (30 : Int32)
      · refine lv_tableIn (off := 1143) (tgt := 1176) hx hb dL_law_33 (by rw [hc30]; decide) (by rw [hc30]; decide) (by rw [hc30]; rfl) (by decide) ?_
        exact w_L_case30 X hr hk hX hbl hbA hz0 (B18 := T_L_law_18 L xs n) ih x3 M _ _ ls (hT.1 hc30) h hl
      replace hT := hT.2 hc30
      have k30 : ¬ w.toInt = 30 := fun q => hc30 (Int32.toInt_inj.mp (q.trans (by decide)))
      by_cases hc31 : w = (31 : Int32)
      · refine lv_tableIn (off := 1166) (tgt := 1199) hx hb dL_law_33 (by rw [hc31]; decide) (by rw [hc31]; decide) (by rw [hc31]; rfl) (by decide) ?_
        exact w_L_case31 X hr hk hX hbl hbA hz0 (B18 := T_L_law_18 L xs n) ih x3 M _ _ ls (hT.1 hc31) h hl
      replace hT := hT.2 hc31
      have k31 : ¬ w.toInt = 31 := fun q => hc31 (Int32.toInt_inj.mp (q.trans (by decide)))
      by_cases hc32 : w = (32 : Int32)
      · refine lv_tableIn (off := 1189) (tgt := 1222) hx hb dL_law_33 (by rw [hc32]; decide) (by rw [hc32]; decide) (by rw [hc32]; rfl) (by decide) ?_
        exact w_L_case32 X hr hk hX hbl hbA hz0 (B18 := T_L_law_18 L xs n) ih x3 M _ _ ls (hT.1 hc32) h hl
      replace hT := hT.2 hc32
      have k32 : ¬ w.toInt = 32 := fun q => hc32 (Int32.toInt_inj.mp (q.trans (by decide)))
      by_cases hc33 : w = (33 : Int32)
      · refine lv_tableIn (off := 1212) (tgt := 1245) hx hb dL_law_33 (by rw [hc33]; decide) (by rw [hc33]; decide) (by rw [hc33]; rfl) (by decide) ?_
        exact w_L_case33 X hr hk hX hbl hbA hz0 (B18 := T_L_law_18 L xs n) ih x3 M _ _ ls (hT.1 hc33) h hl
      replace hT := hT.2 hc33
      have k33 : ¬ w.toInt = 33 := fun q => hc33 (Int32.toInt_inj.mp (q.trans (by decide)))
      by_cases hc34 : w = (34 : Int32)
      · refine lv_tableIn (off := 1255) (tgt := 1288) hx hb dL_law_33 (by rw [hc34]; decide) (by rw [hc34]; decide) (by rw [hc34]; rfl) (by decide) ?_
        exact w_L_case34 X hr hk hX hbl hbA hz0 (B18 := T_L_law_18 L xs n) ih x3 M _ _ ls (hT.1 hc34) h hl
      replace hT := hT.2 hc34
      have k34 : ¬ w.toInt = 34 := fun q => hc34 (Int32.toInt_inj.mp (q.trans (by decide)))
      by_cases hc35 : w = (35 : Int32)
      · refine lv_tableIn (off := 1278) (tgt := 1311) hx hb dL_law_33 (by rw [hc35]; decide) (by rw [hc35]; decide) (by rw [hc35]; rfl) (by decide) ?_
        exact w_L_case35 X hr hk hX hbl hbA hz0 (B18 := T_L_law_18 L xs n) ih x3 M _ _ ls (hT.1 hc35) h hl
      replace hT := hT.2 hc35
      have k35 : ¬ w.toInt = 35 := fun q => hc35 (Int32.toInt_inj.mp (q.trans (by decide)))
      by_cases hc36 : w = (36 : Int32)
      · refine lv_tableIn (off := 1301) (tgt := 1334) hx hb dL_law_33 (by rw [hc36]; decide) (by rw [hc36]; decide) (by rw [hc36]; rfl) (by decide) ?_
        exact w_L_case36 X hr hk hX hbl hbA hz0 (B18 := T_L_law_18 L xs n) ih x3 M _ _ ls (hT.1 hc36) h hl
      replace hT := hT.2 hc36
      have k36 : ¬ w.toInt = 36 := fun q => hc36 (Int32.toInt_inj.mp (q.trans (by decide)))
      by_cases hc37 : w = (37 : Int32)
      · refine lv_tableIn (off := 1314) (tgt := 1347) hx hb dL_law_33 (by rw [hc37]; decide) (by rw [hc37]; decide) (by rw [hc37]; rfl) (by decide) ?_
        exact w_L_case37 X hr hk hX hbl hbA hz0 (B18 := T_L_law_18 L xs n) ih x3 M _ _ ls (hT.1 hc37) h hl
      replace hT := hT.2 hc37
      have k37 : ¬ w.toInt = 37 := fun q => hc37 (Int32.toInt_inj.mp (q.trans (by decide)))
      by_cases hc38 : w = (38 : Int32)
      · refine lv_tableIn (off := 1353) (tgt := 1386) hx hb dL_law_33 (by rw [hc38]; decide) (by rw [hc38]; decide) (by rw [hc38]; rfl) (by decide) ?_
        exact w_L_case38 X hr hk hX hbl hbA hz0 (B18 := T_L_law_18 L xs n) ih x3 M _ _ ls (hT.1 hc38) h hl
      replace hT := hT.2 hc38
      have k38 : ¬ w.toInt = 38 := fun q => hc38 (Int32.toInt_inj.mp (q.trans (by decide)))
      refine lv_tableOut (tgt := 1409) hx hb dL_law_33 (by omega) (by decide) ?_
      exact w_L_law_1409 X hr hk hX hbl hbA hz0 (B18 := T_L_law_18 L xs n) ih x3 M _ _ ls hT h hl
