/-! TEXT: the call_v with a week -/
set_option maxHeartbeats 4000000 in
theorem tx_wee {N np nb k : Nat} {ch : Nat → Nat} {M : Mm} {K1 : Int32 → Mm → Prop} (hI : IW N np nb M 1 (vn M)) (hU : IU N np nb M) (hX : IX N M) (hC : CTp ch k M) (hW : TW ch k M) (hK1 : ∀ r M1, (∀ K2 : Int32 → Mm → Prop, (∀ M2, Inv N M2 → K2 r M2) → T_X12_text (nI 2) M1 K2) → K1 r M1) : T_X11_text (nI 2) M K1 := by
  have e0 : M 2 0 = nI np := hI.1.1.2.2.1
  have e1 : M 2 1 = nI nb := hI.1.1.2.2.2.1
  have hb : nb ≤ 8 := hI.1.1.2.2.2.2.2
  have e7 : M 159 7 = nI nb := hI.1.1.2.1.trans e1
  have e6 : M 159 6 = nI np := hI.1.1.1.trans e0
  have hp : np ≤ 16 := hI.1.1.2.2.2.2.1
  refine cls_beg (by omega) hC e0 e1 (fun n tk ps en M33 hS hT h7 h8 h3 h4 h6 h77 h145 h146 c6 c7 c8 hF => ?_)
  have FC0 : DC np nb n tk ps M33 0 0 (fun _ _ => 0) M33 := ⟨hT, c8, fun j hj => absurd hj (by omega), fun _ _ _ => rfl⟩
  have G := gl_ok (S := Nat → Nat → Nat) hS (x1 := 2) (fw := 277) (w := 21) (cl := T_X3_parseDay) (ml := fun x M K => T_X12_readDeed (64 + 4 * x) M K) (TL := T_X12_readWeek_2) (CL := fun B i l g M => DC np nb n tk ps B i l g M) (ML := fun B i l g M => DM ch k n tk ps en B i l g M) (CF := DCf) (MF := DMf) (bC := fun B => B 136 3 = nI np ∧ B 136 4 = nI nb) (bM := fun B => B 159 6 = nI np ∧ B 159 7 = nI nb) (Or.inl ⟨rfl, rfl⟩) rfl (by omega)
    (fun B x3 x4 M K h => by rw [T_X3_parse_78, T_X3_parse_97]; exact ⟨fun z => absurd z (by decide), fun _ => ⟨fun z => absurd z (by decide), fun _ => ⟨fun z => absurd z (by decide), fun _ => ⟨fun _ => h, fun z => absurd rfl z⟩⟩⟩⟩)
    (fun f x M K h => by rw [T_X12_readWeek_2]; exact h)
    (fun B i l s M h => h.1) (fun B i l s M h => h.1)
    (fun B i l s fk M M' h a1 a2 a3 => ⟨a1, a2, fun a j z => by rw [a3 a j (fun w => z (Or.inr w))]; exact h.2.2.2 a j (fun w => z (Or.inl w))⟩)
    (fun B i l s fk M M' h a1 a2 a3 => ⟨a1, a2, fun a j z => by rw [a3 a j (by unfold dM tM at z; omega)]; exact h.2.2 a j z⟩)
    (fun i l s hi ht hl => dl_ok hS hp hb hi ht hl) 16 0 0 (fun _ _ => 0) (by omega) (by omega)
  rcases G with ⟨fk, p, a1, a2⟩ | ⟨l, g, bl, a1, a2⟩
  · refine a1 M33 M33 _ 5000 ⟨h3, h4⟩ FC0 (by omega) (fun M14 h14 => cpost_f (M := M) h14.1 h14.2.1 (fun a j z => ?_) (fun M1 g10 g11 g1 gF => hK1 (-1) M1 (fun K2 hK2 => ?_)))
    · rw [h14.2.2 a j (by unfold csc at z; unfold dF dC tC; omega)]
      exact hF a j z
    · have hW1 : TW ch k M1 := hW.cg (gF 159 15 (by unfold csc; omega)) (fun j => gF 169 j (by unfold csc; omega)) (fun j => gF 170 j (by unfold csc; omega))
      refine mdl_beg hS hW1 (by omega) (fun M3 t w29 w30 w28 w35 w36 m3 => ?_)
      refine ⟨fun z => absurd z (by decide), fun _ => ⟨fun _ => ?_, fun z => absurd rfl z⟩⟩
      have FM0 : DM ch k n tk ps en M3 0 0 (fun _ _ => 0) M3 := ⟨t, fun j hj => absurd hj (by omega), fun _ _ _ => rfl⟩
      have x7 : M3 159 6 = nI np ∧ M3 159 7 = nI nb := ⟨by rw [m3 159 6 (by omega), gF 159 6 (by unfold csc; omega)]; exact e6, by rw [m3 159 7 (by omega), gF 159 7 (by unfold csc; omega)]; exact e7⟩
      rw [T_X12_readWeek]
      refine a2 M3 M3 _ 5000 x7 FM0 (by omega) (fun M19 h19 => mpost_f h19.1 h19.2.1 (fun M2 b35 b36 b15 bF2 => hK2 M2 (keep_inv hI hU hX (fun a j z1 z2 => ?_) ?_ ?_ ?_ b15)))
      · have z3 := z1
        unfold csc at z1
        unfold msc at z2
        rw [bF2 a j (by omega), h19.2.2 a j (by unfold dM tM; omega), m3 a j (by omega), gF a j z3]
      · rw [b35, bF2 0 10 (by omega), h19.2.2 0 10 (by unfold dM tM; omega), m3 0 10 (by omega), g10]
      · rw [b36, bF2 0 11 (by omega), h19.2.2 0 11 (by unfold dM tM; omega), m3 0 11 (by omega), g11]
      · rw [bF2 132 1 (by omega), h19.2.2 132 1 (by unfold dM tM; omega), m3 132 1 (by omega), g1]
  · refine a1 M33 M33 _ 5000 ⟨h3, h4⟩ FC0 (by omega) (fun M14 h14 => ?_)
    obtain ⟨d1, d2, d3, d4⟩ := h14
    refine cpost_k bl (by rw [d4 132 7 (by unfold dC tC; omega)]; exact h7) (by rw [d4 132 8 (by unfold dC tC; omega)]; exact h8) (fun M1 g10 g11 g1 gF => tk_wee (fun M4 q1 q2 q3 q4 qF => hK1 (nI l) M4 (fun K2 hK2 => ?_)))
    have E4 : ∀ a j, ¬ csc a j → ¬ (26 ≤ a ∧ a ≤ 29) → ¬ (a = 23 ∧ j = 8) → ¬ (a = 79 ∧ (j = 1 ∨ j = 2)) → M4 a j = M a j := fun a j z1 z2 z4 z5 => by
      have z3 := z1
      unfold csc at z1
      rw [qF a j z2 z4 z5, gF a j (by omega) (by omega), d4 a j (by unfold dC tC; omega)]
      exact hF a j z3
    have hW1 : TW ch k M4 := hW.cg (E4 159 15 (by unfold csc; omega) (by omega) (by omega) (by omega)) (fun j => E4 169 j (by unfold csc; omega) (by omega) (by omega) (by omega)) (fun j => E4 170 j (by unfold csc; omega) (by omega) (by omega) (by omega))
    refine mdl_beg hS hW1 (by omega) (fun M3 t w29 w30 w28 w35 w36 m3 => ?_)
    refine ⟨fun z => absurd z (by decide), fun _ => ⟨fun _ => ?_, fun z => absurd rfl z⟩⟩
    have FM0 : DM ch k n tk ps en M3 0 0 (fun _ _ => 0) M3 := ⟨t, fun j hj => absurd hj (by omega), fun _ _ _ => rfl⟩
    have x7 : M3 159 6 = nI np ∧ M3 159 7 = nI nb := ⟨by rw [m3 159 6 (by omega), E4 159 6 (by unfold csc; omega) (by omega) (by omega) (by omega)]; exact e6, by rw [m3 159 7 (by omega), E4 159 7 (by unfold csc; omega) (by omega) (by omega) (by omega)]; exact e7⟩
    rw [T_X12_readWeek]
    refine a2 M3 M3 _ 5000 x7 FM0 (by omega) (fun M19 h19 => ?_)
    obtain ⟨f1, f2, f3⟩ := h19
    refine mpost_k bl ⟨fun z => absurd z (by decide), fun _ => to_2 bl (fun M2 r1 r2 r3 rF => hK2 M2 ?_)⟩
    have C2 : ∀ a j, a < 159 → M2 a j = M4 a j := fun a j z => by rw [rF a j (by omega) (by omega), mu, if_neg (by omega), f3 a j (by unfold dM tM; omega), m3 a j (by omega)]
    have Fl : ∀ a j, ¬ csc a j → ¬ msc a j → ¬ (a = 180 ∧ j < 64) → ¬ (a = 159 ∧ (j = 3 ∨ j = 39)) → ¬ (26 ≤ a ∧ a ≤ 29) → ¬ (a = 23 ∧ j = 8) → ¬ (a = 79 ∧ (j = 1 ∨ j = 2)) → M2 a j = M a j := fun a j z1 z2 z3 z4 z5 z6 z7 => by
      unfold msc at z2
      rw [rF a j z3 z4, mu, if_neg (by omega), f3 a j (by unfold dM tM; omega), m3 a j (by omega)]
      exact E4 a j z1 z5 z6 z7
    unfold csc msc at Fl
    obtain ⟨⟨p1, p2, p3, p4⟩, pb, pc, pd, pe⟩ := hI.2.2.2.2.1
    have v23 : M2 23 8 = nI l := by rw [C2 23 8 (by omega), q2, gF 144 8 (by omega) (by omega)]; exact d2
    refine tx_inv hI hX (fun a j z => ?_) (IU.none ?_ ?_ r3) (il_keep hI.2.2.2.1 (fun a j h1 h2 => Fl a j (by omega) (by omega) (by omega) (by omega) (by omega) (by omega) (by omega)) (Fl 171 0 (by omega) (by omega) (by omega) (by omega) (by omega) (by omega) (by omega)) (fun a j h1 h2 h3 => Fl a j (by omega) (by omega) (by omega) (by omega) (by omega) (by omega) (by omega)) (fun a j h1 h2 h3 => Fl a j (by omega) (by omega) (by omega) (by omega) (by omega) (by omega) (by omega))) ⟨⟨?_, ?_, ?_, ?_⟩, fun i hi => ?_, fun i hi => ?_, fun b hb => ?_, fun i hi hj => ?_⟩ ?_ ?_ ?_ ?_
    · unfold txw at z
      exact Fl a j (by omega) (by omega) (by omega) (by omega) (by omega) (by omega) (by omega)
    · rw [C2 79 1 (by omega)]; exact q3
    · rw [C2 79 2 (by omega)]; exact q4
    · show M2 159 37 = M2 23 6
      rw [Fl 159 37 (by omega) (by omega) (by omega) (by omega) (by omega) (by omega) (by omega), Fl 23 6 (by omega) (by omega) (by omega) (by omega) (by omega) (by omega) (by omega)]; exact p1
    · show M2 159 41 = M2 23 7
      rw [Fl 159 41 (by omega) (by omega) (by omega) (by omega) (by omega) (by omega) (by omega), Fl 23 7 (by omega) (by omega) (by omega) (by omega) (by omega) (by omega) (by omega)]; exact p2
    · show M2 159 39 = M2 23 8
      rw [r2, v23]
    · show sm (M2 23 8) 16
      rw [v23]; exact sm_nI bl
    · show M2 179 i = M2 24 i + 1
      rw [Fl 179 i (by omega) (by omega) (by omega) (by omega) (by omega) (by omega) (by omega), Fl 24 i (by omega) (by omega) (by omega) (by omega) (by omega) (by omega) (by omega)]; exact pb i hi
    · show M2 181 i = M2 25 i ∧ sm (M2 25 i) 99
      rw [Fl 181 i (by omega) (by omega) (by omega) (by omega) (by omega) (by omega) (by omega), Fl 25 i (by omega) (by omega) (by omega) (by omega) (by omega) (by omega) (by omega)]; exact pc i hi
    · show M2 25 (8 * b) = 0
      rw [Fl 25 (8 * b) (by omega) (by omega) (by omega) (by omega) (by omega) (by omega) (by omega)]; exact pd b hb
    · have hj' : nI i < M2 23 8 := hj
      rw [v23] at hj'
      have hil : i < l := (nI_ltI (by omega) (by omega)).mp hj'
      obtain ⟨⟨s1, s2, s3, s4⟩, s5⟩ := d3 i hil
      obtain ⟨u1, u2, u3, u4⟩ := f2 i hil
      obtain ⟨o1, o2, o3, o4⟩ := q1 i hi
      have F8 : ∀ y, y < 4 * l → M2 180 y = M19 180 (64 + y) := fun y hy => by rw [r1 y hy, mu, if_neg (by omega)]
      show M2 180 (4 * i) = M2 26 i ∧ actR np nb (M2 27 i) (M2 28 i) (M2 29 i) (M2 180 (4 * i + 1)) (M2 180 (4 * i + 2)) (M2 180 (4 * i + 3))
      rw [F8 _ (by omega), F8 _ (by omega), F8 _ (by omega), F8 _ (by omega), ← Nat.add_assoc, ← Nat.add_assoc, ← Nat.add_assoc, u1, u2, u3, u4, C2 26 i (by omega), C2 27 i (by omega), C2 28 i (by omega), C2 29 i (by omega), o1, o2, o3, o4, gF 147 i (by omega) (by omega), gF 148 i (by omega) (by omega), gF 149 i (by omega) (by omega), gF 150 i (by omega) (by omega), s1, s2, s3, s4]
      exact ⟨rfl, s5⟩
    · rw [rF 159 35 (by omega) (by omega), mu, if_neg (by omega), f3 159 35 (by unfold dM tM; omega), w35, C2 0 10 (by omega), qF 0 10 (by omega) (by omega) (by omega), g10]
    · rw [rF 159 36 (by omega) (by omega), mu, if_neg (by omega), f3 159 36 (by unfold dM tM; omega), w36, C2 0 11 (by omega), qF 0 11 (by omega) (by omega) (by omega), g11]
    · rw [C2 132 1 (by omega), qF 132 1 (by omega) (by omega) (by omega), g1]
    · rw [rF 159 15 (by omega) (by omega), mu, if_pos ⟨rfl, rfl⟩]
set_option maxHeartbeats 1000000 in
theorem ay_text (N : Nat) (M : Mm) (h : Inv N M) (x : Int32) : Ay (T_X11_text x) (T_X12_text x) N M := by
  intro K1 hK1
  obtain ⟨np, nb, hI, hU, hX⟩ := h
  obtain ⟨k, hk, k1, k2⟩ := hX.1
  have hK1' : ∀ r M1, (∀ K2 : Int32 → Mm → Prop, (∀ M2, Inv N M2 → K2 r M2) → T_X12_text x M1 K2) → K1 r M1 := fun r M1 q => hK1 r M1 (fun K2 hK2 => q K2 (fun M2 hi => hK2 M2 (hi.mono (by omega))))
  have hc : ∀ i, i < k → M 133 i = nI ((fun i => (M 133 i).toNatClampNeg) i) ∧ (fun i => (M 133 i).toNatClampNeg) i ≤ 255 := fun i hi => sm_v (hX.2.1 i (by omega)).2.1 (by decide)
  have hC : CTp (fun i => (M 133 i).toNatClampNeg) k M := ⟨hk, k1, hc⟩
  have hW : TW (fun i => (M 133 i).toNatClampNeg) k M := ⟨⟨hk, k2, fun i hi => by rw [(hX.2.1 i (by omega)).1]; exact hc i hi⟩, fun i hi => (hX.2.1 i (by omega)).2.2⟩
  by_cases hx : (0 : Int32) ≤ x ∧ x ≤ 3
  rotate_left
  · exact tx_out hI hU hX hx hK1'
  obtain ⟨q, -, hq, rfl⟩ := rng (a := 0) (b := 3) (by decide) (by decide) hx
  rcases (by omega : q = 0 ∨ q = 1 ∨ q = 2 ∨ q = 3) with rfl | rfl | rfl | rfl
  · exact tx_law hI hU hX hC hW hK1'
  · exact tx_fol hI hU hX hC hW hK1'
  · exact tx_wee hI hU hX hC hW hK1'
  · exact tx_wan hI hU hX hC hW hK1'
