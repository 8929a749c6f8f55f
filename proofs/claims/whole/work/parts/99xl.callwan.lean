/-! TEXT: the call_v with who wants what -/
set_option maxHeartbeats 4000000 in
theorem tx_wan {N np nb k : Nat} {ch : Nat → Nat} {M : Mm} {K1 : Int32 → Mm → Prop} (hI : IW N np nb M 1 (vn M)) (hU : IU N np nb M) (hX : IX N M) (hC : CTp ch k M) (hW : TW ch k M) (hK1 : ∀ r M1, (∀ K2 : Int32 → Mm → Prop, (∀ M2, Inv N M2 → K2 r M2) → T_X12_text (nI 3) M1 K2) → K1 r M1) : T_X11_text (nI 3) M K1 := by
  have e0 : M 2 0 = nI np := hI.1.1.2.2.1
  have e1 : M 2 1 = nI nb := hI.1.1.2.2.2.1
  have hb : nb ≤ 8 := hI.1.1.2.2.2.2.2
  have e7 : M 159 7 = nI nb := hI.1.1.2.1.trans e1
  refine cls_beg (by omega) hC e0 e1 (fun n tk ps en M33 hS hT h7 h8 h3 h4 h6 h77 h145 h146 c6 c7 c8 hF => ?_)
  have FC0 : WC n tk ps M33 0 0 (fun _ => 0) M33 := ⟨hT, c7, ⟨fun j hj => by rw [h146 j hj]; rfl, fun _ => Nat.zero_le 99, fun _ _ => rfl⟩, fun _ _ _ => rfl⟩
  have G := gl_ok (S := Nat → Nat) hS (x1 := 3) (fw := 275) (w := 19) (cl := T_X3_parseWants) (ml := fun _ M K => T_X12_readWant M K) (TL := T_X12_readWants_26) (CL := fun B i l g M => WC n tk ps B i l g M) (ML := fun B i l g M => WM ch k n tk ps en B i l g M) (CF := WCf) (MF := WMf) (bC := fun B => B 136 4 = nI nb) (bM := fun B => B 159 7 = nI nb) (Or.inr ⟨Or.inr rfl, rfl⟩) rfl (by omega)
    (fun B x3 x4 M K h => by rw [T_X3_parse_78, T_X3_parse_97, T_X3_parse_116]; exact ⟨fun z => absurd z (by decide), fun _ => ⟨fun z => absurd z (by decide), fun _ => ⟨fun z => absurd z (by decide), fun _ => ⟨fun z => absurd z (by decide), fun _ => ⟨fun z => absurd z (by decide), fun _ => h⟩⟩⟩⟩⟩)
    (fun f x M K h => by rw [T_X12_readWants_26]; exact h)
    (fun B i l s M h => h.1) (fun B i l s M h => h.1)
    (fun B i l s fk M M' h a1 a2 a3 => ⟨a1, a2, fun a j z => by rw [a3 a j (fun w => z (Or.inr w))]; exact h.2.2.2 a j (fun w => z (Or.inl w))⟩)
    (fun B i l s fk M M' h a1 a2 a3 => ⟨a1, a2, fun a j z => by rw [a3 a j (by unfold wM tM at z; omega)]; exact h.2.2 a j z⟩)
    (fun i l s hi ht hl => wl_ok hS hb hi ht) 16 0 0 (fun _ => 0) (by omega) (by omega)
  rcases G with ⟨fk, p, a1, a2⟩ | ⟨l, g, bl, a1, a2⟩
  · refine a1 M33 M33 _ 5000 h4 FC0 (by omega) (fun M14 h14 => cpost_f (M := M) h14.1 h14.2.1 (fun a j z => ?_) (fun M1 g10 g11 g1 gF => hK1 (-1) M1 (fun K2 hK2 => ?_)))
    · rw [h14.2.2 a j (by unfold csc at z; unfold wF wC tC; omega)]
      exact hF a j z
    · have hW1 : TW ch k M1 := hW.cg (gF 159 15 (by unfold csc; omega)) (fun j => gF 169 j (by unfold csc; omega)) (fun j => gF 170 j (by unfold csc; omega))
      refine mdl_beg hS hW1 (by omega) (fun M3 t w29 w30 w28 w35 w36 m3 => ?_)
      refine ⟨fun z => absurd z (by decide), fun _ => ⟨fun z => absurd z (by decide), fun _ => ⟨fun _ => ?_, fun z => absurd rfl z⟩⟩⟩
      refine rw_2 (fun M3' y1 y2 => ?_)
      have FM0 : WM ch k n tk ps en M3' 0 0 (fun _ => 0) M3' := ⟨t.cg (fun j _ _ => y2 159 j (by omega)) (fun j => y2 169 j (by omega)) (fun j => y2 170 j (by omega)), y1, fun _ _ _ => rfl⟩
      have x7 : M3' 159 7 = nI nb := by rw [y2 159 7 (by omega), m3 159 7 (by omega), gF 159 7 (by unfold csc; omega)]; exact e7
      refine a2 M3' M3' _ 5000 x7 FM0 (by omega) (fun M19 h19 => mpost_f h19.1 h19.2.1 (fun M2 b35 b36 b15 bF2 => hK2 M2 (keep_inv hI hU hX (fun a j z1 z2 => ?_) ?_ ?_ ?_ b15)))
      · have z3 := z1
        unfold csc at z1
        unfold msc at z2
        rw [bF2 a j (by omega), h19.2.2 a j (by unfold wM tM; omega), y2 a j (by omega), m3 a j (by omega), gF a j z3]
      · rw [b35, bF2 0 10 (by omega), h19.2.2 0 10 (by unfold wM tM; omega), y2 0 10 (by omega), m3 0 10 (by omega), g10]
      · rw [b36, bF2 0 11 (by omega), h19.2.2 0 11 (by unfold wM tM; omega), y2 0 11 (by omega), m3 0 11 (by omega), g11]
      · rw [bF2 132 1 (by omega), h19.2.2 132 1 (by unfold wM tM; omega), y2 132 1 (by omega), m3 132 1 (by omega), g1]
  · refine a1 M33 M33 _ 5000 h4 FC0 (by omega) (fun M14 h14 => ?_)
    obtain ⟨d1, d2, ⟨d3, d5, d6⟩, d4⟩ := h14
    refine cpost_k bl (by rw [d4 132 7 (by unfold wC tC; omega)]; exact h7) (by rw [d4 132 8 (by unfold wC tC; omega)]; exact h8) (fun M1 g10 g11 g1 gF => tk_wan (fun M4 q1 q2 qF => hK1 (nI l) M4 (fun K2 hK2 => ?_)))
    have E4 : ∀ a j, ¬ csc a j → a ≠ 25 → ¬ (a = 23 ∧ j = 7) → M4 a j = M a j := fun a j z1 z2 z4 => by
      have z3 := z1
      unfold csc at z1
      rw [qF a j z2 z4, gF a j (by omega) (by omega), d4 a j (by unfold wC tC; omega)]
      exact hF a j z3
    have hW1 : TW ch k M4 := hW.cg (E4 159 15 (by unfold csc; omega) (by omega) (by omega)) (fun j => E4 169 j (by unfold csc; omega) (by omega) (by omega)) (fun j => E4 170 j (by unfold csc; omega) (by omega) (by omega))
    refine mdl_beg hS hW1 (by omega) (fun M3 t w29 w30 w28 w35 w36 m3 => ?_)
    refine ⟨fun z => absurd z (by decide), fun _ => ⟨fun z => absurd z (by decide), fun _ => ⟨fun _ => ?_, fun z => absurd rfl z⟩⟩⟩
    refine rw_2 (fun M3' y1 y2 => ?_)
    have FM0 : WM ch k n tk ps en M3' 0 0 (fun _ => 0) M3' := ⟨t.cg (fun j _ _ => y2 159 j (by omega)) (fun j => y2 169 j (by omega)) (fun j => y2 170 j (by omega)), y1, fun _ _ _ => rfl⟩
    have x7 : M3' 159 7 = nI nb := by rw [y2 159 7 (by omega), m3 159 7 (by omega), E4 159 7 (by unfold csc; omega) (by omega) (by omega)]; exact e7
    refine a2 M3' M3' _ 5000 x7 FM0 (by omega) (fun M19 h19 => ?_)
    obtain ⟨f1, f2, f3⟩ := h19
    refine mpost_k bl ⟨fun z => absurd z (by decide), fun _ => to_3 (fun M2 r1 r2 rF => hK2 M2 ?_)⟩
    have C2 : ∀ a j, a < 159 → M2 a j = M4 a j := fun a j z => by rw [rF a j (by omega) (by omega), mu, if_neg (by omega), f3 a j (by unfold wM tM; omega), y2 a j (by omega), m3 a j (by omega)]
    have Fl : ∀ a j, ¬ csc a j → ¬ msc a j → ¬ (a = 181 ∧ j < 64) → ¬ (a = 159 ∧ j = 41) → a ≠ 25 → ¬ (a = 23 ∧ j = 7) → M2 a j = M a j := fun a j z1 z2 z3 z4 z5 z6 => by
      unfold msc at z2
      rw [rF a j z3 z4, mu, if_neg (by omega), f3 a j (by unfold wM tM; omega), y2 a j (by omega), m3 a j (by omega)]
      exact E4 a j z1 z5 z6
    unfold csc msc at Fl
    obtain ⟨⟨p1, p2, p3, p4⟩, pb, pc, pd, pe⟩ := hI.2.2.2.2.1
    have v25 : ∀ i, i < 64 → M2 25 i = nI (g i) := fun i hi => by rw [C2 25 i (by omega), q1 i hi, gF 146 i (by omega) (by omega)]; exact d3 i hi
    refine tx_inv hI hX (fun a j z => ?_) (hU.cg (fun a h1 h2 => funext fun j => Fl a j (by omega) (by omega) (by omega) (by omega) (by omega) (by omega)) (funext fun j => Fl 161 j (by omega) (by omega) (by omega) (by omega) (by omega) (by omega)) (Fl 159 3 (by omega) (by omega) (by omega) (by omega) (by omega) (by omega))) (il_keep hI.2.2.2.1 (fun a j h1 h2 => Fl a j (by omega) (by omega) (by omega) (by omega) (by omega) (by omega)) (Fl 171 0 (by omega) (by omega) (by omega) (by omega) (by omega) (by omega)) (fun a j h1 h2 h3 => Fl a j (by omega) (by omega) (by omega) (by omega) (by omega) (by omega)) (fun a j h1 h2 h3 => Fl a j (by omega) (by omega) (by omega) (by omega) (by omega) (by omega))) ⟨⟨?_, ?_, ?_, ?_⟩, fun i hi => ?_, fun i hi => ?_, fun b hb => ?_, fun i hi hj => ?_⟩ ?_ ?_ ?_ ?_
    · unfold txw at z
      exact Fl a j (by omega) (by omega) (by omega) (by omega) (by omega) (by omega)
    · show M2 159 37 = M2 23 6
      rw [Fl 159 37 (by omega) (by omega) (by omega) (by omega) (by omega) (by omega), Fl 23 6 (by omega) (by omega) (by omega) (by omega) (by omega) (by omega)]; exact p1
    · show M2 159 41 = M2 23 7
      rw [r2, C2 23 7 (by omega), q2, gF 144 7 (by omega) (by omega), d2]
    · show M2 159 39 = M2 23 8
      rw [Fl 159 39 (by omega) (by omega) (by omega) (by omega) (by omega) (by omega), Fl 23 8 (by omega) (by omega) (by omega) (by omega) (by omega) (by omega)]; exact p3
    · show sm (M2 23 8) 16
      rw [Fl 23 8 (by omega) (by omega) (by omega) (by omega) (by omega) (by omega)]; exact p4
    · show M2 179 i = M2 24 i + 1
      rw [Fl 179 i (by omega) (by omega) (by omega) (by omega) (by omega) (by omega), Fl 24 i (by omega) (by omega) (by omega) (by omega) (by omega) (by omega)]; exact pb i hi
    · show M2 181 i = M2 25 i ∧ sm (M2 25 i) 99
      rw [r1 i hi, mu, if_neg (by omega), f2 i hi, v25 i hi]
      exact ⟨rfl, sm_nI (d5 i)⟩
    · show M2 25 (8 * b) = 0
      rw [v25 (8 * b) (by omega), d6 b hb]
      rfl
    · have hj' : nI i < M2 23 8 := hj
      rw [Fl 23 8 (by omega) (by omega) (by omega) (by omega) (by omega) (by omega)] at hj'
      have F8 : ∀ y, y < 64 → M2 180 y = M 180 y := fun y hy => Fl 180 y (by omega) (by omega) (by omega) (by omega) (by omega) (by omega)
      have F9 : ∀ a, 26 ≤ a → a ≤ 29 → M2 a i = M a i := fun a z1 z2 => Fl a i (by omega) (by omega) (by omega) (by omega) (by omega) (by omega)
      show M2 180 (4 * i) = M2 26 i ∧ actR np nb (M2 27 i) (M2 28 i) (M2 29 i) (M2 180 (4 * i + 1)) (M2 180 (4 * i + 2)) (M2 180 (4 * i + 3))
      rw [F8 _ (by omega), F8 _ (by omega), F8 _ (by omega), F8 _ (by omega), F9 26 (by omega) (by omega), F9 27 (by omega) (by omega), F9 28 (by omega) (by omega), F9 29 (by omega) (by omega)]
      exact pe i hi hj'
    · rw [rF 159 35 (by omega) (by omega), mu, if_neg (by omega), f3 159 35 (by unfold wM tM; omega), y2 159 35 (by omega), w35, C2 0 10 (by omega), qF 0 10 (by omega) (by omega), g10]
    · rw [rF 159 36 (by omega) (by omega), mu, if_neg (by omega), f3 159 36 (by unfold wM tM; omega), y2 159 36 (by omega), w36, C2 0 11 (by omega), qF 0 11 (by omega) (by omega), g11]
    · rw [C2 132 1 (by omega), qF 132 1 (by omega) (by omega), g1]
    · rw [rF 159 15 (by omega) (by omega), mu, if_pos ⟨rfl, rfl⟩]
