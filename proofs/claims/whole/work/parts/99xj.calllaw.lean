/-! TEXT: the call_v -/
def msc (a j : Nat) : Prop := (a = 159 ∧ (j = 0 ∨ (15 ≤ j ∧ j ≤ 19) ∨ (28 ≤ j ∧ j ≤ 36))) ∨ ((172 ≤ a ∧ a ≤ 175) ∧ 32 ≤ j) ∨ ((a = 176 ∨ a = 177) ∧ 800 ≤ j) ∨ a = 178 ∨ (a = 179 ∧ 8 ≤ j) ∨ ((a = 180 ∨ a = 181) ∧ 64 ≤ j)
theorem il_keep {M M2 : Mm} (h : IL M 1 (vn M)) (Fc : ∀ a j, 16 ≤ a → a ≤ 20 → M2 a j = M a j) (F0 : M2 171 0 = M 171 0) (F1 : ∀ a j, 172 ≤ a → a ≤ 175 → j < 16 → M2 a j = M a j) (F2 : ∀ a j, 176 ≤ a → a ≤ 177 → j < 400 → M2 a j = M a j) : IL M2 1 (vn M2) := by
  refine h.pw (fun t j h1 h2 => Fc (1 + t) j (by omega) (by omega)) F0 (fun g i h1 h2 hi => ?_) (fun g i h1 h2 hi => ?_)
  · match g, h1, h2 with
    | 21, _, _ => exact F1 172 i (by omega) (by omega) hi
    | 22, _, _ => exact F1 173 i (by omega) (by omega) hi
    | 23, _, _ => exact F1 174 i (by omega) (by omega) hi
    | 24, _, _ => exact F1 175 i (by omega) (by omega) hi
    | g + 25, _, h => exact absurd h (by omega)
  · match g, h1, h2 with
    | 25, _, _ => exact F2 176 i (by omega) (by omega) hi
    | 26, _, _ => exact F2 177 i (by omega) (by omega) hi
    | g + 27, _, h => exact absurd h (by omega)
theorem ip_keep {np nb : Nat} {M M2 : Mm} (h : IP np nb M 1 (vn M)) (Fc : ∀ a j, 23 ≤ a → a ≤ 29 → M2 a j = M a j) (F1 : ∀ j, j = 37 ∨ j = 39 ∨ j = 41 → M2 159 j = M 159 j) (F7 : ∀ j, j < 8 → M2 179 j = M 179 j) (F8 : ∀ a j, 180 ≤ a → a ≤ 181 → j < 64 → M2 a j = M a j) : IP np nb M2 1 (vn M2) := by
  refine h.pw (fun t j h1 h2 => Fc (1 + t) j (by omega) (by omega)) (fun i h1 h2 => ?_) F7 (fun i hi => F8 181 i (by omega) (by omega) hi) (fun i hi => F8 180 i (by omega) (by omega) hi)
  match i, h1, h2 with
  | 2, _, _ => exact F1 37 (by omega)
  | 3, _, _ => exact F1 39 (by omega)
  | 4, _, _ => exact F1 41 (by omega)
theorem keep_inv {N np nb : Nat} {M M2 : Mm} (hI : IW N np nb M 1 (vn M)) (hU : IU N np nb M) (hX : IX N M) (G : ∀ a j, ¬ csc a j → ¬ msc a j → M2 a j = M a j) (f1 : M2 159 35 = M2 0 10) (f2 : M2 159 36 = M2 0 11) (c1 : M2 132 1 = 0) (c2 : M2 159 15 = 0) : Inv N M2 := by
  unfold csc msc at G
  refine tx_inv hI hX (fun a j z => G a j ?_ ?_) (hU.cg (fun a h1 h2 => funext fun j => G a j (by omega) (by omega)) (funext fun j => G 161 j (by omega) (by omega)) (G 159 3 (by omega) (by omega))) (il_keep hI.2.2.2.1 (fun a j h1 h2 => G a j (by omega) (by omega)) (G 171 0 (by omega) (by omega)) (fun a j h1 h2 h3 => G a j (by omega) (by omega)) (fun a j h1 h2 h3 => G a j (by omega) (by omega))) (ip_keep hI.2.2.2.2.1 (fun a j h1 h2 => G a j (by omega) (by omega)) (fun j h => G 159 j (by omega) (by omega)) (fun j h => G 179 j (by omega) (by omega)) (fun a j h1 h2 h3 => G a j (by omega) (by omega))) f1 f2 c1 c2
  · unfold txw at z
    omega
  · unfold txw at z
    omega
set_option maxHeartbeats 2000000 in
theorem tx_out {N np nb : Nat} {M : Mm} {x : Int32} {K1 : Int32 → Mm → Prop} (hI : IW N np nb M 1 (vn M)) (hU : IU N np nb M) (hX : IX N M) (hx : ¬ ((0 : Int32) ≤ x ∧ x ≤ 3)) (hK1 : ∀ r M1, (∀ K2 : Int32 → Mm → Prop, (∀ M2, Inv N M2 → K2 r M2) → T_X12_text x M1 K2) → K1 r M1) : T_X11_text x M K1 := by
  rw [T_X11_text]
  intro M5 g5 M6 g6
  rw [iw_neg hx]
  refine ⟨fun _ => ?_, fun z => absurd rfl z⟩
  rw [T_X11_text_66]
  intro M1 g1
  refine ⟨fun _ => hK1 (-1) M1 (fun K2 hK2 => ?_), fun z => absurd rfl z⟩
  rw [T_X12_text]
  intro N8 g8 N9 g9 N10 g10 N11 g11 N12 g12 N13 g13
  rw [ii_neg hx]
  refine ⟨fun _ => ?_, fun z => absurd rfl z⟩
  rw [T_X12_text_69]
  intro M2 g2
  refine ⟨fun _ => hK2 M2 (keep_inv hI hU hX (fun a j z1 z2 => ?_) ?_ ?_ ?_ ?_), fun z => absurd rfl z⟩
  · unfold csc at z1
    unfold msc at z2
    rw [g2, mu, if_neg (by omega), g13, mu, if_neg (by omega), g12, mu, if_neg (by omega), g11, mu, if_neg (by omega), g10, mu, if_neg (by omega), g9, mu, if_neg (by omega), g8, mu, if_neg (by omega), g1, mu, if_neg (by omega), g6, mu, if_neg (by omega), g5, mu, if_neg (by omega)]
  · rw [g2, g13, g12, g11, g10, g9, g8, g1, g6, g5]
    simp [mu]
  · rw [g2, g13, g12, g11, g10, g9, g8, g1, g6, g5]
    simp [mu]
  · rw [g2, g13, g12, g11, g10, g9, g8, g1, g6, g5]
    simp [mu]
  · rw [g2, mu, if_pos ⟨rfl, rfl⟩]
set_option maxHeartbeats 4000000 in
theorem tx_law {N np nb k : Nat} {ch : Nat → Nat} {M : Mm} {K1 : Int32 → Mm → Prop} (hI : IW N np nb M 1 (vn M)) (hU : IU N np nb M) (hX : IX N M) (hC : CTp ch k M) (hW : TW ch k M) (hK1 : ∀ r M1, (∀ K2 : Int32 → Mm → Prop, (∀ M2, Inv N M2 → K2 r M2) → T_X12_text (nI 0) M1 K2) → K1 r M1) : T_X11_text (nI 0) M K1 := by
  have e0 : M 2 0 = nI np := hI.1.1.2.2.1
  have e1 : M 2 1 = nI nb := hI.1.1.2.2.2.1
  refine cls_beg (by omega) hC e0 e1 (fun n tk ps en M33 hS hT h7 h8 _ _ h6 h77 _ _ _ _ _ hF => ?_)
  have hn := hS.n
  have LF0 : LF [] 0 (fun _ => 0) (fun _ => 0) (fun _ => 0) 0 := ⟨Nat.le_refl 0, rfl, fun x hx => absurd hx (by simp), fun j hj => absurd hj (by omega)⟩
  have LC0 : LC n tk ps M33 0 [] 0 (fun _ => 0) (fun _ => 0) (fun _ => 0) M33 := ⟨hT, h6, fun j x hx => absurd hx (by simp), h77, fun j hj => absurd hj (by omega), fun _ _ _ => rfl⟩
  rcases law_ok hS 16 0 0 [] (fun _ => 0) (fun _ => 0) (fun _ => 0) (by omega) (by omega) LF0 with ⟨fk, p, a1, a2⟩ | ⟨l, cs, lk, lw, le, bl, bF, a1, a2⟩
  · refine a1 M33 M33 _ 5000 LC0 (by omega) (fun M14 h14 => cpost_f (M := M) h14.1 h14.2.1 (fun a j z => ?_) (fun M1 g10 g11 g1 gF => hK1 (-1) M1 (fun K2 hK2 => ?_)))
    · rw [h14.2.2 a j (by unfold csc at z; unfold yF yC xC; omega)]
      exact hF a j z
    · have hW1 : TW ch k M1 := hW.cg (gF 159 15 (by unfold csc; omega)) (fun j => gF 169 j (by unfold csc; omega)) (fun j => gF 170 j (by unfold csc; omega))
      refine mdl_beg hS hW1 (by omega) (fun M3 t w29 w30 w28 w35 w36 m3 => ?_)
      have LM0 : LM ch k n tk ps en M3 0 [] 0 (fun _ => 0) (fun _ => 0) (fun _ => 0) M3 := ⟨t, w29, fun j x hx => absurd hx (by simp), w30, fun j hj => absurd hj (by omega), fun _ _ _ => rfl⟩
      refine ⟨fun z => absurd z (by decide), fun _ => ⟨fun z => absurd z (by decide), fun _ => ⟨fun z => absurd z (by decide), fun _ => ?_⟩⟩⟩
      rw [T_X12_readLaw]
      refine a2 M3 M3 _ 5000 LM0 (by omega) (fun M19 h19 => mpost_f h19.1 h19.2.1 (fun M2 b35 b36 b15 bF2 => hK2 M2 (keep_inv hI hU hX (fun a j z1 z2 => ?_) ?_ ?_ ?_ b15)))
      · have z3 := z1
        unfold csc at z1
        unfold msc at z2
        rw [bF2 a j (by omega), h19.2.2 a j (by unfold yM xM; omega), m3 a j (by omega), gF a j z3]
      · rw [b35, bF2 0 10 (by omega), h19.2.2 0 10 (by unfold yM xM; omega), m3 0 10 (by omega), g10]
      · rw [b36, bF2 0 11 (by omega), h19.2.2 0 11 (by unfold yM xM; omega), m3 0 11 (by omega), g11]
      · rw [bF2 132 1 (by omega), h19.2.2 132 1 (by unfold yM xM; omega), m3 132 1 (by omega), g1]
  · have hz : cs.length ≤ 400 := by have := bF.1; omega
    refine a1 M33 M33 _ 5000 LC0 (by omega) (fun M14 h14 => ?_)
    obtain ⟨d1, d2, d3, d4, d5, d6⟩ := h14
    refine cpost_k bl (by rw [d6 132 7 (by unfold yC xC; omega)]; exact h7) (by rw [d6 132 8 (by unfold yC xC; omega)]; exact h8) (fun M1 g10 g11 g1 gF => tk_law (z := cs.length) hz (by rw [gF 137 6 (by omega) (by omega)]; exact d2) (fun M4 q6 q7 q17 q18 qF => hK1 (nI l) M4 (fun K2 hK2 => ?_)))
    have E4 : ∀ a j, ¬ csc a j → ¬ (16 ≤ a ∧ a ≤ 20) → M4 a j = M a j := fun a j z1 z2 => by
      have z3 := z1
      unfold csc at z1
      rw [qF a j z2, gF a j (by omega) (by omega), d6 a j (by unfold yC xC; omega)]
      exact hF a j z3
    have hW1 : TW ch k M4 := hW.cg (E4 159 15 (by unfold csc; omega) (by omega)) (fun j => E4 169 j (by unfold csc; omega) (by omega)) (fun j => E4 170 j (by unfold csc; omega) (by omega))
    refine mdl_beg hS hW1 (by omega) (fun M3 t w29 w30 w28 w35 w36 m3 => ?_)
    have LM0 : LM ch k n tk ps en M3 0 [] 0 (fun _ => 0) (fun _ => 0) (fun _ => 0) M3 := ⟨t, w29, fun j x hx => absurd hx (by simp), w30, fun j hj => absurd hj (by omega), fun _ _ _ => rfl⟩
    refine ⟨fun z => absurd z (by decide), fun _ => ⟨fun z => absurd z (by decide), fun _ => ⟨fun z => absurd z (by decide), fun _ => ?_⟩⟩⟩
    rw [T_X12_readLaw]
    refine a2 M3 M3 _ 5000 LM0 (by omega) (fun M19 h19 => ?_)
    obtain ⟨f1, f2, f3, f4, f5, f6⟩ := h19
    refine mpost_k bl ⟨fun _ => tl_ok bl hz (by rw [mu, if_neg (by omega), f6 159 28 (by unfold yM xM; omega)]; exact w28) (by rw [mu, if_neg (by omega)]; exact f2) (fun M2 r1 r2 r3 rF => hK2 M2 ?_), fun z => absurd rfl z⟩
    have C2 : ∀ a j, a < 159 → M2 a j = M4 a j := fun a j z => by rw [rF a j (by omega), mu, if_neg (by omega), f6 a j (by unfold yM xM; omega), m3 a j (by omega)]
    have Fl : ∀ a j, ¬ csc a j → ¬ msc a j → ¬ (171 ≤ a ∧ a ≤ 177) → ¬ (16 ≤ a ∧ a ≤ 20) → M2 a j = M a j := fun a j z1 z2 z3 z4 => by
      unfold msc at z2
      rw [rF a j z3, mu, if_neg (by omega), f6 a j (by unfold yM xM; omega), m3 a j (by omega)]
      exact E4 a j z1 z4
    unfold csc msc at Fl
    refine tx_inv hI hX (fun a j z => ?_) (hU.cg (fun a h1 h2 => funext fun j => Fl a j (by omega) (by omega) (by omega) (by omega)) (funext fun j => Fl 161 j (by omega) (by omega) (by omega) (by omega)) (Fl 159 3 (by omega) (by omega) (by omega) (by omega))) (il_new bF bl hn r3 ?_ ?_ (fun j x hx => ?_) (fun j hj => ?_)) (ip_keep hI.2.2.2.2.1 (fun a j h1 h2 => Fl a j (by omega) (by omega) (by omega) (by omega)) (fun j h => Fl 159 j (by omega) (by omega) (by omega) (by omega)) (fun j h => Fl 179 j (by omega) (by omega) (by omega) (by omega)) (fun a j h1 h2 h3 => Fl a j (by omega) (by omega) (by omega) (by omega))) ?_ ?_ ?_ ?_
    · unfold txw at z
      exact Fl a j (by omega) (by omega) (by omega) (by omega)
    · rw [C2 16 7 (by omega), q7, gF 137 7 (by omega) (by omega)]; exact d4
    · rw [C2 16 6 (by omega)]; exact q6
    · have hj : j < cs.length := (List.getElem?_eq_some_iff.mp hx).1
      obtain ⟨s1, s2⟩ := r2 j hj
      rw [C2 17 j (by omega), q17 j hj, gF 138 j (by omega) (by omega), s1, s2, mu, if_neg (by omega), mu, if_neg (by omega)]
      exact ⟨d3 j x hx, f3 j x hx⟩
    · obtain ⟨s1, s2, s3, s4⟩ := r1 j hj
      obtain ⟨o1, o2, o3⟩ := q18 j (by omega)
      rw [C2 18 j (by omega), C2 19 j (by omega), C2 20 j (by omega), o1, o2, o3, gF 139 j (by omega) (by omega), gF 140 j (by omega) (by omega), gF 141 j (by omega) (by omega), s1, s2, s3, s4, mu, if_neg (by omega), mu, if_neg (by omega), mu, if_neg (by omega), mu, if_neg (by omega)]
      exact ⟨d5 j hj, f5 j hj⟩
    · rw [rF 159 35 (by omega), mu, if_neg (by omega), f6 159 35 (by unfold yM xM; omega), w35, C2 0 10 (by omega), qF 0 10 (by omega), g10]
    · rw [rF 159 36 (by omega), mu, if_neg (by omega), f6 159 36 (by unfold yM xM; omega), w36, C2 0 11 (by omega), qF 0 11 (by omega), g11]
    · rw [C2 132 1 (by omega), qF 132 1 (by omega), g1]
    · rw [rF 159 15 (by omega), mu, if_pos ⟨rfl, rfl⟩]
