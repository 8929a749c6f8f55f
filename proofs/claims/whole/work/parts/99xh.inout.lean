/-! TEXT: the class's way_v in and out -/
theorem fill_ok {a0 n : Nat} {x : Int32} {M : Mm} {K : Mm → Prop} (h0 : ln a0 = n) (hn : n < 5000) (hK : ∀ M', (∀ j, j < n → M' a0 j = x) → (∀ a j, a ≠ a0 → M' a j = M a j) → K M') : T_X11_fillRow a0 x M K := by
  have L : ∀ m i f M1, i + m = n → m < f → (∀ j, j < i → M1 a0 j = x) → (∀ a j, a ≠ a0 → M1 a j = M a j) → T_X11_fillRow_2 a0 f x (nI i) M1 K := by
    intro m
    induction m with
    | zero =>
      intro i f M1 hi hf h1 h2
      obtain ⟨f, rfl⟩ : ∃ g, f = g + 1 := ⟨f - 1, by omega⟩
      rw [T_X11_fillRow_2, h0]
      have e : i = n := by omega
      subst e
      exact pk_le i i (fun _ => hK M1 h1 h2) (fun z => absurd z (by omega))
    | succ m ih =>
      intro i f M1 hi hf h1 h2
      obtain ⟨f, rfl⟩ : ∃ g, f = g + 1 := ⟨f - 1, by omega⟩
      rw [T_X11_fillRow_2, h0, nI_clamp (n := i) (by omega)]
      refine pk_le n i (fun z => absurd z (by omega)) (fun _ => ⟨vp_in_nI (by omega) (by omega), fun M2 g2 y4 g4 => ?_⟩)
      rw [g4, nI_1]
      refine ih (i + 1) f M2 (by omega) (by omega) (fun j hj => ?_) (fun a j z => by rw [g2, mu, if_neg (fun w => z w.1)]; exact h2 a j z)
      rw [g2, mu]
      by_cases c : j = i
      · rw [if_pos ⟨rfl, c⟩]
      · rw [if_neg (fun w => c w.2)]; exact h1 j (by omega)
  rw [T_X11_fillRow]
  exact L n 0 5000 M (by omega) (by omega) (fun j hj => absurd hj (by omega)) (fun _ _ _ => rfl)
/-- what the class writes_v before_v it takes_v a text -/
def csc (a j : Nat) : Prop := (a = 0 ∧ (j = 10 ∨ j = 11)) ∨ (a = 132 ∧ (j = 1 ∨ (4 ≤ j ∧ j ≤ 8))) ∨ (134 ≤ a ∧ a ≤ 150)
theorem cls_beg {ch : Nat → Nat} {k np nb q : Nat} {M : Mm} {K : Int32 → Mm → Prop} (hq : q ≤ 3) (hM : CTp ch k M) (e0 : M 2 0 = nI np) (e1 : M 2 1 = nI nb) (hK : ∀ n tk ps en M33, TS ch k n tk ps en → TC n tk ps 0 M33 → M33 132 7 = 0 → M33 132 8 = -1 → M33 136 3 = nI np → M33 136 4 = nI nb → M33 137 6 = 0 → M33 137 7 = 0 → (∀ j, j < 8 → M33 145 j = -1) → (∀ j, j < 64 → M33 146 j = 0) → M33 144 6 = 0 → M33 144 7 = 0 → M33 144 8 = 0 → (∀ a j, ¬ csc a j → M33 a j = M a j) → T_X3_parse_35 2 5000 (nI q) 0 0 M33 (fun r15 M14 => ∀ M16 : Mm, M16 = m_up M14 0 10 (M14 132 7) → ∀ M17 : Mm, M17 = m_up M16 0 11 (M16 132 8) → T_X11_text_66 (nI q) r15 M17 K)) : T_X11_text (nI q) M K := by
  obtain ⟨t1, t2, t3⟩ := id hM
  have hh : (0 : Int32) ≤ nI q ∧ nI q ≤ (3 : Int32) := ⟨nI_le (a := 0) (by omega) (by omega), nI_le (b := 3) (by omega) (by decide)⟩
  rw [T_X11_text]
  intro M5 g5 M6 g6
  rw [iw_pos hh]
  refine ⟨fun z => absurd z (by decide), fun _ => ?_⟩
  have E6 : ∀ a j, ¬ (a = 0 ∧ (j = 10 ∨ j = 11)) → M6 a j = M a j := fun a j z => by rw [g6, mu, if_neg (by omega), g5, mu, if_neg (by omega)]
  have hT : CTp ch k M6 := ⟨t1, by rw [E6 132 1 (by omega)]; exact t2, fun i hi => by rw [E6 133 i (by omega)]; exact t3 i hi⟩
  refine beg_ok hT (fun n tk ps en M12 s1 s2 s3 s4 s5 s6 s7 s8 => ?_)
  rw [T_X3_parse]
  intro M28 g28 M29 g29
  have w28 : M28 2 1 = nI nb := by rw [g28, mu, if_neg (by omega), s8 2 1 (by omega) (by omega) (by omega), E6 2 1 (by omega)]; exact e1
  have w12 : M12 2 0 = nI np := by rw [s8 2 0 (by omega) (by omega) (by omega), E6 2 0 (by omega)]; exact e0
  rw [w12] at g28
  rw [w28] at g29
  rw [T_X2_clear]
  intro N1 h1 N2 h2
  rw [T_X5_clear, show rf 144 0 = 145 from by decide, show rf 144 1 = 146 from by decide]
  refine fill_ok (n := 8) (by decide) (by omega) (fun N3 a1 a2 => fill_ok (n := 64) (by decide) (by omega) (fun N4 b1 b2 N5 h5 N6 h6 N7 h7 => ?_))
  have E : ∀ a j, ¬ (a = 136 ∧ (j = 3 ∨ j = 4)) → ¬ (a = 137 ∧ (j = 6 ∨ j = 7)) → ¬ (a = 144 ∧ (j = 6 ∨ j = 7 ∨ j = 8)) → a ≠ 145 → a ≠ 146 → N7 a j = M12 a j := fun a j z1 z2 z3 z4 z5 => by rw [h7, mu, if_neg (by omega), h6, mu, if_neg (by omega), h5, mu, if_neg (by omega), b2 a j z5, a2 a j z4, h2, mu, if_neg (by omega), h1, mu, if_neg (by omega), g29, mu, if_neg (by omega), g28, mu, if_neg (by omega)]
  have E' : ∀ a j, ¬ (a = 144 ∧ (j = 6 ∨ j = 7 ∨ j = 8)) → a ≠ 145 → a ≠ 146 → N7 a j = N2 a j := fun a j z3 z4 z5 => by rw [h7, mu, if_neg (by omega), h6, mu, if_neg (by omega), h5, mu, if_neg (by omega), b2 a j z5, a2 a j z4]
  refine hK n tk ps en N7 s1 ⟨by omega, by rw [E 132 4 (by omega) (by omega) (by omega) (by omega) (by omega)]; exact s2, by rw [E 132 5 (by omega) (by omega) (by omega) (by omega) (by omega)]; exact s3, by rw [E 132 6 (by omega) (by omega) (by omega) (by omega) (by omega)]; exact s4, fun j hj => by rw [E 134 j (by omega) (by omega) (by omega) (by omega) (by omega), E 135 j (by omega) (by omega) (by omega) (by omega) (by omega)]; exact s7 j hj⟩ ?_ ?_ ?_ ?_ ?_ ?_ ?_ ?_ ?_ ?_ ?_ ?_
  · rw [E 132 7 (by omega) (by omega) (by omega) (by omega) (by omega)]; exact s5
  · rw [E 132 8 (by omega) (by omega) (by omega) (by omega) (by omega)]; exact s6
  · rw [E' 136 3 (by omega) (by omega) (by omega), h2, mu, if_neg (by omega), h1, mu, if_neg (by omega), g29, mu, if_neg (by omega), g28, mu, if_pos ⟨rfl, rfl⟩]
  · rw [E' 136 4 (by omega) (by omega) (by omega), h2, mu, if_neg (by omega), h1, mu, if_neg (by omega), g29, mu, if_pos ⟨rfl, rfl⟩]
  · rw [E' 137 6 (by omega) (by omega) (by omega), h2, mu, if_neg (by omega), h1, mu, if_pos ⟨rfl, rfl⟩]
  · rw [E' 137 7 (by omega) (by omega) (by omega), h2, mu, if_pos ⟨rfl, rfl⟩]
  · intro j hj
    rw [h7, mu, if_neg (by omega), h6, mu, if_neg (by omega), h5, mu, if_neg (by omega), b2 145 j (by omega)]
    exact a1 j hj
  · intro j hj
    rw [h7, mu, if_neg (by omega), h6, mu, if_neg (by omega), h5, mu, if_neg (by omega)]
    exact b1 j hj
  · rw [h7, mu, if_neg (by omega), h6, mu, if_neg (by omega), h5, mu, if_pos ⟨rfl, rfl⟩]
  · rw [h7, mu, if_neg (by omega), h6, mu, if_pos ⟨rfl, rfl⟩]
  · rw [h7, mu, if_pos ⟨rfl, rfl⟩]
  · intro a j z
    unfold csc at z
    rw [E a j (by omega) (by omega) (by omega) (by omega) (by omega), s8 a j (by omega) (by omega) (by omega), E6 a j (by omega)]
theorem cpost_f {fk p : Nat} {x1 : Int32} {M M14 : Mm} {K : Int32 → Mm → Prop} (h7 : M14 132 7 = nI fk) (h8 : M14 132 8 = nI p) (hF : ∀ a j, ¬ csc a j → M14 a j = M a j) (hK : ∀ M1, M1 0 10 = nI fk → M1 0 11 = nI p → M1 132 1 = 0 → (∀ a j, ¬ csc a j → M1 a j = M a j) → K (-1) M1) : ∀ M16 : Mm, M16 = m_up M14 0 10 (M14 132 7) → ∀ M17 : Mm, M17 = m_up M16 0 11 (M16 132 8) → T_X11_text_66 x1 (-1) M17 K := by
  intro M16 g16 M17 g17
  have w : M16 132 8 = nI p := by rw [g16, mu, if_neg (by omega)]; exact h8
  rw [h7] at g16
  rw [w] at g17
  rw [T_X11_text_66]
  intro M1 g1
  refine ⟨fun _ => hK M1 ?_ ?_ ?_ (fun a j z => ?_), fun z => absurd rfl z⟩
  · rw [g1, mu, if_neg (by omega), g17, mu, if_neg (by omega), g16, mu, if_pos ⟨rfl, rfl⟩]
  · rw [g1, mu, if_neg (by omega), g17, mu, if_pos ⟨rfl, rfl⟩]
  · rw [g1, mu, if_pos ⟨rfl, rfl⟩]
  · have z2 := z
    unfold csc at z2
    rw [g1, mu, if_neg (by omega), g17, mu, if_neg (by omega), g16, mu, if_neg (by omega)]
    exact hF a j z
theorem cpost_k {l : Nat} {x1 : Int32} {M14 : Mm} {K : Int32 → Mm → Prop} (hl : l ≤ 16) (h7 : M14 132 7 = 0) (h8 : M14 132 8 = -1) (hK : ∀ M1, M1 0 10 = 0 → M1 0 11 = -1 → M1 132 1 = 0 → (∀ a j, ¬ (a = 0 ∧ (j = 10 ∨ j = 11)) → ¬ (a = 132 ∧ j = 1) → M1 a j = M14 a j) → T_X11_takeText x1 M1 (fun M4 => K (nI l) M4)) : ∀ M16 : Mm, M16 = m_up M14 0 10 (M14 132 7) → ∀ M17 : Mm, M17 = m_up M16 0 11 (M16 132 8) → T_X11_text_66 x1 (nI l) M17 K := by
  intro M16 g16 M17 g17
  have w : M16 132 8 = -1 := by rw [g16, mu, if_neg (by omega)]; exact h8
  rw [h7] at g16
  rw [w] at g17
  rw [T_X11_text_66]
  intro M1 g1
  refine ⟨fun z => absurd z (nI_m1 (by omega)), fun _ => hK M1 ?_ ?_ ?_ (fun a j z1 z2 => ?_)⟩
  · rw [g1, mu, if_neg (by omega), g17, mu, if_neg (by omega), g16, mu, if_pos ⟨rfl, rfl⟩]
  · rw [g1, mu, if_neg (by omega), g17, mu, if_pos ⟨rfl, rfl⟩]
  · rw [g1, mu, if_pos ⟨rfl, rfl⟩]
  · rw [g1, mu, if_neg (by omega), g17, mu, if_neg (by omega), g16, mu, if_neg (by omega)]
theorem cpx_at {M : Mm} {a0 a1 n j : Nat} (h : j < n) : cpr M a0 a1 n a1 j = M a0 j := if_pos ⟨rfl, h⟩
theorem cpx_ne {M : Mm} {a0 a1 n a j : Nat} (h : a ≠ a1) : cpr M a0 a1 n a j = M a j := if_neg (fun w => h w.1)
theorem tk_law {z : Nat} {M : Mm} {K : Mm → Prop} (hz : z ≤ 400) (h6 : M 137 6 = nI z) (hK : ∀ M', M' 16 6 = nI z → M' 16 7 = M 137 7 → (∀ j, j < z → M' 17 j = M 138 j) → (∀ j, j < 16 → M' 18 j = M 139 j ∧ M' 19 j = M 140 j ∧ M' 20 j = M 141 j) → (∀ a j, ¬ (16 ≤ a ∧ a ≤ 20) → M' a j = M a j) → K M') : T_X11_takeText 0 M K := by
  rw [T_X11_takeText]
  refine ⟨fun _ => ?_, fun y => absurd rfl y⟩
  rw [T_X2_copyFrom]
  intro M13 g13 M14 g14
  have E : ∀ a j, a ≠ 16 → M14 a j = M a j := fun a j y => by rw [g14, mu, if_neg (fun w => y w.1), g13, mu, if_neg (fun w => y w.1)]
  have w6 : M14 16 6 = nI z := by rw [g14, mu, if_neg (by omega), g13, mu, if_pos ⟨rfl, rfl⟩]; exact h6
  have w7 : M14 16 7 = M 137 7 := by rw [g14, mu, if_pos ⟨rfl, rfl⟩, g13, mu, if_neg (by omega)]
  have fin_v : ∀ M', (∀ j, j < z → M' 17 j = M 138 j) → (∀ a j, a ≠ 17 → M' a j = M14 a j) → T_X2_copyFrom_51 16 137 M' K := by
    intro M' c1 c2
    rw [T_X2_copyFrom_51, show rf 137 1 = 139 from by decide, show rf 137 2 = 140 from by decide, show rf 137 3 = 141 from by decide, show rf 16 1 = 18 from by decide, show rf 16 2 = 19 from by decide, show rf 16 3 = 20 from by decide]
    refine copyRow_ok (n := 16) (by decide) (by decide) (by omega) (by omega) (copyRow_ok (n := 16) (by decide) (by decide) (by omega) (by omega) (copyRow_ok (n := 16) (by decide) (by decide) (by omega) (by omega) (hK _ ?_ ?_ (fun j hj => ?_) (fun j hj => ⟨?_, ?_, ?_⟩) (fun a j y => ?_))))
    · rw [cpx_ne (by omega), cpx_ne (by omega), cpx_ne (by omega), c2 16 6 (by omega)]; exact w6
    · rw [cpx_ne (by omega), cpx_ne (by omega), cpx_ne (by omega), c2 16 7 (by omega)]; exact w7
    · rw [cpx_ne (by omega), cpx_ne (by omega), cpx_ne (by omega)]; exact c1 j hj
    · rw [cpx_ne (by omega), cpx_ne (by omega), cpx_at hj, c2 139 j (by omega), E 139 j (by omega)]
    · rw [cpx_ne (by omega), cpx_at hj, cpx_ne (by omega), c2 140 j (by omega), E 140 j (by omega)]
    · rw [cpx_at hj, cpx_ne (by omega), cpx_ne (by omega), c2 141 j (by omega), E 141 j (by omega)]
    · rw [cpx_ne (by omega), cpx_ne (by omega), cpx_ne (by omega), c2 a j (by omega), E a j (by omega)]
  have L : ∀ m i f M', i + m = z → m < f → (∀ j, j < i → M' 17 j = M 138 j) → (∀ a j, a ≠ 17 → M' a j = M14 a j) → T_X2_copyFrom_18 16 137 f (nI i) M' K := by
    intro m
    induction m with
    | zero =>
      intro i f M' hi hf c1 c2
      obtain ⟨f, rfl⟩ : ∃ g, f = g + 1 := ⟨f - 1, by omega⟩
      have e : i = z := by omega
      subst e
      rw [T_X2_copyFrom_18, c2 16 6 (by omega), w6]
      exact pk_le i i (fun _ => fin_v M' c1 c2) (fun y => absurd y (by omega))
    | succ m ih =>
      intro i f M' hi hf c1 c2
      obtain ⟨f, rfl⟩ : ∃ g, f = g + 1 := ⟨f - 1, by omega⟩
      have v : vp_in (nI i) 400 := vp_in_nI (by omega) (by decide)
      rw [T_X2_copyFrom_18, c2 16 6 (by omega), w6, nI_clamp (n := i) (by omega), show rf 137 0 = 138 from by decide, show rf 16 0 = 17 from by decide, c2 138 i (by omega), E 138 i (by omega)]
      refine pk_le z i (fun y => absurd y (by omega)) (fun _ => pk_le 400 i (fun y => absurd y (by omega)) (fun _ => ⟨v, v, fun M10 g10 y12 g12 => ?_⟩))
      rw [g12, nI_1]
      refine ih (i + 1) f M10 (by omega) (by omega) (fun j hj => ?_) (fun a j y => by rw [g10, mu, if_neg (fun w => y w.1)]; exact c2 a j y)
      rw [g10, mu]
      by_cases c : j = i
      · rw [if_pos ⟨rfl, c⟩, c]
      · rw [if_neg (fun w => c w.2)]; exact c1 j (by omega)
  exact L z 0 5000 M14 (by omega) (by omega) (fun j hj => absurd hj (by omega)) (fun _ _ _ => rfl)
theorem tk_fol {M : Mm} {K : Mm → Prop} (hK : ∀ M', (∀ j, j < 8 → M' 24 j = M 145 j) → M' 23 6 = M 144 6 → M' 79 1 = 0 → M' 79 2 = 0 → (∀ a j, a ≠ 24 → ¬ (a = 23 ∧ j = 6) → ¬ (a = 79 ∧ (j = 1 ∨ j = 2)) → M' a j = M a j) → K M') : T_X11_takeText 1 M K := by
  rw [T_X11_takeText]
  refine ⟨fun y => absurd y (by decide), fun _ => ⟨fun _ => ?_, fun y => absurd rfl y⟩⟩
  rw [T_X5_copyFollows, show rf 144 0 = 145 from by decide, show rf 23 0 = 24 from by decide]
  refine copyRow_ok (n := 8) (by decide) (by decide) (by omega) (by omega) (fun M3 g3 => ?_)
  rw [T_X4_forget]
  intro N1 h1 N2 h2
  refine hK N2 (fun j hj => ?_) ?_ ?_ ?_ (fun a j z1 z2 z3 => ?_)
  · rw [h2, mu, if_neg (by omega), h1, mu, if_neg (by omega), g3, mu, if_neg (by omega), cpx_at hj]
  · rw [h2, mu, if_neg (by omega), h1, mu, if_neg (by omega), g3, mu, if_pos ⟨rfl, rfl⟩, cpx_ne (by omega)]
  · rw [h2, mu, if_neg (by omega), h1, mu, if_pos ⟨rfl, rfl⟩]
  · rw [h2, mu, if_pos ⟨rfl, rfl⟩]
  · rw [h2, mu, if_neg (by omega), h1, mu, if_neg (by omega), g3, mu, if_neg z2, cpx_ne z1]
theorem tk_wee {M : Mm} {K : Mm → Prop} (hK : ∀ M', (∀ j, j < 16 → M' 26 j = M 147 j ∧ M' 27 j = M 148 j ∧ M' 28 j = M 149 j ∧ M' 29 j = M 150 j) → M' 23 8 = M 144 8 → M' 79 1 = 0 → M' 79 2 = 0 → (∀ a j, ¬ (26 ≤ a ∧ a ≤ 29) → ¬ (a = 23 ∧ j = 8) → ¬ (a = 79 ∧ (j = 1 ∨ j = 2)) → M' a j = M a j) → K M') : T_X11_takeText 2 M K := by
  rw [T_X11_takeText]
  refine ⟨fun y => absurd y (by decide), fun _ => ⟨fun y => absurd y (by decide), fun _ => ⟨fun _ => ?_, fun y => absurd rfl y⟩⟩⟩
  rw [T_X5_copyWeek, show rf 144 2 = 147 from by decide, show rf 144 3 = 148 from by decide, show rf 144 4 = 149 from by decide, show rf 144 5 = 150 from by decide, show rf 23 2 = 26 from by decide, show rf 23 3 = 27 from by decide, show rf 23 4 = 28 from by decide, show rf 23 5 = 29 from by decide]
  refine copyRow_ok (n := 16) (by decide) (by decide) (by omega) (by omega) (copyRow_ok (n := 16) (by decide) (by decide) (by omega) (by omega) (copyRow_ok (n := 16) (by decide) (by decide) (by omega) (by omega) (copyRow_ok (n := 16) (by decide) (by decide) (by omega) (by omega) (fun M3 g3 => ?_))))
  rw [T_X4_forget]
  intro N1 h1 N2 h2
  have E : ∀ a j, ¬ (a = 23 ∧ j = 8) → ¬ (a = 79 ∧ (j = 1 ∨ j = 2)) → N2 a j = cpr (cpr (cpr (cpr M 147 26 16) 148 27 16) 149 28 16) 150 29 16 a j := fun a j z2 z3 => by rw [h2, mu, if_neg (by omega), h1, mu, if_neg (by omega), g3, mu, if_neg z2]
  refine hK N2 (fun j hj => ⟨?_, ?_, ?_, ?_⟩) ?_ ?_ ?_ (fun a j z1 z2 z3 => ?_)
  · rw [E 26 j (by omega) (by omega), cpx_ne (by omega), cpx_ne (by omega), cpx_ne (by omega), cpx_at hj]
  · rw [E 27 j (by omega) (by omega), cpx_ne (by omega), cpx_ne (by omega), cpx_at hj, cpx_ne (by omega)]
  · rw [E 28 j (by omega) (by omega), cpx_ne (by omega), cpx_at hj, cpx_ne (by omega), cpx_ne (by omega)]
  · rw [E 29 j (by omega) (by omega), cpx_at hj, cpx_ne (by omega), cpx_ne (by omega), cpx_ne (by omega)]
  · rw [h2, mu, if_neg (by omega), h1, mu, if_neg (by omega), g3, mu, if_pos ⟨rfl, rfl⟩, cpx_ne (by omega), cpx_ne (by omega), cpx_ne (by omega), cpx_ne (by omega)]
  · rw [h2, mu, if_neg (by omega), h1, mu, if_pos ⟨rfl, rfl⟩]
  · rw [h2, mu, if_pos ⟨rfl, rfl⟩]
  · rw [E a j z2 z3, cpx_ne (by omega), cpx_ne (by omega), cpx_ne (by omega), cpx_ne (by omega)]
theorem tk_wan {M : Mm} {K : Mm → Prop} (hK : ∀ M', (∀ j, j < 64 → M' 25 j = M 146 j) → M' 23 7 = M 144 7 → (∀ a j, a ≠ 25 → ¬ (a = 23 ∧ j = 7) → M' a j = M a j) → K M') : T_X11_takeText 3 M K := by
  rw [T_X11_takeText]
  refine ⟨fun y => absurd y (by decide), fun _ => ⟨fun y => absurd y (by decide), fun _ => ⟨fun y => absurd y (by decide), fun _ => ?_⟩⟩⟩
  rw [T_X5_copyWants, show rf 144 1 = 146 from by decide, show rf 23 1 = 25 from by decide]
  refine copyRow_ok (n := 64) (by decide) (by decide) (by omega) (by omega) (fun M3 g3 => hK M3 (fun j hj => ?_) ?_ (fun a j z1 z2 => ?_))
  · rw [g3, mu, if_neg (by omega), cpx_at hj]
  · rw [g3, mu, if_pos ⟨rfl, rfl⟩, cpx_ne (by omega)]
  · rw [g3, mu, if_neg z2, cpx_ne z1]
