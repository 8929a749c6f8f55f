theorem dsW.b {d s : Nat} (h : dsW d s) : (d = 1 ∨ d = 40) ∧ (s = 1 ∨ s = 40) ∧ d + 38 < 159 ∧ s + 38 < 159 := by
  unfold dsW at h
  omega
theorem jn_st {A Z : Mm} {d s : Nat} (t0 j0 : Nat) (hd : dsW d s) (ht : t0 ≤ 38) : m_up (jn A Z) (d + t0) j0 (jn A Z (s + t0) j0) = jn (m_up A (d + t0) j0 (A (s + t0) j0)) Z := by
  obtain ⟨-, -, h1, h2⟩ := hd.b
  rw [jl j0 (by omega), jn_upl (by omega)]
theorem cast_cp {X X' Z : Mm} {d s : Nat} {dn : Nat → Nat → Prop} {K : Mm → Prop} (hd : dsW d s) (h : PR X X' d s dn) (hK : ∀ X'', PR X X'' d s (fun t j => dn t j ∨ (wpl t j ∧ t ≤ 6)) → K (jn X'' Z)) : T_X1_copyFrom (d + 1) (s + 1) (jn X' Z) K := by
  have hb := hd.b
  rw [T_X1_copyFrom, (rf_W hb.1).2.1.1, (rf_W hb.1).2.1.2.1, (rf_W hb.1).2.1.2.2.1, (rf_W hb.1).2.1.2.2.2.1, (rf_W hb.1).2.1.2.2.2.2, (rf_W hb.2.1).2.1.1, (rf_W hb.2.1).2.1.2.1, (rf_W hb.2.1).2.1.2.2.1, (rf_W hb.2.1).2.1.2.2.2.1, (rf_W hb.2.1).2.1.2.2.2.2]
  intro M1 g1 M2 g2
  rw [jn_st 1 0 hd (by decide)] at g1
  rw [g1, jn_st 1 1 hd (by decide)] at g2
  rw [g2]
  refine pr_row 2 hd (by decide) (by decide) (ln_W hb.2.1).1.1 (ln_W hb.1).1.1 (by decide) (pr_up 1 1 hd (by decide) (by decide) (pr_up 1 0 hd (by decide) (by decide) h)) (fun X1 p1 => pr_row 3 hd (by decide) (by decide) (ln_W hb.2.1).1.2.1 (ln_W hb.1).1.2.1 (by decide) p1 (fun X2 p2 => pr_row 4 hd (by decide) (by decide) (ln_W hb.2.1).1.2.2.1 (ln_W hb.1).1.2.2.1 (by decide) p2 (fun X3 p3 => pr_row 5 hd (by decide) (by decide) (ln_W hb.2.1).1.2.2.2.1 (ln_W hb.1).1.2.2.2.1 (by decide) p3 (fun X4 p4 => pr_row 6 hd (by decide) (by decide) (ln_W hb.2.1).1.2.2.2.2.1 (ln_W hb.1).1.2.2.2.2.1 (by decide) p4 (fun X5 p5 => hK _ (p5.mono (fun t j h => ?_)))))))
  rcases h with z0 | h1
  · exact Or.inl (Or.inl (Or.inl (Or.inl (Or.inl (Or.inl (Or.inl (z0)))))))
  · rcases wpl_6 h1.1 h1.2 with z | z | z | z | z | z | z
    · exact Or.inl (Or.inl (Or.inl (Or.inl (Or.inl (Or.inl (Or.inr z))))))
    · exact Or.inl (Or.inl (Or.inl (Or.inl (Or.inl (Or.inr z)))))
    · exact Or.inl (Or.inl (Or.inl (Or.inl (Or.inr z))))
    · exact Or.inl (Or.inl (Or.inl (Or.inr z)))
    · exact Or.inl (Or.inl (Or.inr z))
    · exact Or.inl (Or.inr z)
    · exact Or.inr z
theorem law_lp {X Z : Mm} {d s nz : Nat} {dn : Nat → Nat → Prop} {K : Mm → Prop} (hd : dsW d s) (hz : nz ≤ 400) (ez : X (s + 15) 6 = nI nz) (h6 : dn 15 6) (hE : ∀ Xe, PR X Xe d s (fun t i => dn t i ∨ (t = 16 ∧ i < nz)) → T_X2_copyFrom_51 (d + 15) (s + 15) (jn Xe Z) K) : ∀ m j f Xi, j + m = nz → m < f → PR X Xi d s (fun t i => dn t i ∨ (t = 16 ∧ i < j)) → T_X2_copyFrom_18 (d + 15) (s + 15) f (nI j) (jn Xi Z) K := by
  have hb := hd.b
  obtain ⟨-, -, b1, b2⟩ := hd.b
  intro m
  induction m with
  | zero =>
    intro j f Xi hjm hf hp
    obtain ⟨f, rfl⟩ : ∃ g, f = g + 1 := ⟨f - 1, by omega⟩
    have e : j = nz := by omega
    subst e
    have z6 : jn Xi Z (d + 15) 6 = nI j := by rw [jl _ (by omega), hp.2 15 6 (by omega) (by omega) (Or.inl h6)]; exact ez
    rw [T_X2_copyFrom_18, z6]
    exact pk_le j j (fun _ => hE Xi hp) (fun z => absurd z (by omega))
  | succ m ih =>
    intro j f Xi hjm hf hp
    obtain ⟨f, rfl⟩ : ∃ g, f = g + 1 := ⟨f - 1, by omega⟩
    have z6 : jn Xi Z (d + 15) 6 = nI nz := by rw [jl _ (by omega), hp.2 15 6 (by omega) (by omega) (Or.inl h6)]; exact ez
    have vj : vp_in (nI j) 400 := vp_in_nI (by omega) (by decide)
    rw [T_X2_copyFrom_18, z6, (rf_W hb.1).2.2.1.1, (rf_W hb.2.1).2.2.1.1, nI_clamp (n := j) (by omega)]
    refine pk_le nz j (fun z => absurd z (by omega)) (fun _ => pk_le 400 j (fun z => absurd z (by omega)) (fun _ => ⟨vj, vj, fun M10 g10 y12 g12 => ?_⟩))
    rw [g10, g12, nI_1, jl _ (by omega), jn_upl (by omega)]
    refine ih (j + 1) f _ (by omega) (by omega) ((pr_up 16 j hd (by omega) (by omega) hp).mono (fun t i h => ?_))
    rcases h with z | z
    · exact Or.inl (Or.inl z)
    · by_cases c : i = j
      · exact Or.inr ⟨z.1, c⟩
      · exact Or.inl (Or.inr ⟨z.1, by omega⟩)
theorem law_cp {nz : Nat} {X X' Z : Mm} {d s : Nat} {dn : Nat → Nat → Prop} {K : Mm → Prop} (hd : dsW d s) (h : PR X X' d s dn) (hz : nz ≤ 400) (ez : X (s + 15) 6 = nI nz) (hK : ∀ X'', PR X X'' d s (fun t j => dn t j ∨ ((wpl t j ∧ ¬ t ≤ 14 ∧ t ≤ 19) ∨ (t = 16 ∧ j < nz))) → K (jn X'' Z)) : T_X2_copyFrom (d + 15) (s + 15) (jn X' Z) K := by
  have hb := hd.b
  rw [T_X2_copyFrom]
  intro M13 g13 M14 g14
  rw [jn_st 15 6 hd (by decide)] at g13
  rw [g13, jn_st 15 7 hd (by decide)] at g14
  rw [g14]
  refine law_lp (dn := fun t j => (dn t j ∨ (t = 15 ∧ j = 6)) ∨ (t = 15 ∧ j = 7)) hd hz ez (Or.inl (Or.inr ⟨rfl, rfl⟩)) (fun Xe pe => ?_) nz 0 5000 _ (by omega) (by omega) ((pr_up 15 7 hd (by decide) (by decide) (pr_up 15 6 hd (by decide) (by decide) h)).mono (fun t i h => ?_))
  · rw [T_X2_copyFrom_51, (rf_W hb.1).2.2.1.2.1, (rf_W hb.1).2.2.1.2.2.1, (rf_W hb.1).2.2.1.2.2.2, (rf_W hb.2.1).2.2.1.2.1, (rf_W hb.2.1).2.2.1.2.2.1, (rf_W hb.2.1).2.2.1.2.2.2]
    refine pr_row 17 hd (by decide) (by decide) (ln_W hb.2.1).1.2.2.2.2.2.2.1 (ln_W hb.1).1.2.2.2.2.2.2.1 (by decide) pe (fun X1 p1 => pr_row 18 hd (by decide) (by decide) (ln_W hb.2.1).1.2.2.2.2.2.2.2.1 (ln_W hb.1).1.2.2.2.2.2.2.2.1 (by decide) p1 (fun X2 p2 => pr_row 19 hd (by decide) (by decide) (ln_W hb.2.1).1.2.2.2.2.2.2.2.2 (ln_W hb.1).1.2.2.2.2.2.2.2.2 (by decide) p2 (fun X3 p3 => hK _ (p3.mono (fun t j h => ?_)))))
    rcases h with z0 | h1 | z
    · exact Or.inl (Or.inl (Or.inl (Or.inl (Or.inl (Or.inl z0)))))
    · rcases wpl_19 h1.1 h1.2.1 h1.2.2 with z | z | z | z | z
      · exact Or.inl (Or.inl (Or.inl (Or.inl (Or.inl (Or.inr z)))))
      · exact Or.inl (Or.inl (Or.inl (Or.inl (Or.inr z))))
      · exact Or.inl (Or.inl (Or.inr z))
      · exact Or.inl (Or.inr z)
      · exact Or.inr z
    · exact Or.inl (Or.inl (Or.inl (Or.inr z)))
  · rcases h with z | z
    · exact z
    · exact absurd z.2 (by omega)
theorem plans_cp {X X' Z : Mm} {d s : Nat} {dn : Nat → Nat → Prop} {K : Mm → Prop} (hd : dsW d s) (h : PR X X' d s dn) (hK : ∀ X'', PR X X'' d s (fun t j => dn t j ∨ (wpl t j ∧ ¬ t ≤ 19 ∧ t ≤ 28)) → K (jn X'' Z)) : T_X5_copyFollows (d + 22) (s + 22) (jn X' Z) (fun M1 => T_X5_copyWeek (d + 22) (s + 22) M1 (fun M2 => T_X5_copyWants (d + 22) (s + 22) M2 K)) := by
  have hb := hd.b
  rw [T_X5_copyFollows, (rf_W hb.1).2.2.2.1.1, (rf_W hb.2.1).2.2.2.1.1]
  refine pr_row 23 hd (by decide) (by decide) (ln_W hb.2.1).2.1.1 (ln_W hb.1).2.1.1 (by decide) h (fun X1 p1 => ?_)
  intro M3 g3
  rw [jn_st 22 6 hd (by decide)] at g3
  rw [g3, T_X5_copyWeek, (rf_W hb.1).2.2.2.1.2.2.1, (rf_W hb.1).2.2.2.1.2.2.2.1, (rf_W hb.1).2.2.2.1.2.2.2.2.1, (rf_W hb.1).2.2.2.1.2.2.2.2.2, (rf_W hb.2.1).2.2.2.1.2.2.1, (rf_W hb.2.1).2.2.2.1.2.2.2.1, (rf_W hb.2.1).2.2.2.1.2.2.2.2.1, (rf_W hb.2.1).2.2.2.1.2.2.2.2.2]
  refine pr_row 25 hd (by decide) (by decide) (ln_W hb.2.1).2.1.2.2.1 (ln_W hb.1).2.1.2.2.1 (by decide) (pr_up 22 6 hd (by decide) (by decide) p1) (fun X1 p1 => pr_row 26 hd (by decide) (by decide) (ln_W hb.2.1).2.1.2.2.2.1 (ln_W hb.1).2.1.2.2.2.1 (by decide) p1 (fun X2 p2 => pr_row 27 hd (by decide) (by decide) (ln_W hb.2.1).2.1.2.2.2.2.1 (ln_W hb.1).2.1.2.2.2.2.1 (by decide) p2 (fun X3 p3 => pr_row 28 hd (by decide) (by decide) (ln_W hb.2.1).2.1.2.2.2.2.2 (ln_W hb.1).2.1.2.2.2.2.2 (by decide) p3 (fun XX4 pp4 => ?_))))
  intro M9 g9
  rw [jn_st 22 8 hd (by decide)] at g9
  rw [g9, T_X5_copyWants, (rf_W hb.1).2.2.2.1.2.1, (rf_W hb.2.1).2.2.2.1.2.1]
  refine pr_row 24 hd (by decide) (by decide) (ln_W hb.2.1).2.1.2.1 (ln_W hb.1).2.1.2.1 (by decide) (pr_up 22 8 hd (by decide) (by decide) pp4) (fun X5 p5 => ?_)
  intro M4 g4
  rw [jn_st 22 7 hd (by decide)] at g4
  rw [g4]
  refine hK _ ((pr_up 22 7 hd (by decide) (by decide) p5).mono (fun t j h => ?_))
  rcases h with z0 | h1
  · exact Or.inl (Or.inl (Or.inl (Or.inl (Or.inl (Or.inl (Or.inl (Or.inl (Or.inl (z0)))))))))
  · rcases wpl_28 h1.1 h1.2.1 h1.2.2 with z | z | z | z | z | z | z | z | z
    · exact Or.inl (Or.inl (Or.inl (Or.inl (Or.inl (Or.inl (Or.inl (Or.inl (Or.inr z))))))))
    · exact Or.inl (Or.inl (Or.inl (Or.inl (Or.inl (Or.inl (Or.inl (Or.inr z)))))))
    · exact Or.inl (Or.inl (Or.inl (Or.inl (Or.inl (Or.inl (Or.inr z))))))
    · exact Or.inl (Or.inl (Or.inl (Or.inl (Or.inl (Or.inr z)))))
    · exact Or.inl (Or.inl (Or.inl (Or.inl (Or.inr z))))
    · exact Or.inl (Or.inl (Or.inl (Or.inr z)))
    · exact Or.inl (Or.inl (Or.inr z))
    · exact Or.inl (Or.inr z)
    · exact Or.inr z
theorem told_cp {X X' Z : Mm} {d s : Nat} {dn : Nat → Nat → Prop} {K : Mm → Prop} (hd : dsW d s) (h : PR X X' d s dn) (hK : ∀ X'', PR X X'' d s (fun t j => dn t j ∨ (wpl t j ∧ ¬ t ≤ 28)) → K (jn X'' Z)) : T_X9_copyFrom (d + 29) (s + 29) (jn X' Z) K := by
  have hb := hd.b
  rw [T_X9_copyFrom, (rf_W hb.1).2.2.2.2.1, (rf_W hb.1).2.2.2.2.2.1, (rf_W hb.1).2.2.2.2.2.2.1, (rf_W hb.1).2.2.2.2.2.2.2.1, (rf_W hb.1).2.2.2.2.2.2.2.2.1, (rf_W hb.1).2.2.2.2.2.2.2.2.2.1, (rf_W hb.1).2.2.2.2.2.2.2.2.2.2.1, (rf_W hb.1).2.2.2.2.2.2.2.2.2.2.2.1, (rf_W hb.1).2.2.2.2.2.2.2.2.2.2.2.2, (rf_W hb.2.1).2.2.2.2.1, (rf_W hb.2.1).2.2.2.2.2.1, (rf_W hb.2.1).2.2.2.2.2.2.1, (rf_W hb.2.1).2.2.2.2.2.2.2.1, (rf_W hb.2.1).2.2.2.2.2.2.2.2.1, (rf_W hb.2.1).2.2.2.2.2.2.2.2.2.1, (rf_W hb.2.1).2.2.2.2.2.2.2.2.2.2.1, (rf_W hb.2.1).2.2.2.2.2.2.2.2.2.2.2.1, (rf_W hb.2.1).2.2.2.2.2.2.2.2.2.2.2.2]
  refine pr_row 30 hd (by decide) (by decide) (ln_W hb.2.1).2.2.1 (ln_W hb.1).2.2.1 (by decide) h (fun X1 p1 => pr_row 31 hd (by decide) (by decide) (ln_W hb.2.1).2.2.2.1 (ln_W hb.1).2.2.2.1 (by decide) p1 (fun X2 p2 => pr_row 32 hd (by decide) (by decide) (ln_W hb.2.1).2.2.2.2.1 (ln_W hb.1).2.2.2.2.1 (by decide) p2 (fun X3 p3 => pr_row 33 hd (by decide) (by decide) (ln_W hb.2.1).2.2.2.2.2.1 (ln_W hb.1).2.2.2.2.2.1 (by decide) p3 (fun X4 p4 => pr_row 34 hd (by decide) (by decide) (ln_W hb.2.1).2.2.2.2.2.2.1 (ln_W hb.1).2.2.2.2.2.2.1 (by decide) p4 (fun X5 p5 => pr_row 35 hd (by decide) (by decide) (ln_W hb.2.1).2.2.2.2.2.2.2.1 (ln_W hb.1).2.2.2.2.2.2.2.1 (by decide) p5 (fun X6 p6 => pr_row 36 hd (by decide) (by decide) (ln_W hb.2.1).2.2.2.2.2.2.2.2.1 (ln_W hb.1).2.2.2.2.2.2.2.2.1 (by decide) p6 (fun X7 p7 => pr_row 37 hd (by decide) (by decide) (ln_W hb.2.1).2.2.2.2.2.2.2.2.2.1 (ln_W hb.1).2.2.2.2.2.2.2.2.2.1 (by decide) p7 (fun X8 p8 => pr_row 38 hd (by decide) (by decide) (ln_W hb.2.1).2.2.2.2.2.2.2.2.2.2 (ln_W hb.1).2.2.2.2.2.2.2.2.2.2 (by decide) p8 (fun X9 p9 => ?_)))))))))
  intro M19 g19 M20 g20 M21 g21 M22 g22 M23 g23
  rw [jn_st 29 9 hd (by decide)] at g19
  rw [g19, jn_st 29 10 hd (by decide)] at g20
  rw [g20, jn_st 29 11 hd (by decide)] at g21
  rw [g21, jn_st 29 12 hd (by decide)] at g22
  rw [g22, jn_st 29 13 hd (by decide)] at g23
  rw [g23]
  refine hK _ ((pr_up 29 13 hd (by decide) (by decide) (pr_up 29 12 hd (by decide) (by decide) (pr_up 29 11 hd (by decide) (by decide) (pr_up 29 10 hd (by decide) (by decide) (pr_up 29 9 hd (by decide) (by decide) p9))))).mono (fun t j h => ?_))
  rcases h with z0 | h1
  · exact Or.inl (Or.inl (Or.inl (Or.inl (Or.inl (Or.inl (Or.inl (Or.inl (Or.inl (Or.inl (Or.inl (Or.inl (Or.inl (Or.inl (z0))))))))))))))
  · rcases wpl_38 h1.1 h1.2 with z | z | z | z | z | z | z | z | z | z | z | z | z | z
    · exact Or.inl (Or.inl (Or.inl (Or.inl (Or.inl (Or.inl (Or.inl (Or.inl (Or.inl (Or.inl (Or.inl (Or.inl (Or.inl (Or.inr z)))))))))))))
    · exact Or.inl (Or.inl (Or.inl (Or.inl (Or.inl (Or.inl (Or.inl (Or.inl (Or.inl (Or.inl (Or.inl (Or.inl (Or.inr z))))))))))))
    · exact Or.inl (Or.inl (Or.inl (Or.inl (Or.inl (Or.inl (Or.inl (Or.inl (Or.inl (Or.inl (Or.inl (Or.inr z)))))))))))
    · exact Or.inl (Or.inl (Or.inl (Or.inl (Or.inl (Or.inl (Or.inl (Or.inl (Or.inl (Or.inl (Or.inr z))))))))))
    · exact Or.inl (Or.inl (Or.inl (Or.inl (Or.inl (Or.inl (Or.inl (Or.inl (Or.inl (Or.inr z)))))))))
    · exact Or.inl (Or.inl (Or.inl (Or.inl (Or.inl (Or.inl (Or.inl (Or.inl (Or.inr z))))))))
    · exact Or.inl (Or.inl (Or.inl (Or.inl (Or.inl (Or.inl (Or.inl (Or.inr z)))))))
    · exact Or.inl (Or.inl (Or.inl (Or.inl (Or.inl (Or.inl (Or.inr z))))))
    · exact Or.inl (Or.inl (Or.inl (Or.inl (Or.inl (Or.inr z)))))
    · exact Or.inl (Or.inl (Or.inl (Or.inl (Or.inr z))))
    · exact Or.inl (Or.inl (Or.inl (Or.inr z)))
    · exact Or.inl (Or.inl (Or.inr z))
    · exact Or.inl (Or.inr z)
    · exact Or.inr z
theorem quay_cp {X X' Z : Mm} {d s : Nat} {dn : Nat → Nat → Prop} {K : Mm → Prop} (hd : dsW d s) (h : PR X X' d s dn) (hdn : ∀ t j, dn t j → t ≤ 6) (hK : ∀ X'', PR X X'' d s (fun t j => dn t j ∨ (wpl t j ∧ ¬ t ≤ 6 ∧ t ≤ 13)) → K (jn X'' Z)) : T_X6_copyFrom (d + 7) (s + 7) (jn X' Z) K := by
  have hd' := hd
  unfold dsW at hd'
  obtain ⟨X6, k1, k2⟩ := copyQ_ok (X := X') (d_v := d + 7) (s_v := s + 7) (by unfold isQ; omega) (by unfold isQ; omega) (by omega)
  refine k1 Z _ ?_
  refine hK _ ⟨fun a ha => by rw [k2.1 a (by omega)]; exact h.1 a ha, fun t j h1 h2 h3 => ?_⟩
  rcases h3 with z | ⟨z1, z2, z3⟩
  · rw [k2.1 _ (by have := hdn t j z; omega)]
    exact h.2 t j h1 h2 z
  · by_cases c7 : t = 7
    · subst c7
      rw [k2.2.1 j (by have := wpl_13 z1 z2 z3; omega) (by have := wpl_13 z1 z2 z3; omega), h.1 _ (by omega)]
    · have := k2.2.2 (t - 7) j (by omega) (by omega) (by
        have := wpl_13 z1 z2 z3
        unfold qln
        split
        · omega
        · split <;> omega)
      rw [show d + 7 + (t - 7) = d + t by omega, show s + 7 + (t - 7) = s + t by omega] at this
      rw [this, h.1 _ (by omega)]
/-- a whole_v is copied_v -/
theorem whole_cp {X Z : Mm} {d s nz : Nat} {K : Mm → Prop} (hd : dsW d s) (hz : nz ≤ 400) (ez : X (s + 15) 6 = nI nz) (hK : ∀ X', PR X X' d s (fun t j => wpl t j ∨ (t = 16 ∧ j < nz)) → K (jn X' Z)) : T_X10_copyFrom d s (jn X Z) K := by
  have hb := hd.b
  rw [T_X10_copyFrom, (rf_W hb.1).1.1, (rf_W hb.1).1.2.1, (rf_W hb.1).1.2.2.1, (rf_W hb.1).1.2.2.2.1, (rf_W hb.1).1.2.2.2.2.1, (rf_W hb.1).1.2.2.2.2.2, (rf_W hb.2.1).1.1, (rf_W hb.2.1).1.2.1, (rf_W hb.2.1).1.2.2.1, (rf_W hb.2.1).1.2.2.2.1, (rf_W hb.2.1).1.2.2.2.2.1, (rf_W hb.2.1).1.2.2.2.2.2]
  have p0 : PR X X d s (fun _ _ => False) := ⟨fun _ _ => rfl, fun t j _ _ z => z.elim⟩
  refine cast_cp hd p0 (fun X1 p1 => quay_cp hd p1 (fun t j z => z.elim False.elim (fun z => z.2)) (fun X2 p2 => ?_))
  refine pr_row 14 hd (by decide) (by decide) (ln_W hb.2.1).1.2.2.2.2.2.1 (ln_W hb.1).1.2.2.2.2.2.1 (by decide) p2 (fun X3 p3 => ?_)
  refine law_cp hd p3 hz ez (fun X4 p4 => plans_cp hd p4 (fun X5 p5 => told_cp hd p5 (fun X6 p6 => hK _ (p6.mono (fun t j h => ?_)))))
  rcases h with z | z
  · by_cases c1 : t ≤ 6
    · exact Or.inl (Or.inl (Or.inl (Or.inl (Or.inl (Or.inr ⟨z, c1⟩)))))
    · by_cases c2 : t ≤ 13
      · exact Or.inl (Or.inl (Or.inl (Or.inl (Or.inr ⟨z, c1, c2⟩))))
      · by_cases c3 : t = 14
        · subst c3
          exact Or.inl (Or.inl (Or.inl (Or.inr ⟨rfl, wpl_14 z⟩)))
        · by_cases c4 : t ≤ 19
          · exact Or.inl (Or.inl (Or.inr (Or.inl ⟨z, by omega, c4⟩)))
          · by_cases c5 : t ≤ 28
            · exact Or.inl (Or.inr ⟨z, c4, c5⟩)
            · exact Or.inr ⟨z, c5⟩
  · exact Or.inl (Or.inl (Or.inr (Or.inr z)))
