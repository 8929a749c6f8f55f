/-- row 160 from a on: n places are 0 -/
def z8 (M : Mm) (a n : Nat) : Mm := fun r => if r = 160 then (fun j => if a ≤ j ∧ j < a + n then 0 else M 160 j) else M r
theorem z8_0 (M : Mm) (a : Nat) : z8 M a 0 = M := by
  funext r j
  unfold z8
  by_cases hr : r = 160
  · subst hr
    rw [if_pos rfl, if_neg (by omega)]
  · rw [if_neg hr]
theorem z8_s (M : Mm) (a n : Nat) : m_up (z8 M a n) 160 (a + n) 0 = z8 M a (n + 1) := by
  funext r j
  rw [mu]
  unfold z8
  by_cases hr : r = 160
  · subst hr
    rw [if_pos rfl, if_pos rfl]
    by_cases hj : j = a + n
    · rw [if_pos ⟨rfl, hj⟩, if_pos (by omega)]
    · rw [if_neg (fun q => hj q.2)]
      by_cases h2 : a ≤ j ∧ j < a + n
      · rw [if_pos h2, if_pos (by omega)]
      · rw [if_neg h2, if_neg (by omega)]
  · rw [if_neg (fun q => hr q.1), if_neg hr, if_neg hr]
theorem z8_ne {M : Mm} {a n r : Nat} (h : r ≠ 160) : z8 M a n r = M r := by
  unfold z8
  rw [if_neg h]
theorem z8_at (M : Mm) (a n j : Nat) : z8 M a n 160 j = if a ≤ j ∧ j < a + n then 0 else M 160 j := by
  unfold z8
  rw [if_pos rfl]
theorem bidder68_lp {M : Mm} {x2 x3 : Int32} {n : Nat} {K : Int32 → Mm → Prop} (hn : n < 8) (en : M 159 7 = nI n) (hK : K (nI n) (m_up (m_up (m_up (m_up (z8 M (71 + 8 * n) 8) 166 n x2) 167 n (if x3 = 0 then 0 else 1)) 159 7 (nI (n + 1))) 159 3 0)) : ∀ f i, i ≤ 8 → 8 - i < f → T_X12_bidder_68 f x2 x3 (nI i) (z8 M (71 + 8 * n) i) K := by
  intro f
  induction f with
  | zero => intro i _ h; exact absurd h (Nat.not_lt_zero _)
  | succ f ih =>
    intro i hi hf
    have e1 : ∀ k, z8 M (71 + 8 * n) k 159 7 = nI n := fun k => by rw [z8_ne (by omega)]; exact en
    have e2 : (71 : Int32) + 8 * nI n + nI i = nI (71 + 8 * n + i) := by
      rw [show (8 : Int32) = nI 8 from rfl, show (71 : Int32) = nI 71 from rfl, pk_mul, nI_add, nI_add]
    have g3 : vp_in (nI n) 8 := vp_in_nI (by omega) (by decide)
    have g5 : (nI n).toNatClampNeg = n := nI_clamp (by omega)
    rw [T_X12_bidder_68, e1, e2, g5, nI_clamp (n := 71 + 8 * n + i) (by omega)]
    refine ⟨fun q => ⟨g3, fun M6 e6 => ?_⟩, fun q => ⟨vp_in_nI (by have := Nat.not_le.mp fun z => q (nI_le (a := 8) z (by omega)); omega) (by decide), fun M9 e9 y ey => ?_⟩⟩
    · have e : i = 8 := Nat.le_antisymm hi ((nI_leI (a := 8) (by omega) (by omega)).mp q)
      subst e
      have e7 : M6 159 7 = nI n := by rw [e6, mu, if_neg (by omega)]; exact e1 8
      have p1 := nI_pred n
      refine ⟨fun z => ?_, fun z => ?_⟩
      · simp only [T_X12_bidder_127, e7, g5, forall_eq]
        refine ⟨g3, ?_⟩
        simpa [mu, e7, nI_1, p1, e6, z, e1 8] using hK
      · simp only [T_X12_bidder_127, e7, g5, forall_eq]
        refine ⟨g3, ?_⟩
        simpa [mu, e7, nI_1, p1, e6, z, e1 8] using hK
    · have hlt : i < 8 := Nat.not_le.mp fun z => q (nI_le (a := 8) z (by omega))
      rw [ey, nI_1, e9, z8_s]
      exact ih (i + 1) (by omega) (by omega)
theorem mu_z8 (M : Mm) (a n : Nat) (r j : Nat) : z8 M a n r j = if r = 160 ∧ a ≤ j ∧ j < a + n then 0 else M r j := by
  by_cases hr : r = 160
  · subst hr
    rw [z8_at]
    by_cases h : a ≤ j ∧ j < a + n
    · rw [if_pos h, if_pos ⟨rfl, h⟩]
    · rw [if_neg h, if_neg (fun q => h q.2)]
  · rw [z8_ne hr, if_neg (fun q => hr q.1)]
set_option maxHeartbeats 4000000 in
theorem ag_bidder {N : Nat} {M : Mm} (h : Inv N M) (x y z : Int32) : Ag (T_X11_bidder x y z) (T_X12_bidder x y z) N M := by
  have hf := h.t0 (x := 0)
  obtain ⟨np, nb, hI, hU, hX⟩ := id h
  obtain ⟨hC, ⟨hQ, hW⟩, hB, -⟩ := id hI
  have en : M 2 1 = nI nb := hC.1.2.2.2.1
  have hn : nb ≤ 8 := hC.1.2.2.2.2.2
  have e2 : M 159 7 = nI nb := hC.1.2.1.trans en
  by_cases c1 : (0 : Int32) ≤ x ∧ x ≤ 9999
  rotate_left
  · exact ⟨-1, M, _, fun K q => by simpa [T_X11_bidder, iw_neg c1] using q, fun K q => by simpa [T_X12_bidder, ii_neg c1] using q, hf⟩
  by_cases c2 : (0 : Int32) ≤ y ∧ y ≤ 9
  rotate_left
  · exact ⟨-1, M, _, fun K q => by simpa [T_X11_bidder, iw_pos c1, iw_neg c2] using q, fun K q => by simpa [T_X12_bidder, ii_pos c1, ii_neg c2] using q, hf⟩
  by_cases cf : nb = 8
  · subst cf
    have g1 : (8 : Int32) ≤ nI 8 := by decide
    exact ⟨-1, M, _, fun K q => by simpa [T_X11_bidder, iw_pos c1, iw_pos c2, en, g1, Int32.not_lt.mpr g1] using q, fun K q => by simpa [T_X12_bidder, ii_pos c1, ii_pos c2, mu, show M 159 7 = 8 from e2] using q, hf⟩
  have g1 : nI nb < 8 := lt_nI hn (by decide) cf
  have g1' : ¬ (8 : Int32) ≤ nI nb := Int32.not_le.mpr g1
  have g2 : ¬ nI nb = 8 := ne_nI hn (by decide) cf
  have g3 : vp_in (nI nb) 8 := vp_in_nI (by omega) (by decide)
  have g5 : (nI nb).toNatClampNeg = nb := nI_clamp (by omega)
  have r5 : rf 2 5 = 6 := by decide
  have r6 : rf 2 6 = 7 := by decide
  obtain ⟨w1, w2⟩ := vp_nat (x := 55 + nI nb) (k := 55 + nb) (n := 135) (nI_add 55 nb) (by omega) (by decide)
  obtain ⟨w3, w4⟩ := vp_nat (x := 63 + nI nb) (k := 63 + nb) (n := 135) (nI_add 63 nb) (by omega) (by decide)
  have p1 := nI_pred nb
  obtain ⟨MA, eA⟩ : ∃ Z : Mm, Z = m_up (m_up (m_up (m_up (m_up (m_up M 79 1 0) 79 2 0) 12 nb x) 6 nb y) 7 nb (if z = 0 then 0 else 1)) 2 1 (nI (nb + 1)) := ⟨_, rfl⟩
  obtain ⟨MB, eB⟩ : ∃ Z : Mm, Z = m_up (m_up (m_up MA 159 0 0) 160 (55 + nb) x) 160 (63 + nb) 0 := ⟨_, rfl⟩
  have eB7 : MB 159 7 = nI nb := by rw [eB, eA]; simpa [mu] using e2
  refine ⟨nI nb, MA, m_up (m_up (m_up (m_up (z8 MB (71 + 8 * nb) 8) 166 nb y) 167 nb (if z = 0 then 0 else 1)) 159 7 (nI (nb + 1))) 159 3 0, fun K q => ?_, fun K q => ?_, ?_⟩
  · rw [eA] at q
    by_cases cz : z = 0
    · simpa [T_X11_bidder, T_X11_bidder_84, T_X4_forget, T_X1_addBidder, iw_pos c1, iw_pos c2, mu, en, g1, g1', g3, g5, r5, r6, nI_1, p1, cz] using q
    · simpa [T_X11_bidder, T_X11_bidder_84, T_X4_forget, T_X1_addBidder, iw_pos c1, iw_pos c2, mu, en, g1, g1', g3, g5, r5, r6, nI_1, p1, cz] using q
  · have := bidder68_lp (M := MB) (x2 := y) (x3 := z) (n := nb) (K := K) (by omega) eB7 q 5000 0 (by omega) (by omega)
    rw [z8_0] at this
    have e7 : MA 159 7 = nI nb := by rw [eA]; simpa [mu] using e2
    simp only [T_X12_bidder, forall_eq, ii_pos c1, ii_pos c2]
    refine ⟨fun z => absurd z (by decide), fun _ => ⟨fun z => absurd z (by decide), fun _ => ⟨fun z => absurd (by simpa [mu, e7] using z) g2, fun _ => ?_⟩⟩⟩
    have a1 : m_up MA 159 0 0 159 7 = nI nb := by rw [mu, if_neg (by omega)]; exact e7
    rw [a1]
    refine ⟨w1, ?_⟩
    have a2 : m_up (m_up MA 159 0 0) 160 (55 + nI nb).toNatClampNeg x 159 7 = nI nb := by rw [mu, if_neg (by omega)]; exact a1
    rw [a2]
    refine ⟨w3, ?_⟩
    rw [w2, w4, ← eB]
    exact this
  · have key : ∀ a j, m_up (m_up (m_up (m_up (z8 MB (71 + 8 * nb) 8) 166 nb y) 167 nb (if z = 0 then 0 else 1)) 159 7 (nI (nb + 1))) 159 3 0 a j = if a = 159 ∧ j = 3 then 0 else if a = 159 ∧ j = 7 then nI (nb + 1) else if a = 167 ∧ j = nb then (if z = 0 then 0 else 1) else if a = 166 ∧ j = nb then y else if a = 160 ∧ 71 + 8 * nb ≤ j ∧ j < 71 + 8 * nb + 8 then 0 else if a = 160 ∧ j = 63 + nb then 0 else if a = 160 ∧ j = 55 + nb then x else if a = 159 ∧ j = 0 then 0 else if a = 2 ∧ j = 1 then nI (nb + 1) else if a = 7 ∧ j = nb then (if z = 0 then 0 else 1) else if a = 6 ∧ j = nb then y else if a = 12 ∧ j = nb then x else if a = 79 ∧ j = 2 then 0 else if a = 79 ∧ j = 1 then 0 else M a j := by
      intro a j
      rw [mu, mu, mu, mu, mu_z8, eB, mu, mu, mu, eA, mu, mu, mu, mu, mu, mu]
    generalize m_up (m_up (m_up (m_up (z8 MB (71 + 8 * nb) 8) 166 nb y) 167 nb (if z = 0 then 0 else 1)) 159 7 (nI (nb + 1))) 159 3 0 = M2 at key ⊢
    refine mkCast (np' := np) (nb' := nb + 1) hI hX (fun a j h1 h2 h3 h4 h5 h6 h7 => ?_) (Nat.le_refl _) (by omega) ?_ ?_ ?_ (IU.none (by simp [key]) (by simp [key]) (by simp [key]))
    · have h8 : ¬ (a = 159 ∧ j = 0) := fun q => by rw [q.1, q.2] at h1; cases h1
      rw [key]
      repeat rw [if_neg (by omega)]
    · obtain ⟨b1, a2, a3⟩ := id hC
      refine ⟨⟨?_, by simp [vn, key], ?_, by simp [key], b1.2.2.2.2.1, by omega⟩, fun i hi => ?_, fun i hi => ?_⟩
      · have := b1.1
        simpa [vn, key] using this
      · have := b1.2.2.1
        simpa [key] using this
      · have := a2 i hi
        simpa [vn, key] using this
      · by_cases e : i = nb
        · subst e
          refine ⟨by simp [vn, key], by simp [vn, key], ?_⟩
          have e7 : M2 (1 + 6) i = if z = 0 then 0 else 1 := by simp [key]
          rw [e7]
          by_cases cz : z = 0
          · rw [if_pos cz]; exact Or.inl rfl
          · rw [if_neg cz]; exact Or.inr rfl
        · have := a3 i hi
          simpa [vn, key, e] using this
    · obtain ⟨b1, b2, b3, b4⟩ := hQ
      obtain ⟨-, -, -, -, wo, wh⟩ := hW
      refine ⟨?_, fun i hi => ?_, fun i hi => ?_, fun i hi => ?_⟩
      · have n1 : ∀ k, k < 7 → ¬ (71 + 8 * nb ≤ k ∧ k < 71 + 8 * nb + 8) ∧ ¬ k = 63 + nb ∧ ¬ k = 55 + nb := fun k _ => ⟨by omega, by omega, by omega⟩
        have s0 : ∀ k, k < 7 → M2 160 k = M 160 k := fun k hk => by
          obtain ⟨m1, m2, m3⟩ := n1 k hk
          simp [key, m1, m2, m3]
        rw [s0 0 (by omega), s0 1 (by omega), s0 2 (by omega), s0 3 (by omega), s0 4 (by omega), s0 5 (by omega), s0 6 (by omega)]
        have t8 : ∀ k, M2 8 k = M 8 k := fun k => by simp [key]
        rw [t8, t8, t8, t8, t8, t8, t8]
        exact b1
      · have s0 : ∀ k, k < 55 → M2 160 k = M 160 k := fun k hk => by
          rw [key]
          repeat rw [if_neg (by omega)]
        rw [s0 _ (by omega), s0 _ (by omega), s0 _ (by omega)]
        have := b2 i hi
        simpa [vn, key] using this
      · by_cases e : i = nb
        · subst e
          have k1 : M 13 i = 0 := wo i (Nat.le_refl _) hi
          refine ⟨?_, ?_⟩
          · rw [key, key]
            simp
            intro; omega
          · rw [key, key]
            simp [k1]
        · have s1 : M2 160 (55 + i) = M 160 (55 + i) := by
            rw [key]
            repeat rw [if_neg (by omega)]
          have s2 : M2 160 (63 + i) = M 160 (63 + i) := by
            rw [key]
            repeat rw [if_neg (by omega)]
          rw [s1, s2]
          have := b3 i hi
          simpa [vn, key, e] using this
      · by_cases e : 8 * nb ≤ i ∧ i < 8 * nb + 8
        · have k1 : M 14 i = 0 := wh i e.1 hi
          have t14 : M2 14 i = M 14 i := by simp [key]
          show M2 160 (71 + i) = M2 14 i
          rw [t14, k1, key, if_neg (by omega), if_neg (by omega), if_neg (by omega), if_neg (by omega), if_pos (by omega)]
        · have s1 : M2 160 (71 + i) = M 160 (71 + i) := by
            rw [key]
            repeat rw [if_neg (by omega)]
          have t14 : M2 14 i = M 14 i := by simp [key]
          show M2 160 (71 + i) = M2 14 i
          rw [s1, t14]
          exact b4 i hi
    · obtain ⟨d1, d2, d3, d4, d5, d6⟩ := hW
      have R : ∀ d, d ≤ 6 → d ≠ 4 → M2 (8 + d) = M (8 + d) := fun d hd hd4 => funext fun j => by
        rw [key]
        repeat rw [if_neg (by omega)]
      have R0 := R 0 (by omega) (by omega)
      have R1 := R 1 (by omega) (by omega)
      have R2 := R 2 (by omega) (by omega)
      have R3 := R 3 (by omega) (by omega)
      have R5 := R 5 (by omega) (by omega)
      have R6 := R 6 (by omega) (by omega)
      unfold WQ
      rw [show M2 8 = M 8 from R0, R1, R2, R3, R5, R6]
      refine ⟨⟨⟨d1.1.1, fun i hi => ?_⟩, d1.2⟩, d2, d3, d4, fun i h1 h2 => d5 i (by omega) h2, fun i h1 h2 => d6 i (by omega) h2⟩
      show sm (M2 12 i) 9999
      by_cases e : i = nb
      · have e12 : M2 12 i = x := by rw [e]; simp [key]
        rw [e12]
        obtain ⟨k, -, hk, ek⟩ := rng (a := 0) (b := 9999) (by decide) (by decide) c1
        exact ⟨k, hk, ek⟩
      · have e12 : M2 12 i = M 12 i := by simp [key, e]
        rw [e12]
        exact d1.1.2 i hi
