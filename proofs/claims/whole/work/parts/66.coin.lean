theorem hasCoin_lp {M : Mm} {x : Int32} {c : Nat} {K : Int32 → Mm → Prop} (hc : c ≤ 6) (ec : M 30 10 = nI c) (r : Int32) (hr : ((∃ j, j < c ∧ M 33 j = x) ∧ r = 1) ∨ ((∀ j, j < c → ¬ M 33 j = x) ∧ r = 0)) (hK : K r M) : ∀ f i, i ≤ c → c - i < f → (∀ j, j < i → ¬ M 33 j = x) → T_X9_hasCoin_2 30 f x (nI i) M K := by
  intro f
  induction f with
  | zero => intro i _ h; exact absurd h (Nat.not_lt_zero _)
  | succ f ih =>
    intro i hi hf hj
    have e33 : rf 30 2 = 33 := by decide
    rw [T_X9_hasCoin_2, ec, e33, nI_clamp (by omega)]
    refine ⟨fun q => ?_, fun q => ⟨fun q2 => ?_, fun q2 => ⟨?_, fun q3 => ?_, fun q3 y ey => ?_⟩⟩⟩
    · have : c ≤ i := (nI_leI (by omega) (by omega)).mp q
      rcases hr with ⟨⟨j, j1, j2⟩, -⟩ | ⟨-, rfl⟩
      · exact absurd j2 (hj j (by omega))
      · exact hK
    · have h1 : 6 ≤ i := (nI_leI (a := 6) (by omega) (by omega)).mp q2
      exact absurd (nI_le (a := c) (b := i) (by omega) (by omega)) q
    · exact vp_in_nI (Nat.not_le.mp fun z => q2 (nI_le (a := 6) z (by omega))) (by decide)
    · rcases hr with ⟨-, rfl⟩ | ⟨g, -⟩
      · exact hK
      · exact absurd q3 (g i (Nat.not_le.mp fun z => q (nI_le z (by omega))))
    · have hlt : i < c := Nat.not_le.mp fun z => q (nI_le z (by omega))
      rw [ey, nI_1]
      exact ih (i + 1) (by omega) (by omega) (fun j hj2 => by
        by_cases e : j = i
        · rw [e]; exact q3
        · exact hj j (by omega))
theorem coin41_lp {M : Mm} {x : Int32} {c : Nat} {K : Int32 → Mm → Prop} (hc : c < 6) (ec : M 159 51 = nI c) (hr : ((∃ j, j < c ∧ M 187 j = x) ∧ K (-1) M) ∨ ((∀ j, j < c → ¬ M 187 j = x) ∧ K (nI (c + 1)) (m_up (m_up M 187 c x) 159 51 (nI (c + 1))))) : ∀ f i, i ≤ c → c - i < f → (∀ j, j < i → ¬ M 187 j = x) → T_X12_coin_41 f x (nI i) M K := by
  intro f
  induction f with
  | zero => intro i _ h; exact absurd h (Nat.not_lt_zero _)
  | succ f ih =>
    intro i hi hf hj
    rw [T_X12_coin_41, ec, nI_clamp (by omega), nI_clamp (by omega)]
    refine ⟨fun q => ⟨vp_in_nI (by omega) (by decide), ?_⟩, fun q => ⟨?_, fun q3 => ?_, fun q3 y ey => ?_⟩⟩
    · have : c ≤ i := (nI_leI (by omega) (by omega)).mp q
      rcases hr with ⟨⟨j, j1, j2⟩, -⟩ | ⟨-, g⟩
      · exact absurd j2 (hj j (by omega))
      · simpa [mu, ec, nI_1] using g
    · have hlt : i < c := Nat.not_le.mp fun z => q (nI_le z (by omega))
      exact vp_in_nI (by omega) (by decide)
    · have hlt : i < c := Nat.not_le.mp fun z => q (nI_le z (by omega))
      rcases hr with ⟨-, g⟩ | ⟨g, -⟩
      · exact g
      · exact absurd q3 (g i hlt)
    · have hlt : i < c := Nat.not_le.mp fun z => q (nI_le z (by omega))
      rw [ey, nI_1]
      exact ih (i + 1) (by omega) (by omega) (fun j hj2 => by
        by_cases e : j = i
        · rw [e]; exact q3
        · exact hj j (by omega))
set_option maxHeartbeats 2000000 in
theorem ag_coin {N : Nat} {M : Mm} (h : Inv N M) (x : Int32) : Ag (T_X11_coin x) (T_X12_coin x) N M := by
  obtain ⟨np, nb, ⟨-, -, -, -, -, hT⟩, -, -⟩ := id h
  obtain ⟨t1, t2, ⟨e1, ⟨c, hc, ec⟩, t3⟩, t4, t5, t6, t7, t8⟩ := hT
  have ec : M 30 10 = nI c := ec
  have e2 : M 159 51 = nI c := e1.trans ec
  have e3 : ∀ j, j < 6 → M 187 j = M 33 j := fun j hj => (t3 j hj).1
  by_cases c0 : x = -1
  · subst c0
    refine ⟨0, m_up M 30 10 0, m_up (m_up (m_up M 30 10 0) 159 0 0) 159 51 0, fun K q => by simpa [T_X11_coin] using q, fun K q => by simpa [T_X12_coin] using q, ?_⟩
    refine h.told (fun a h1 h2 h3 _ _ _ _ _ _ _ _ => by repeat rw [m_up_ne (by omega)]) (fun j h1 _ _ _ _ _ => by repeat rw [mu, if_neg (by omega)]) ⟨by simpa [vn, mu] using t1, by simpa [vn, mu] using t2, ⟨by simp [vn, mu], ⟨0, by omega, by simp [mu]; rfl⟩, fun i hi => ?_⟩, by simpa [vn, mu] using t4, by simpa [vn, mu] using t5, by simpa [vn, mu] using t6, by simpa [vn, mu] using t7, by simpa [vn, mu] using t8⟩
    obtain ⟨a1, a2, a3⟩ := t3 i hi
    refine ⟨by simpa [vn, mu] using a1, by simpa [mu] using a2, fun q => ?_⟩
    simp [mu] at q
    exact absurd q (nI_pos (by omega))
  by_cases c1 : (1 : Int32) ≤ x ∧ x ≤ 50
  rotate_left
  · exact ⟨-1, M, _, fun K q => by simpa [T_X11_coin, c0, iw_neg c1] using q, fun K q => by simpa [T_X12_coin, c0, ii_neg c1] using q, h.t0 (x := 0)⟩
  by_cases cf : c = 6
  · subst cf
    have g1 : (6 : Int32) ≤ nI 6 := by decide
    exact ⟨-1, M, _, fun K q => by simpa [T_X11_coin, c0, iw_pos c1, ec, g1, Int32.not_lt.mpr g1] using q, fun K q => by simpa [T_X12_coin, c0, ii_pos c1, mu, show M 159 51 = 6 from e2] using q, h.t0 (x := 0)⟩
  have g1 : nI c < 6 := lt_nI hc (by decide) cf
  have g1' : ¬ (6 : Int32) ≤ nI c := Int32.not_le.mpr g1
  have g2 : ¬ nI c = 6 := ne_nI hc (by decide) cf
  have g3 : vp_in (nI c) 6 := vp_in_nI (by omega) (by decide)
  have g5 : (nI c).toNatClampNeg = c := nI_clamp (by omega)
  by_cases hp : ∃ j, j < c ∧ M 33 j = x
  · refine ⟨-1, M, m_up M 159 0 0, fun K q => ?_, fun K q => ?_, h.t0⟩
    · simp only [T_X11_coin, c0, iw_pos c1, ec, g1']
      refine ⟨fun z => z.elim, fun _ => ⟨fun z => absurd z (by decide), fun _ => ⟨fun z => z.elim, fun _ => ?_⟩⟩⟩
      exact hasCoin_lp hc ec 1 (Or.inl ⟨hp, rfl⟩) (by simpa using q) 5000 0 (by omega) (by omega) (fun j z => absurd z (by omega))
    · simp only [T_X12_coin, forall_eq, c0, ii_pos c1, mu, e2]
      refine ⟨fun z => z.elim, fun _ => ⟨fun z => absurd z (by decide), fun _ => ⟨fun z => absurd (by simpa using z) g2, fun _ => ?_⟩⟩⟩
      obtain ⟨j, j1, j2⟩ := hp
      exact coin41_lp (by omega) (by simpa [mu] using e2) (Or.inl ⟨⟨j, j1, by simp [mu]; rw [e3 j (by omega)]; exact j2⟩, q⟩) 5000 0 (by omega) (by omega) (fun j z => absurd z (by omega))
  · have hp' : ∀ j, j < c → ¬ M 33 j = x := fun j h1 h2 => hp ⟨j, h1, h2⟩
    obtain ⟨k, hk1, hk2, ek⟩ := rng (a := 1) (b := 50) (by decide) (by decide) c1
    refine ⟨nI (c + 1), m_up (m_up M 33 c x) 30 10 (nI (c + 1)), m_up (m_up (m_up (m_up (m_up M 33 c x) 30 10 (nI (c + 1))) 159 0 0) 187 c x) 159 51 (nI (c + 1)), fun K q => ?_, fun K q => ?_, ?_⟩
    · simp only [T_X11_coin, c0, iw_pos c1, ec, g1']
      refine ⟨fun z => z.elim, fun _ => ⟨fun z => absurd z (by decide), fun _ => ⟨fun z => z.elim, fun _ => ?_⟩⟩⟩
      refine hasCoin_lp hc ec 0 (Or.inr ⟨hp', rfl⟩) ?_ 5000 0 (by omega) (by omega) (fun j z => absurd z (by omega))
      simpa [mu, ec, g3, g5, nI_1] using q
    · simp only [T_X12_coin, forall_eq, c0, ii_pos c1]
      refine ⟨fun z => z.elim, fun _ => ⟨fun z => absurd z (by decide), fun _ => ⟨fun z => absurd (by simpa [mu, e2] using z) g2, fun _ => ?_⟩⟩⟩
      refine coin41_lp (by omega) (by simpa [mu] using e2) (Or.inr ⟨fun j j1 => ?_, q⟩) 5000 0 (by omega) (by omega) (fun j z => absurd z (by omega))
      simp [mu]
      rw [e3 j (by omega)]
      exact hp' j j1
    · refine h.told (fun a h1 h2 h3 _ _ _ _ _ _ _ _ => by repeat rw [m_up_ne (by omega)]) (fun j h1 _ _ _ _ _ => by repeat rw [mu, if_neg (by omega)]) ⟨by simpa [vn, mu] using t1, by simpa [vn, mu] using t2, ⟨by simp [vn, mu], ⟨c + 1, by omega, by simp [mu]⟩, fun i hi => ?_⟩, by simpa [vn, mu] using t4, by simpa [vn, mu] using t5, by simpa [vn, mu] using t6, by simpa [vn, mu] using t7, by simpa [vn, mu] using t8⟩
      obtain ⟨a1, a2, a3⟩ := t3 i hi
      by_cases e : i = c
      · subst e
        refine ⟨by simp [vn, mu], by simp [mu]; exact ⟨k, hk2, ek⟩, fun _ => by simp [mu]; rw [ek]; exact nI_ne0' hk1 (by omega)⟩
      · refine ⟨by simpa [vn, mu, e] using a1, by simpa [mu, e] using a2, fun q => ?_⟩
        simp [mu, e] at q ⊢
        refine a3 ?_
        show nI i < M 30 10
        rw [ec]
        have := (nI_ltI (by omega) (by omega)).mp q
        exact nI_lt (by omega) (by omega)
