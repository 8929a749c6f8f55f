theorem m1_neg : ¬ ((0 : Int32) ≤ -1 ∧ (-1 : Int32) ≤ 9) := by decide
theorem lt_nI {c n : Nat} (hc : c ≤ n) (hn : n < 2 ^ 31) (h : ¬ c = n) : nI c < nI n := nI_lt (by omega) hn
theorem ne_nI {c n : Nat} (hc : c ≤ n) (hn : n < 2 ^ 31) (h : ¬ c = n) : ¬ nI c = nI n := fun q => h ((nI_eq (by omega) hn).mp q)
theorem nI_ne0' {k : Nat} (h : 1 ≤ k) (hk : k < 2 ^ 31) : ¬ nI k = 0 := nI_ne0 (by omega) hk
set_option maxHeartbeats 2000000 in
theorem ag_length {N : Nat} {M : Mm} (h : Inv N M) (x : Int32) : Ag (T_X11_length x) (T_X12_length x) N M := by
  obtain ⟨np, nb, ⟨-, -, -, -, -, hT⟩, -, -⟩ := id h
  obtain ⟨t1, ⟨e1, ⟨c, hc, ec⟩, t2⟩, t3, t4, t5, t6, t7, t8⟩ := hT
  have ec : M 30 9 = nI c := ec
  have e2 : M 159 53 = nI c := e1.trans ec
  by_cases c0 : x = -1
  · subst c0
    refine ⟨0, m_up M 30 9 0, m_up (m_up (m_up M 30 9 0) 159 0 0) 159 53 0, fun K q => by simpa [T_X11_length] using q, fun K q => by simpa [T_X12_length] using q, ?_⟩
    refine h.told (fun a h1 h2 h3 _ _ _ _ _ _ _ _ => by repeat rw [m_up_ne (by omega)]) (fun j h1 _ _ _ _ _ => by repeat rw [mu, if_neg (by omega)]) ⟨by simpa [vn, mu] using t1, ⟨by simp [vn, mu], ⟨0, by omega, by simp [mu]; rfl⟩, fun i hi => ?_⟩, by simpa [vn, mu] using t3, by simpa [vn, mu] using t4, by simpa [vn, mu] using t5, by simpa [vn, mu] using t6, by simpa [vn, mu] using t7, by simpa [vn, mu] using t8⟩
    obtain ⟨a1, a2, a3⟩ := t2 i hi
    refine ⟨by simpa [vn, mu] using a1, by simpa [mu] using a2, fun q => ?_⟩
    simp [mu] at q
    exact absurd q (nI_pos (by omega))
  by_cases c1 : (1 : Int32) ≤ x ∧ x ≤ 60
  · obtain ⟨k, hk1, hk2, rfl⟩ := rng (a := 1) (b := 60) (by decide) (by decide) c1
    by_cases c2 : c = 9
    · subst c2
      have g1 : (9 : Int32) ≤ nI 9 := by decide
      exact ⟨-1, M, _, fun K q => by simpa [T_X11_length, c0, iw_pos c1, ec, g1, Int32.not_lt.mpr g1] using q, fun K q => by simpa [T_X12_length, c0, ii_pos c1, mu, show M 159 53 = 9 from e2] using q, h.t0 (x := 0)⟩
    · have g1 : nI c < 9 := lt_nI hc (by decide) c2
      have g1' : ¬ (9 : Int32) ≤ nI c := Int32.not_le.mpr g1
      have g2 : ¬ nI c = 9 := ne_nI hc (by decide) c2
      have g3 : vp_in (nI c) 9 := vp_in_nI (by omega) (by decide)
      have g5 : (nI c).toNatClampNeg = c := nI_clamp (by omega)
      refine ⟨nI (c + 1), m_up (m_up M 32 c (nI k)) 30 9 (nI (c + 1)), m_up (m_up (m_up (m_up (m_up M 32 c (nI k)) 30 9 (nI (c + 1))) 159 0 0) 188 c (nI k)) 159 53 (nI (c + 1)), fun K q => by simpa [T_X11_length, c0, iw_pos c1, g1, g1', g3, mu, ec, g5, nI_1] using q, fun K q => by simpa [T_X12_length, c0, ii_pos c1, g2, g3, mu, e2, g5, nI_1] using q, ?_⟩
      refine h.told (fun a h1 h2 h3 _ _ _ _ _ _ _ _ => by repeat rw [m_up_ne (by omega)]) (fun j h1 _ _ _ _ _ => by repeat rw [mu, if_neg (by omega)]) ⟨by simpa [vn, mu] using t1, ⟨by simp [vn, mu], ⟨c + 1, by omega, by simp [mu]⟩, fun i hi => ?_⟩, by simpa [vn, mu] using t3, by simpa [vn, mu] using t4, by simpa [vn, mu] using t5, by simpa [vn, mu] using t6, by simpa [vn, mu] using t7, by simpa [vn, mu] using t8⟩
      obtain ⟨a1, a2, a3⟩ := t2 i hi
      by_cases e : i = c
      · subst e
        refine ⟨by simp [vn, mu], by simp [mu]; exact sm_nI hk2, fun _ => by simp [mu]; exact nI_ne0' hk1 (by omega)⟩
      · refine ⟨by simpa [vn, mu, e] using a1, by simpa [mu, e] using a2, fun q => ?_⟩
        simp [mu, e] at q ⊢
        refine a3 ?_
        show nI i < M 30 9
        rw [ec]
        have := (nI_ltI (by omega) (by omega)).mp q
        exact nI_lt (by omega) (by omega)
  · exact ⟨-1, M, _, fun K q => by simpa [T_X11_length, c0, iw_neg c1] using q, fun K q => by simpa [T_X12_length, c0, ii_neg c1] using q, h.t0 (x := 0)⟩
