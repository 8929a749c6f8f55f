set_option maxHeartbeats 4000000 in
theorem ag_parcel {N : Nat} {M : Mm} (h : Inv N M) (x y z : Int32) : Ag (T_X11_parcel x y z) (T_X12_parcel x y z) N M := by
  have hf := h.t0 (x := 0)
  obtain ⟨np, nb, hI, hU, hX⟩ := id h
  obtain ⟨hC, ⟨hQ, hW⟩, hB, -⟩ := id hI
  have en : M 2 0 = nI np := hC.1.2.2.1
  have hn : np ≤ 16 := hC.1.2.2.2.2.1
  have e2 : M 159 6 = nI np := hC.1.1.trans en
  by_cases c1 : (0 : Int32) ≤ x ∧ x ≤ 99
  rotate_left
  · exact ⟨-1, M, _, fun K q => by simpa [T_X11_parcel, iw_neg c1] using q, fun K q => by simpa [T_X12_parcel, ii_neg c1] using q, hf⟩
  by_cases c2 : (0 : Int32) ≤ y ∧ y ≤ 9
  rotate_left
  · exact ⟨-1, M, _, fun K q => by simpa [T_X11_parcel, iw_pos c1, iw_neg c2] using q, fun K q => by simpa [T_X12_parcel, ii_pos c1, ii_neg c2] using q, hf⟩
  by_cases c3 : (0 : Int32) ≤ z ∧ z ≤ 9
  rotate_left
  · exact ⟨-1, M, _, fun K q => by simpa [T_X11_parcel, iw_pos c1, iw_pos c2, iw_neg c3] using q, fun K q => by simpa [T_X12_parcel, ii_pos c1, ii_pos c2, ii_neg c3] using q, hf⟩
  by_cases cf : np = 16
  · subst cf
    have g1 : (16 : Int32) ≤ nI 16 := by decide
    exact ⟨-1, M, _, fun K q => by simpa [T_X11_parcel, iw_pos c1, iw_pos c2, iw_pos c3, en, g1, Int32.not_lt.mpr g1] using q, fun K q => by simpa [T_X12_parcel, ii_pos c1, ii_pos c2, ii_pos c3, mu, show M 159 6 = 16 from e2] using q, hf⟩
  have g1 : nI np < 16 := lt_nI hn (by decide) cf
  have g1' : ¬ (16 : Int32) ≤ nI np := Int32.not_le.mpr g1
  have g2 : ¬ nI np = 16 := ne_nI hn (by decide) cf
  have g3 : vp_in (nI np) 16 := vp_in_nI (by omega) (by decide)
  have g5 : (nI np).toNatClampNeg = np := nI_clamp (by omega)
  have r2 : rf 2 2 = 3 := by decide
  have r3 : rf 2 3 = 4 := by decide
  have r4 : rf 2 4 = 5 := by decide
  obtain ⟨w1, w2⟩ := vp_nat (x := 7 + nI np) (k := 7 + np) (n := 135) (nI_add 7 np) (by omega) (by decide)
  obtain ⟨w3, w4⟩ := vp_nat (x := 23 + nI np) (k := 23 + np) (n := 135) (nI_add 23 np) (by omega) (by decide)
  obtain ⟨w5, w6⟩ := vp_nat (x := 39 + nI np) (k := 39 + np) (n := 135) (nI_add 39 np) (by omega) (by decide)
  obtain ⟨i, -, hi, ei⟩ := rng (a := 0) (b := 99) (by decide) (by decide) c1
  obtain ⟨j, -, hj, ej⟩ := rng (a := 0) (b := 9) (by decide) (by decide) c3
  have p1 := nI_pred np
  refine ⟨nI np, m_up (m_up (m_up (m_up (m_up (m_up M 79 1 0) 79 2 0) 3 np x) 4 np y) 5 np z) 2 0 (nI (np + 1)), m_up (m_up (m_up (m_up (m_up (m_up (m_up (m_up (m_up (m_up (m_up (m_up (m_up (m_up (m_up M 79 1 0) 79 2 0) 3 np x) 4 np y) 5 np z) 2 0 (nI (np + 1))) 159 0 0) 163 np x) 164 np y) 165 np z) 160 (7 + np) 0) 160 (23 + np) 0) 160 (39 + np) 0) 159 6 (nI (np + 1))) 159 3 0, fun K q => ?_, fun K q => ?_, ?_⟩
  · simpa [T_X11_parcel, T_X4_forget, T_X1_addParcel, iw_pos c1, iw_pos c2, iw_pos c3, mu, en, g1, g1', g3, g5, r2, r3, r4, nI_1, p1] using q
  · simpa [T_X12_parcel, ii_pos c1, ii_pos c2, ii_pos c3, mu, e2, g2, g3, g5, w1, w2, w3, w4, w5, w6, nI_1, p1] using q
  · refine mkCast (np' := np + 1) (nb' := nb) hI hX (fun a j h1 h2 h3 h4 h5 h6 h7 => ?_) (by omega) (Nat.le_refl _) ?_ ?_ ?_ (IU.none (by simp [mu]) (by simp [mu]) (by simp [mu]))
    · have h8 : ¬ (a = 159 ∧ j = 0) := fun q => by rw [q.1, q.2] at h1; cases h1
      repeat rw [mu, if_neg (by omega)]
    · obtain ⟨-, a2, a3⟩ := id hC
      refine ⟨⟨by simp [vn, mu], ?_, by simp [mu], ?_, by omega, hC.1.2.2.2.2.2⟩, fun i hi => ?_, fun i hi => ?_⟩
      · have := hC.1.2.1
        simpa [vn, mu] using this
      · have := hC.1.2.2.2.1
        simpa [mu] using this
      · by_cases e : i = np
        · subst e
          refine ⟨by simp [vn, mu], by simp [vn, mu], by simp [vn, mu], by simp [mu]; exact ⟨_, by omega, ei⟩, by simp [mu]; exact ⟨_, by omega, ej⟩⟩
        · have := a2 i hi
          simpa [vn, mu, e] using this
      · have := a3 i hi
        simpa [vn, mu] using this
    · obtain ⟨b1, b2, b3, b4⟩ := hQ
      obtain ⟨-, -, -, wp, -⟩ := hW
      refine ⟨?_, fun i hi => ?_, fun i hi => ?_, fun i hi => ?_⟩
      · have n1 : ∀ k, k < 7 → ¬ k = 7 + np ∧ ¬ k = 23 + np ∧ ¬ k = 39 + np := fun k _ => ⟨by omega, by omega, by omega⟩
        simpa [vn, mu, n1 0 (by omega), n1 1 (by omega), n1 2 (by omega), n1 3 (by omega), n1 4 (by omega), n1 5 (by omega), n1 6 (by omega)] using b1
      · have n1 : ¬ 7 + i = 23 + np ∧ ¬ 7 + i = 39 + np ∧ ¬ 23 + i = 39 + np := ⟨by omega, by omega, by omega⟩
        have n2 : ¬ 39 + i = 23 + np := by omega
        have n3 : ¬ 39 + i = 7 + np := by omega
        have n4 : ¬ 23 + i = 7 + np := by omega
        by_cases e : i = np
        · subst e
          obtain ⟨k1, k2, k3⟩ := wp i (Nat.le_refl _) hi
          have k1 : M 9 i = -1 := k1
          have k2 : M 10 i = -1 := k2
          have k3 : M 11 i = 0 := k3
          simp [mu, n1, n2, n3, n4, k1, k2, k3]
        · have m1 : ¬ 7 + i = 7 + np := by omega
          have m2 : ¬ 23 + i = 23 + np := by omega
          have m3 : ¬ 39 + i = 39 + np := by omega
          have := b2 i hi
          simpa [vn, mu, n1, n2, n3, n4, e] using this
      · have n1 : ¬ 55 + i = 7 + np ∧ ¬ 55 + i = 23 + np ∧ ¬ 55 + i = 39 + np := ⟨by omega, by omega, by omega⟩
        have n2 : ¬ 63 + i = 7 + np ∧ ¬ 63 + i = 23 + np ∧ ¬ 63 + i = 39 + np := ⟨by omega, by omega, by omega⟩
        have := b3 i hi
        simpa [vn, mu, n1, n2] using this
      · have n1 : ¬ 71 + i = 7 + np ∧ ¬ 71 + i = 23 + np ∧ ¬ 71 + i = 39 + np := ⟨by omega, by omega, by omega⟩
        have := b4 i hi
        simpa [vn, mu, n1] using this
    · obtain ⟨d1, d2, d3, d4, d5⟩ := hW
      have R : ∀ d, d ≤ 6 → m_up (m_up (m_up (m_up (m_up (m_up (m_up (m_up (m_up (m_up (m_up (m_up (m_up (m_up (m_up M 79 1 0) 79 2 0) 3 np x) 4 np y) 5 np z) 2 0 (nI (np + 1))) 159 0 0) 163 np x) 164 np y) 165 np z) 160 (7 + np) 0) 160 (23 + np) 0) 160 (39 + np) 0) 159 6 (nI (np + 1))) 159 3 0 (8 + d) = M (8 + d) := fun d hd => by repeat rw [m_up_ne (by omega)]
      exact WQ.cg (M := M) (q := 8) ⟨d1, d2, d3, fun i h1 h2 => d4 i (by omega) h2, d5⟩ R
