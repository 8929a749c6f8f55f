theorem sub1_add1 (x : Int32) : x + 1 - 1 = x := by
  rw [Int32.sub_eq_add_neg, Int32.add_assoc]
  simp
set_option maxHeartbeats 2000000 in
theorem ag_who {N : Nat} {M : Mm} (h : Inv N M) (x y : Int32) : Ag (T_X11_who x y) (T_X12_who x y) N M := by
  have hf := h.t0 (x := 0)
  obtain ⟨np, nb, ⟨hC, ⟨hQ, hW⟩, hB, hL, hP, hT⟩, hU, hX⟩ := id h
  have en : M 2 1 = nI nb := hC.1.2.2.2.1
  have hn : nb ≤ 8 := hC.1.2.2.2.2.2
  have en2 : M 159 7 = nI nb := hC.1.2.1.trans en
  have en3 : m_up M 159 0 0 159 7 = nI nb := by simpa [mu] using en2
  by_cases cx : ∃ k, k < nb ∧ x = nI k
  rotate_left
  · exact ⟨-2, M, _, fun K q => by simpa [T_X11_who, hb_neg cx hn en] using q, fun K q => by simpa [T_X12_who, ib_neg cx hn en3] using q, hf⟩
  obtain ⟨b, hb, rfl⟩ := cx
  have P1 := fun {K : Int32 → Mm → Prop} => hb_pos (M := M) (K := K) rfl hb hn en
  have P2 := fun {K : Int32 → Mm → Prop} => ib_pos (M := m_up M 159 0 0) (K := K) rfl hb hn en3
  have v8 : vp_in (nI b) 8 := vp_in_nI (by omega) (by decide)
  have v16 : vp_in (nI b) 16 := vp_in_nI (by omega) (by decide)
  have vc : (nI b).toNatClampNeg = b := nI_clamp (by omega)
  obtain ⟨q1, q2, q3, q4⟩ := hQ
  have r1 : M 160 (55 + b) = M 12 b := (q3 b (by omega)).1
  have r2 : M 160 (63 + b) = M 13 b := (q3 b (by omega)).2
  have r3 : M 166 b = M 6 b := (hC.2.2 b (by omega)).1
  have r4 : M 167 b = M 7 b := (hC.2.2 b (by omega)).2.1
  have r5 : M 179 b = M 24 b + 1 := hP.2.1 b (by omega)
  obtain ⟨w1, w2⟩ := vp_nat (x := 55 + nI b) (k := 55 + b) (n := 135) (nI_add 55 b) (by omega) (by decide)
  obtain ⟨w3, w4⟩ := vp_nat (x := 63 + nI b) (k := 63 + b) (n := 135) (nI_add 63 b) (by omega) (by decide)
  by_cases c0 : y = 0
  · subst c0; exact ⟨M 12 b, M, _, fun K q => by simpa [T_X11_who, P1, v8, vc] using q, fun K q => by simpa [T_X12_who, P2, w1, w2, mu, r1] using q, hf⟩
  by_cases c1 : y = 1
  · subst c1; exact ⟨M 6 b, M, _, fun K q => by simpa [T_X11_who, P1, v8, vc] using q, fun K q => by simpa [T_X12_who, P2, v8, vc, mu, r3] using q, hf⟩
  by_cases c2 : y = 2
  · subst c2; exact ⟨M 7 b, M, _, fun K q => by simpa [T_X11_who, P1, v8, vc] using q, fun K q => by simpa [T_X12_who, P2, v8, vc, mu, r4] using q, hf⟩
  by_cases c3 : y = 3
  · subst c3; exact ⟨M 13 b, M, _, fun K q => by simpa [T_X11_who, P1, v8, vc] using q, fun K q => by simpa [T_X12_who, P2, w3, w4, mu, r2] using q, hf⟩
  by_cases c4 : y = 4
  · subst c4; exact ⟨M 24 b, M, _, fun K q => by simpa [T_X11_who, P1, v8, vc] using q, fun K q => by simpa [T_X12_who, P2, v16, vc, mu, r5, sub1_add1] using q, hf⟩
  by_cases c5 : (11 : Int32) ≤ y ∧ y ≤ 17
  · obtain ⟨k, hk1, hk2, rfl⟩ := rng (a := 11) (b := 17) (by decide) (by decide) c5
    obtain ⟨k, rfl⟩ : ∃ j, k = 10 + j := ⟨k - 10, by omega⟩
    have s1 : nI (10 + k) - 10 = nI k := by
      rw [show (10 : Int32) = nI 10 from rfl, pk_sub (by omega)]
      congr 1; omega
    obtain ⟨z1, z2⟩ := vp_nat (x := nI b * 8 + nI (10 + k) - 10) (k := b * 8 + k) (n := 64) (by
      rw [show (8 : Int32) = nI 8 from rfl, show (10 : Int32) = nI 10 from rfl, pk_mul, nI_add, pk_sub (by omega)]
      congr 1; omega) (by omega) (by decide)
    obtain ⟨z3, z4⟩ := vp_nat (x := 71 + 8 * nI b + nI k) (k := 71 + (b * 8 + k)) (n := 135) (by
      rw [show (8 : Int32) = nI 8 from rfl, show (71 : Int32) = nI 71 from rfl, pk_mul, nI_add, nI_add]
      congr 1; omega) (by omega) (by decide)
    have r6 : M 160 (71 + (b * 8 + k)) = M 14 (b * 8 + k) := q4 _ (by omega)
    exact ⟨M 14 (b * 8 + k), M, _, fun K q => by simpa [T_X11_who, P1, c0, c1, c2, c3, c4, iw_pos c5, z1, z2] using q, fun K q => by simpa [T_X12_who, T_X12_hasOf, P2, c0, c1, c2, c3, c4, ii_pos c5, s1, z3, z4, mu, r6] using q, hf⟩
  by_cases c6 : (21 : Int32) ≤ y ∧ y ≤ 27
  · obtain ⟨k, hk1, hk2, rfl⟩ := rng (a := 21) (b := 27) (by decide) (by decide) c6
    obtain ⟨k, rfl⟩ : ∃ j, k = 20 + j := ⟨k - 20, by omega⟩
    obtain ⟨z1, z2⟩ := vp_nat (x := nI b * 8 + nI (20 + k) - 20) (k := b * 8 + k) (n := 64) (by
      rw [show (8 : Int32) = nI 8 from rfl, show (20 : Int32) = nI 20 from rfl, pk_mul, nI_add, pk_sub (by omega)]
      congr 1; omega) (by omega) (by decide)
    obtain ⟨z3, z4⟩ := vp_nat (x := 8 * nI b + nI (20 + k) - 20) (k := b * 8 + k) (n := 128) (by
      rw [show (8 : Int32) = nI 8 from rfl, show (20 : Int32) = nI 20 from rfl, pk_mul, nI_add, pk_sub (by omega)]
      congr 1; omega) (by omega) (by decide)
    have r6 : M 181 (b * 8 + k) = M 25 (b * 8 + k) := (hP.2.2.1 _ (by omega)).1
    exact ⟨M 25 (b * 8 + k), M, _, fun K q => by simpa [T_X11_who, P1, c0, c1, c2, c3, c4, iw_neg c5, iw_pos c6, z1, z2] using q, fun K q => by simpa [T_X12_who, P2, c0, c1, c2, c3, c4, ii_neg c5, ii_pos c6, z3, z4, mu, r6] using q, hf⟩
  exact ⟨-2, M, _, fun K q => by simpa [T_X11_who, P1, c0, c1, c2, c3, c4, iw_neg c5, iw_neg c6] using q, fun K q => by simpa [T_X12_who, P2, c0, c1, c2, c3, c4, ii_neg c5, ii_neg c6] using q, hf⟩
