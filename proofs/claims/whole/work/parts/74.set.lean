/-- a quay's one cell and its place in the row are told anew -/
theorem IQ.set1 {N : Nat} {M M2 : Mm} {c i j : Nat} {v : Int32} (h : IQ N M 8 (M 160)) (hk : ∀ a k, (8 ≤ a ∧ a ≤ 14) ∨ a = 160 → M2 a k = if a = 160 ∧ k = j then v else if a = c ∧ k = i then v else M a k)
    (hc : (c = 8 ∧ i = 10 ∧ j = 0) ∨ (c = 8 ∧ i = 6 ∧ j = 1) ∨ (c = 8 ∧ i = 8 ∧ j = 4) ∨ (c = 8 ∧ i = 9 ∧ j = 5) ∨ (c = 11 ∧ i < 16 ∧ j = 39 + i) ∨ (c = 12 ∧ i < 8 ∧ j = 55 + i) ∨ (c = 13 ∧ i < 8 ∧ j = 63 + i) ∨ (c = 14 ∧ i < 64 ∧ j = 71 + i)) : IQ N M2 8 (M2 160) := by
  obtain ⟨⟨a0, a1, a2, a3, a4, a5, a6⟩, b2, b3, b4⟩ := h
  have L : ∀ J C I, 8 ≤ C → C ≤ 14 → (J = j ↔ C = c ∧ I = i) → M 160 J = M C I → M2 160 J = M2 C I := by
    intro J C I h1 h2 he h3
    rw [hk 160 J (Or.inr rfl), hk C I (Or.inl ⟨h1, h2⟩)]
    by_cases e : J = j
    · rw [if_pos ⟨rfl, e⟩, if_neg (by omega), if_pos (he.mp e)]
    · rw [if_neg (fun q => e q.2), if_neg (by omega), if_neg (by omega), if_neg (fun q => e (he.mpr q))]
      exact h3
  have L1 : ∀ J C I, 9 ≤ C → C ≤ 10 → J ≠ j → M 160 J = M C I + 1 → M2 160 J = M2 C I + 1 := by
    intro J C I h1 h2 he h3
    rw [hk 160 J (Or.inr rfl), hk C I (Or.inl ⟨by omega, by omega⟩), if_neg (fun q => he q.2), if_neg (by omega), if_neg (by omega), if_neg (by omega)]
    exact h3
  refine ⟨⟨L 0 8 10 (by omega) (by omega) (by omega) a0, L 1 8 6 (by omega) (by omega) (by omega) a1, L 2 8 12 (by omega) (by omega) (by omega) a2, L 3 8 7 (by omega) (by omega) (by omega) a3, L 4 8 8 (by omega) (by omega) (by omega) a4, L 5 8 9 (by omega) (by omega) (by omega) a5, L 6 8 11 (by omega) (by omega) (by omega) a6⟩, fun t ht => ?_, fun t ht => ?_, fun t ht => ?_⟩
  · obtain ⟨c1, c2, c3⟩ := b2 t ht
    exact ⟨L1 _ 9 t (by omega) (by omega) (by omega) c1, L1 _ 10 t (by omega) (by omega) (by omega) c2, L _ 11 t (by omega) (by omega) (by omega) c3⟩
  · obtain ⟨c4, c5⟩ := b3 t ht
    exact ⟨L _ 12 t (by omega) (by omega) (by omega) c4, L _ 13 t (by omega) (by omega) (by omega) c5⟩
  · exact L _ 14 t (by omega) (by omega) (by omega) (b4 t ht)
set_option maxHeartbeats 800000 in
theorem set_q {N np nb : Nat} {M : Mm} {c i j : Nat} {v : Int32} (hI : IW N np nb M 1 (vn M)) (hX : IX N M) (hcx : c = 8 ∨ c = 11 ∨ c = 12)
    (hc : Unit → (c = 8 ∧ i = 10 ∧ j = 0) ∨ (c = 8 ∧ i = 6 ∧ j = 1) ∨ (c = 8 ∧ i = 8 ∧ j = 4) ∨ (c = 8 ∧ i = 9 ∧ j = 5) ∨ (c = 11 ∧ i < 16 ∧ j = 39 + i) ∨ (c = 12 ∧ i < 8 ∧ j = 55 + i) ∨ (c = 13 ∧ i < 8 ∧ j = 63 + i) ∨ (c = 14 ∧ i < 64 ∧ j = 71 + i))
    (h11 : Unit → c = 11 → i < np ∧ sm v 99) (h12 : Unit → c = 12 → sm v 9999) (h8 : Unit → c = 8 → ¬ i = 12 ∧ (i = 8 → sm v 99) ∧ (i = 9 → sm v 9)) : Inv N (m_up (m_up (m_up (m_up (m_up (m_up M 79 1 0) 79 2 0) c i v) 159 0 0) 160 j v) 159 3 0) := by
  obtain ⟨hC, ⟨hQ, hW⟩, hB, -⟩ := id hI
  have hnp : np ≤ 16 := hC.1.2.2.2.2.1
  have key : ∀ a k, m_up (m_up (m_up (m_up (m_up (m_up M 79 1 0) 79 2 0) c i v) 159 0 0) 160 j v) 159 3 0 a k = if a = 159 ∧ k = 3 then 0 else if a = 160 ∧ k = j then v else if a = 159 ∧ k = 0 then 0 else if a = c ∧ k = i then v else if a = 79 ∧ k = 2 then 0 else if a = 79 ∧ k = 1 then 0 else M a k := by
    intro a k
    rw [mu, mu, mu, mu, mu, mu]
  generalize m_up (m_up (m_up (m_up (m_up (m_up M 79 1 0) 79 2 0) c i v) 159 0 0) 160 j v) 159 3 0 = M2 at key ⊢
  have E : ∀ a k, 8 ≤ a → a ≤ 14 → ¬ (a = c ∧ k = i) → M2 a k = M a k := fun a k h1 h2 h3 => by
    rw [key, if_neg (by omega), if_neg (by omega), if_neg (by omega), if_neg h3, if_neg (by omega), if_neg (by omega)]
  have V : ∀ a k n, 8 ≤ a → a ≤ 14 → sm (M a k) n → (a = c → k = i → sm v n) → sm (M2 a k) n := fun a k n h1 h2 h3 h4 => by
    by_cases e : a = c ∧ k = i
    · rw [key, if_neg (by omega), if_neg (by omega), if_neg (by omega), if_pos e]
      exact h4 e.1 e.2
    · rw [E a k h1 h2 e]; exact h3
  refine mkInv hI hX (fun a k h1 h2 h3 h4 h5 h6 h7 => ?_) ?_ ?_ (fun t ht => ?_) (IU.none ?_ ?_ ?_)
  · have h9 : ¬ (a = 159 ∧ k = 0) := fun q => by rw [q.1, q.2] at h1; cases h1
    rw [key, if_neg h7, if_neg (fun q => h3 q.1), if_neg h9, if_neg (by omega), if_neg (by omega), if_neg (by omega)]
  · refine IQ.set1 (c := c) (i := i) (j := j) (v := v) hQ (fun a k ha => ?_) (hc ())
    rw [key]
    by_cases e1 : a = 160 ∧ k = j
    · rw [if_neg (by omega), if_pos e1, if_pos e1]
    · rw [if_neg (by omega), if_neg e1, if_neg (by omega), if_neg e1]
      by_cases e2 : a = c ∧ k = i
      · rw [if_pos e2, if_pos e2]
      · rw [if_neg e2, if_neg (by omega), if_neg (by omega), if_neg e2]
  · obtain ⟨⟨⟨d1, d2⟩, d3, d4, d5⟩, e1, e2, e3, e4, e5⟩ := hW
    have ne : ∀ a k, a = 9 ∨ a = 10 ∨ a = 13 ∨ a = 14 → M2 a k = M a k := fun a k h => E a k (by omega) (by omega) (by omega)
    refine ⟨⟨⟨fun t ht => ⟨?_, ?_⟩, fun t ht => ?_⟩, ?_, ?_, ?_⟩, fun t ht => ?_, fun t ht => ?_, fun t h1 h2 => ⟨?_, ?_, ?_⟩, fun t h1 h2 => ?_, fun t h1 h2 => ?_⟩
    · rw [ne _ t (Or.inl rfl)]; exact (d1 t ht).1
    · exact V _ t _ (by omega) (by omega) (d1 t ht).2 (fun p1 _ => (h11 () p1.symm).2)
    · exact V _ t _ (by omega) (by omega) (d2 t ht) (fun p1 _ => h12 () p1.symm)
    · rw [E 8 12 (by omega) (by omega) (fun q => (h8 () q.1.symm).1 q.2.symm)]; exact d3
    · exact V 8 8 _ (by omega) (by omega) d4 (fun p1 p2 => (h8 () p1.symm).2.1 p2.symm)
    · exact V 8 9 _ (by omega) (by omega) d5 (fun p1 p2 => (h8 () p1.symm).2.2 p2.symm)
    · rw [ne _ t (Or.inr (Or.inr (Or.inl rfl)))]; exact e1 t ht
    · rw [ne _ t (Or.inr (Or.inr (Or.inr rfl)))]; exact e2 t ht
    · rw [ne _ t (Or.inl rfl)]; exact (e3 t h1 h2).1
    · rw [ne _ t (Or.inr (Or.inl rfl))]; exact (e3 t h1 h2).2.1
    · rw [E _ t (by omega) (by omega) (fun q => by
        have := (h11 () q.1.symm).1
        omega)]
      exact (e3 t h1 h2).2.2
    · rw [ne _ t (Or.inr (Or.inr (Or.inl rfl)))]; exact e4 t h1 h2
    · rw [ne _ t (Or.inr (Or.inr (Or.inr rfl)))]; exact e5 t h1 h2
  · rw [key, key, if_neg (by omega), if_neg (by omega), if_neg (by omega), if_neg (by omega), if_neg (by omega), if_neg (by omega), if_neg (by omega), if_neg (by omega), if_neg (by omega), if_neg (by omega), if_neg (by omega), if_neg (by omega)]
    exact hB t ht
  · rw [key, if_neg (by omega), if_neg (by omega), if_neg (by omega), if_neg (by omega), if_neg (by omega), if_pos ⟨rfl, rfl⟩]
  · rw [key, if_neg (by omega), if_neg (by omega), if_neg (by omega), if_neg (by omega), if_pos ⟨rfl, rfl⟩]
  · rw [key, if_pos ⟨rfl, rfl⟩]
set_option maxHeartbeats 800000 in
theorem set_c {N np nb : Nat} {M : Mm} {c d i : Nat} {v : Int32} (hI : IW N np nb M 1 (vn M)) (hX : IX N M) (hc : (c = 6 ∧ d = 166) ∨ (c = 5 ∧ d = 165)) (hv : Unit → c = 5 → sm v 9) : Inv N (m_up (m_up (m_up (m_up (m_up (m_up M 79 1 0) 79 2 0) c i v) 159 0 0) d i v) 159 3 0) := by
  obtain ⟨hC, ⟨hQ, hW⟩, hB, -⟩ := id hI
  have key : ∀ a k, m_up (m_up (m_up (m_up (m_up (m_up M 79 1 0) 79 2 0) c i v) 159 0 0) d i v) 159 3 0 a k = if a = 159 ∧ k = 3 then 0 else if a = d ∧ k = i then v else if a = 159 ∧ k = 0 then 0 else if a = c ∧ k = i then v else if a = 79 ∧ k = 2 then 0 else if a = 79 ∧ k = 1 then 0 else M a k := by
    intro a k
    rw [mu, mu, mu, mu, mu, mu]
  generalize m_up (m_up (m_up (m_up (m_up (m_up M 79 1 0) 79 2 0) c i v) 159 0 0) d i v) 159 3 0 = M2 at key ⊢
  have E : ∀ a k, a ≠ 79 → ¬ (a = 159 ∧ (k = 3 ∨ k = 0)) → ¬ (a = c ∧ k = i) → ¬ (a = d ∧ k = i) → M2 a k = M a k := fun a k h1 h2 h3 h4 => by
    rw [key, if_neg (by omega), if_neg h4, if_neg (by omega), if_neg h3, if_neg (by omega), if_neg (by omega)]
  refine mkCast (np' := np) (nb' := nb) hI hX (fun a k h1 h2 h3 h4 h5 h6 h7 => ?_) (Nat.le_refl _) (Nat.le_refl _) ?_ (hQ.cg (fun k hk => ?_) (fun t ht => funext fun k => ?_)) (hW.cg (fun t ht => funext fun k => ?_)) (IU.none ?_ ?_ ?_)
  · have h8 : ¬ (a = 159 ∧ k = 0) := fun q => by rw [q.1, q.2] at h1; cases h1
    exact E a k (by omega) (by omega) (by omega) (by omega)
  · obtain ⟨⟨b1, b2, b3, b4, b5, b6⟩, a2, a3⟩ := hC
    refine ⟨⟨?_, ?_, ?_, ?_, b5, b6⟩, fun t ht => ?_, fun t ht => ?_⟩
    · show M2 159 6 = M2 2 0
      rw [E _ _ (by omega) (by omega) (by omega) (by omega), E _ _ (by omega) (by omega) (by omega) (by omega)]; exact b1
    · show M2 159 7 = M2 2 1
      rw [E _ _ (by omega) (by omega) (by omega) (by omega), E _ _ (by omega) (by omega) (by omega) (by omega)]; exact b2
    · rw [E _ _ (by omega) (by omega) (by omega) (by omega)]; exact b3
    · rw [E _ _ (by omega) (by omega) (by omega) (by omega)]; exact b4
    · obtain ⟨c1, c2, c3, c4, c5⟩ := a2 t ht
      have z1 : M2 163 t = M2 3 t := by
        rw [E _ _ (by omega) (by omega) (by omega) (by omega), E _ _ (by omega) (by omega) (by omega) (by omega)]; exact c1
      have z2 : M2 164 t = M2 4 t := by
        rw [E _ _ (by omega) (by omega) (by omega) (by omega), E _ _ (by omega) (by omega) (by omega) (by omega)]; exact c2
      have z4 : sm (M2 3 t) 99 := by
        rw [E _ _ (by omega) (by omega) (by omega) (by omega)]; exact c4
      by_cases e : c = 5 ∧ t = i
      · have y1 : M2 165 t = v := by rw [key, if_neg (by omega), if_pos (by omega)]
        have y2 : M2 5 t = v := by rw [key, if_neg (by omega), if_neg (by omega), if_neg (by omega), if_pos (by omega)]
        refine ⟨z1, z2, ?_, z4, ?_⟩
        · show M2 165 t = M2 5 t
          rw [y1, y2]
        · show sm (M2 5 t) 9
          rw [y2]
          exact hv () e.1
      · have y1 : M2 165 t = M 165 t := E _ _ (by omega) (by omega) (by omega) (by omega)
        have y2 : M2 5 t = M 5 t := E _ _ (by omega) (by omega) (by omega) (by omega)
        refine ⟨z1, z2, ?_, z4, ?_⟩
        · show M2 165 t = M2 5 t
          rw [y1, y2]; exact c3
        · show sm (M2 5 t) 9
          rw [y2]; exact c5
    · obtain ⟨c1, c2, c3⟩ := a3 t ht
      have z2 : M2 167 t = M 167 t := E _ _ (by omega) (by omega) (by omega) (by omega)
      have z3 : M2 7 t = M 7 t := E _ _ (by omega) (by omega) (by omega) (by omega)
      refine ⟨?_, ?_, ?_⟩
      · show M2 166 t = M2 6 t
        by_cases e : c = 6 ∧ t = i
        · rw [key, if_neg (by omega), if_pos (by omega), key, if_neg (by omega), if_neg (by omega), if_neg (by omega), if_pos (by omega)]
        · rw [E _ _ (by omega) (by omega) (by omega) (by omega), E _ _ (by omega) (by omega) (by omega) (by omega)]; exact c1
      · show M2 167 t = M2 7 t
        rw [z2, z3]; exact c2
      · show M2 7 t = 0 ∨ M2 7 t = 1
        rw [z3]; exact c3
  · exact E _ _ (by omega) (by omega) (by omega) (by omega)
  · exact E _ _ (by omega) (by omega) (by omega) (by omega)
  · exact E _ _ (by omega) (by omega) (by omega) (by omega)
  · rw [key, if_neg (by omega), if_neg (by omega), if_neg (by omega), if_neg (by omega), if_neg (by omega), if_pos ⟨rfl, rfl⟩]
  · rw [key, if_neg (by omega), if_neg (by omega), if_neg (by omega), if_neg (by omega), if_pos ⟨rfl, rfl⟩]
  · rw [key, if_pos ⟨rfl, rfl⟩]
set_option maxHeartbeats 1500000 in
theorem ag_set {N : Nat} {M : Mm} (h : Inv N M) (x y z : Int32) : Ag (T_X11_set x y z) (T_X12_set x y z) N M := by
  have hf := h.t0 (x := 0)
  obtain ⟨np, nb, hI, hU, hX⟩ := id h
  obtain ⟨hC, -⟩ := id hI
  have en : M 2 1 = nI nb := hC.1.2.2.2.1
  have hn : nb ≤ 8 := hC.1.2.2.2.2.2
  have en3 : m_up M 159 0 0 159 7 = nI nb := by rw [mu, if_neg (by omega)]; exact hC.1.2.1.trans en
  have ep : M 2 0 = nI np := hC.1.2.2.1
  have hp : np ≤ 16 := hC.1.2.2.2.2.1
  have ep3 : m_up M 159 0 0 159 6 = nI np := by rw [mu, if_neg (by omega)]; exact hC.1.1.trans ep
  have en4 : ∀ c i, c ≠ 159 → m_up (m_up (m_up (m_up M 79 1 0) 79 2 0) c i z) 159 0 0 159 7 = nI nb := fun c i hc => by
    rw [mu, if_neg (by omega), mu, if_neg (by omega), mu, if_neg (by omega), mu, if_neg (by omega)]; exact hC.1.2.1.trans en
  have ep4 : ∀ c i, c ≠ 159 → m_up (m_up (m_up (m_up M 79 1 0) 79 2 0) c i z) 159 0 0 159 6 = nI np := fun c i hc => by
    rw [mu, if_neg (by omega), mu, if_neg (by omega), mu, if_neg (by omega), mu, if_neg (by omega)]; exact hC.1.1.trans ep
  have S : ∀ b, b < 2 ^ 31 → (0 : Int32) ≤ z ∧ z ≤ nI b → sm z b := fun b hb q => by
    obtain ⟨k, -, hk, ek⟩ := rng (a := 0) (b := b) (by decide) hb q
    exact ⟨k, hk, ek⟩
  by_cases c0 : x = 0
  · subst c0
    by_cases cv : (0 : Int32) ≤ z ∧ z ≤ 99
    · exact ⟨1, m_up (m_up (m_up M 79 1 0) 79 2 0) 8 8 z, _, fun K q => by simpa [T_X11_set, T_X11_canChange, iw_pos cv, T_X4_forget] using q, fun K q => by simpa [T_X12_set, T_X12_canSet, ii_pos cv, T_X12_set_28, T_X12_set_40, T_X12_set_55, T_X12_set_67, T_X12_set_79, T_X12_set_94] using q, set_q hI hX (Or.inl rfl) (fun _ => Or.inr (Or.inr (Or.inl ⟨rfl, rfl, rfl⟩))) (fun _ q => absurd q (by decide)) (fun _ q => absurd q (by decide)) (fun _ _ => ⟨by decide, fun _ => S 99 (by decide) cv, fun q => absurd q (by decide)⟩)⟩
    · exact ⟨0, M, _, fun K q => by simpa [T_X11_set, T_X11_canChange, iw_neg cv] using q, fun K q => by simpa [T_X12_set, T_X12_canSet, ii_neg cv] using q, hf⟩
  by_cases c1 : x = 1
  · subst c1
    by_cases cv : (0 : Int32) ≤ z ∧ z ≤ 9
    · exact ⟨1, m_up (m_up (m_up M 79 1 0) 79 2 0) 8 9 z, _, fun K q => by simpa [T_X11_set, T_X11_canChange, iw_pos cv, T_X4_forget] using q, fun K q => by simpa [T_X12_set, T_X12_canSet, ii_pos cv, T_X12_set_28, T_X12_set_40, T_X12_set_55, T_X12_set_67, T_X12_set_79, T_X12_set_94] using q, set_q hI hX (Or.inl rfl) (fun _ => Or.inr (Or.inr (Or.inr (Or.inl ⟨rfl, rfl, rfl⟩)))) (fun _ q => absurd q (by decide)) (fun _ q => absurd q (by decide)) (fun _ _ => ⟨by decide, fun q => absurd q (by decide), fun _ => S 9 (by decide) cv⟩)⟩
    · exact ⟨0, M, _, fun K q => by simpa [T_X11_set, T_X11_canChange, iw_neg cv] using q, fun K q => by simpa [T_X12_set, T_X12_canSet, ii_neg cv] using q, hf⟩
  by_cases c2 : x = 2
  · subst c2
    by_cases cw : ∃ k, k < nb ∧ y = nI k
    rotate_left
    · exact ⟨0, M, _, fun K q => by simpa [T_X11_set, T_X11_canChange, hb_neg cw hn en] using q, fun K q => by simpa [T_X12_set, T_X12_canSet, T_X12_canSet_37, ib_neg cw hn en3] using q, hf⟩
    obtain ⟨b, hb, rfl⟩ := cw
    have P1 := fun {K : Int32 → Mm → Prop} => hb_pos (M := M) (K := K) rfl hb hn en
    have P2 := fun {K : Int32 → Mm → Prop} => ib_pos (M := m_up M 159 0 0) (K := K) rfl hb hn en3
    have P3 := fun {K : Int32 → Mm → Prop} => ib_pos (M := m_up (m_up (m_up (m_up M 79 1 0) 79 2 0) 12 b z) 159 0 0) (K := K) rfl hb hn (en4 12 b (by decide))
    have v8 : vp_in (nI b) 8 := vp_in_nI (by omega) (by decide)
    have vc : (nI b).toNatClampNeg = b := nI_clamp (by omega)
    obtain ⟨w1, w2⟩ := vp_nat (x := 55 + nI b) (k := 55 + b) (n := 135) (nI_add 55 b) (by omega) (by decide)
    by_cases cv : (0 : Int32) ≤ z ∧ z ≤ 9999
    · exact ⟨1, m_up (m_up (m_up M 79 1 0) 79 2 0) 12 b z, _, fun K q => by simpa [T_X11_set, T_X11_canChange, P1, iw_pos cv, T_X4_forget, v8, vc] using q, fun K q => by simpa [T_X12_set, T_X12_canSet, T_X12_canSet_37, T_X12_canSet_61, P3, ii_pos cv, T_X12_set_28, T_X12_set_40, T_X12_set_55, T_X12_set_67, T_X12_set_79, T_X12_set_94, w1, w2] using q, set_q (c := 12) (i := b) (j := 55 + b) (v := z) hI hX (Or.inr (Or.inr rfl)) (fun _ => Or.inr (Or.inr (Or.inr (Or.inr (Or.inr (Or.inl ⟨rfl, by omega, rfl⟩)))))) (fun _ q => absurd q (by decide)) (fun _ _ => S 9999 (by decide) cv) (fun _ q => absurd q (by decide))⟩
    · exact ⟨0, M, _, fun K q => by simpa [T_X11_set, T_X11_canChange, P1, iw_neg cv] using q, fun K q => by simpa [T_X12_set, T_X12_canSet, T_X12_canSet_37, T_X12_canSet_61, P2, ii_neg cv] using q, hf⟩
  by_cases c3 : x = 3
  · subst c3
    by_cases cw : ∃ k, k < nb ∧ y = nI k
    rotate_left
    · exact ⟨0, M, _, fun K q => by simpa [T_X11_set, T_X11_canChange, hb_neg cw hn en] using q, fun K q => by simpa [T_X12_set, T_X12_canSet, T_X12_canSet_37, ib_neg cw hn en3] using q, hf⟩
    obtain ⟨b, hb, rfl⟩ := cw
    have P1 := fun {K : Int32 → Mm → Prop} => hb_pos (M := M) (K := K) rfl hb hn en
    have P2 := fun {K : Int32 → Mm → Prop} => ib_pos (M := m_up M 159 0 0) (K := K) rfl hb hn en3
    have P3 := fun {K : Int32 → Mm → Prop} => ib_pos (M := m_up (m_up (m_up (m_up M 79 1 0) 79 2 0) 6 b z) 159 0 0) (K := K) rfl hb hn (en4 6 b (by decide))
    have v8 : vp_in (nI b) 8 := vp_in_nI (by omega) (by decide)
    have vc : (nI b).toNatClampNeg = b := nI_clamp (by omega)
    by_cases cv : (0 : Int32) ≤ z ∧ z ≤ 9
    · exact ⟨1, m_up (m_up (m_up M 79 1 0) 79 2 0) 6 b z, _, fun K q => by simpa [T_X11_set, T_X11_canChange, P1, iw_pos cv, T_X4_forget, v8, vc] using q, fun K q => by simpa [T_X12_set, T_X12_canSet, T_X12_canSet_37, T_X12_canSet_61, P3, ii_pos cv, T_X12_set_28, T_X12_set_40, T_X12_set_55, T_X12_set_67, T_X12_set_79, T_X12_set_94, v8, vc] using q, set_c (c := 6) (i := b) (v := z) hI hX (Or.inl ⟨rfl, rfl⟩) (fun _ q => absurd q (by decide))⟩
    · exact ⟨0, M, _, fun K q => by simpa [T_X11_set, T_X11_canChange, P1, iw_neg cv] using q, fun K q => by simpa [T_X12_set, T_X12_canSet, T_X12_canSet_37, T_X12_canSet_61, P2, ii_neg cv] using q, hf⟩
  by_cases c4 : x = 4
  · subst c4
    by_cases cw : ∃ k, k < np ∧ y = nI k
    rotate_left
    · exact ⟨0, M, _, fun K q => by simpa [T_X11_set, T_X11_canChange, hp_neg cw hp ep] using q, fun K q => by simpa [T_X12_set, T_X12_canSet, T_X12_canSet_83, ip_neg cw hp ep3] using q, hf⟩
    obtain ⟨b, hb, rfl⟩ := cw
    have P1 := fun {K : Int32 → Mm → Prop} => hp_pos (M := M) (K := K) rfl hb hp ep
    have P2 := fun {K : Int32 → Mm → Prop} => ip_pos (M := m_up M 159 0 0) (K := K) rfl hb hp ep3
    have P3 := fun {K : Int32 → Mm → Prop} => ip_pos (M := m_up (m_up (m_up (m_up M 79 1 0) 79 2 0) 5 b z) 159 0 0) (K := K) rfl hb hp (ep4 5 b (by decide))
    have v8 : vp_in (nI b) 16 := vp_in_nI (by omega) (by decide)
    have vc : (nI b).toNatClampNeg = b := nI_clamp (by omega)
    by_cases cv : (0 : Int32) ≤ z ∧ z ≤ 9
    · exact ⟨1, m_up (m_up (m_up M 79 1 0) 79 2 0) 5 b z, _, fun K q => by simpa [T_X11_set, T_X11_canChange, P1, iw_pos cv, T_X4_forget, v8, vc] using q, fun K q => by simpa [T_X12_set, T_X12_canSet, T_X12_canSet_83, T_X12_canSet_106, P3, ii_pos cv, T_X12_set_28, T_X12_set_40, T_X12_set_55, T_X12_set_67, T_X12_set_79, T_X12_set_94, v8, vc] using q, set_c (c := 5) (i := b) (v := z) hI hX (Or.inr ⟨rfl, rfl⟩) (fun _ _ => S 9 (by decide) cv)⟩
    · exact ⟨0, M, _, fun K q => by simpa [T_X11_set, T_X11_canChange, P1, iw_neg cv] using q, fun K q => by simpa [T_X12_set, T_X12_canSet, T_X12_canSet_83, T_X12_canSet_106, P2, ii_neg cv] using q, hf⟩
  by_cases c5 : x = 5
  · subst c5
    by_cases cw : ∃ k, k < np ∧ y = nI k
    rotate_left
    · exact ⟨0, M, _, fun K q => by simpa [T_X11_set, T_X11_canChange, hp_neg cw hp ep] using q, fun K q => by simpa [T_X12_set, T_X12_canSet, T_X12_canSet_83, ip_neg cw hp ep3] using q, hf⟩
    obtain ⟨b, hb, rfl⟩ := cw
    have P1 := fun {K : Int32 → Mm → Prop} => hp_pos (M := M) (K := K) rfl hb hp ep
    have P2 := fun {K : Int32 → Mm → Prop} => ip_pos (M := m_up M 159 0 0) (K := K) rfl hb hp ep3
    have P3 := fun {K : Int32 → Mm → Prop} => ip_pos (M := m_up (m_up (m_up (m_up M 79 1 0) 79 2 0) 11 b z) 159 0 0) (K := K) rfl hb hp (ep4 11 b (by decide))
    have v8 : vp_in (nI b) 16 := vp_in_nI (by omega) (by decide)
    have vc : (nI b).toNatClampNeg = b := nI_clamp (by omega)
    obtain ⟨w1, w2⟩ := vp_nat (x := 39 + nI b) (k := 39 + b) (n := 135) (nI_add 39 b) (by omega) (by decide)
    by_cases cv : (0 : Int32) ≤ z ∧ z ≤ 99
    · exact ⟨1, m_up (m_up (m_up M 79 1 0) 79 2 0) 11 b z, _, fun K q => by simpa [T_X11_set, T_X11_canChange, P1, iw_pos cv, T_X4_forget, v8, vc] using q, fun K q => by simpa [T_X12_set, T_X12_canSet, T_X12_canSet_83, T_X12_canSet_106, P3, ii_pos cv, T_X12_set_28, T_X12_set_40, T_X12_set_55, T_X12_set_67, T_X12_set_79, T_X12_set_94, w1, w2] using q, set_q (c := 11) (i := b) (j := 39 + b) (v := z) hI hX (Or.inr (Or.inl rfl)) (fun _ => Or.inr (Or.inr (Or.inr (Or.inr (Or.inl ⟨rfl, by omega, rfl⟩))))) (fun _ _ => ⟨hb, S 99 (by decide) cv⟩) (fun _ q => absurd q (by decide)) (fun _ q => absurd q (by decide))⟩
    · exact ⟨0, M, _, fun K q => by simpa [T_X11_set, T_X11_canChange, P1, iw_neg cv] using q, fun K q => by simpa [T_X12_set, T_X12_canSet, T_X12_canSet_83, T_X12_canSet_106, P2, ii_neg cv] using q, hf⟩
  exact ⟨0, M, _, fun K q => by simpa [T_X11_set, T_X11_canChange, c0, c1, c2, c3, c4, c5] using q, fun K q => by simpa [T_X12_set, T_X12_canSet, c0, c1, c2, c3, c4, c5] using q, hf⟩
