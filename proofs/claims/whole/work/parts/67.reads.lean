set_option maxHeartbeats 2000000 in
/-- all but the tape's length stays -/
theorem Inv.tape {N : Nat} {M : Mm} (h : Inv N M) {k : Nat} (hk : k ≤ 400) : Inv N (m_up (m_up (m_up M 132 1 (nI k)) 159 0 0) 159 15 (nI k)) := by
  obtain ⟨np, nb, hI, hU, hX⟩ := h
  have R : ∀ a, a ≠ 132 → a ≠ 159 → m_up (m_up (m_up M 132 1 (nI k)) 159 0 0) 159 15 (nI k) a = M a := fun a h1 h2 => by rw [m_up_ne h2, m_up_ne h2, m_up_ne h1]
  have F : ∀ j, j ≠ 0 → j ≠ 15 → m_up (m_up (m_up M 132 1 (nI k)) 159 0 0) 159 15 (nI k) 159 j = M 159 j := fun j h1 h2 => by repeat rw [mu, if_neg (by omega)]
  refine ⟨np, nb, ?_, hU.cg (fun a h1 h2 => R a (by omega) (by omega)) (R _ (by omega) (by omega)) (F 3 (by omega) (by omega)), ?_⟩
  · have ev : vn (m_up (m_up (m_up M 132 1 (nI k)) 159 0 0) 159 15 (nI k)) = vn M := by
      funext g i
      unfold vn
      split
      case h_2 => split <;> exact F _ (by omega) (by omega)
      all_goals exact congrFun (R _ (by omega) (by omega)) _
    rw [ev]
    exact hI.cg (fun d h1 h2 h3 => R _ (by omega) (by omega))
  · obtain ⟨-, h2, h3, h4, h5, h6, h7, ⟨h8, h9⟩, h10⟩ := hX
    refine ⟨⟨k, hk, by simp [mu], by simp [mu]⟩, fun i hi => ?_, ?_, ?_, (F 5 (by omega) (by omega)).trans h5, ?_, ?_, ⟨?_, ?_⟩, fun q => ?_⟩
    · rw [R 169 (by omega) (by omega), R 170 (by omega) (by omega), R 133 (by omega) (by omega)]; exact h2 i hi
    · rw [F 35 (by omega) (by omega), R 0 (by omega) (by omega)]; exact h3
    · rw [F 36 (by omega) (by omega), R 0 (by omega) (by omega)]; exact h4
    · rw [R 130 (by omega) (by omega)]; exact h6
    · rw [R 131 (by omega) (by omega)]; exact h7
    · rw [F 69 (by omega) (by omega), R 0 (by omega) (by omega)]; exact h8
    · rw [R 0 (by omega) (by omega)]; exact h9
    · rw [R 0 (by omega) (by omega)] at q
      obtain ⟨a, b, hab⟩ := h10 q
      refine ⟨a, b, ?_⟩
      have ev : vi (m_up (m_up (m_up M 132 1 (nI k)) 159 0 0) 159 15 (nI k)) = vi M := by
        unfold vi
        rw [R 199 (by omega) (by omega)]
      rw [ev]
      exact hab.cg (fun d h1 h2 h3 => R _ (by omega) (by omega))
theorem ag_end {N : Nat} {M : Mm} (h : Inv N M) (x : Int32) : Ag (T_X11_end x) (T_X12_end x) N M := by
  obtain ⟨np, nb, -, -, ⟨⟨k, hk, e1, e2⟩, -⟩⟩ := id h
  by_cases c : (0 : Int32) ≤ x ∧ x ≤ nI k
  · obtain ⟨j, -, hj, rfl⟩ := rng (a := 0) (b := k) (by decide) (by omega) c
    have c1 : ¬ nI j < 0 := Int32.not_lt.mpr c.1
    exact ⟨1, m_up M 132 1 (nI j), _, fun K q => by simpa [T_X11_end, e1, c.1, c.2, c1] using q, fun K q => by simpa [T_X12_end, mu, e2, ii_pos c] using q, h.tape (k := j) (by omega)⟩
  · refine ⟨0, M, m_up M 159 0 0, fun K q => ?_, fun K q => by simpa [T_X12_end, mu, e2, ii_neg c] using q, h.t0⟩
    rw [T_X11_end, e1]
    exact ⟨fun _ => q, fun z => ⟨fun w => absurd ⟨Int32.not_lt.mp z, w⟩ c, fun _ => q⟩⟩
theorem vp_nat {x : Int32} {k n : Nat} (e : x = nI k) (h : k < n) (hn : n < 2 ^ 31) : vp_in x n ∧ x.toNatClampNeg = k := by
  subst e
  exact ⟨vp_in_nI h hn, nI_clamp (by omega)⟩
set_option maxHeartbeats 2000000 in
theorem ag_book {N : Nat} {M : Mm} (h : Inv N M) (x y : Int32) : Ag (T_X11_book x y) (T_X12_book x y) N M := by
  obtain ⟨np, nb, ⟨-, ⟨hQ, hW⟩, hB, -⟩, -, -⟩ := id h
  obtain ⟨k, hk, e1⟩ := hW.1.2.1
  have e1 : M 8 12 = nI k := e1
  have e2 : M 160 2 = nI k := hQ.1.2.2.1.trans e1
  by_cases c : (0 : Int32) ≤ x ∧ x ≤ nI k - 1
  · by_cases c2 : (0 : Int32) ≤ y ∧ y ≤ 3
    · have hk0 : 1 ≤ k := by
        rcases Nat.eq_zero_or_pos k with rfl | g
        · exact absurd (Int32.le_trans c.1 c.2) (by decide)
        · exact g
      have ek : nI k - 1 = nI (k - 1) := by
        obtain ⟨k', rfl⟩ : ∃ k', k = k' + 1 := ⟨k - 1, by omega⟩
        exact nI_pred k'
      rw [ek] at c
      obtain ⟨i, -, hi, rfl⟩ := rng (a := 0) (b := k - 1) (by decide) (by omega) c
      obtain ⟨j, -, hj, rfl⟩ := rng (a := 0) (b := 3) (by decide) (by decide) c2
      have w1 : ¬ nI i < 0 := nI_pos (by omega)
      have w2 : ¬ nI k ≤ nI i := nI_ge (by omega) (by omega)
      have w3 : ¬ (150 : Int32) ≤ nI i := nI_ge (b := 150) (by omega) (by omega)
      have w4 : ¬ nI j < 0 := nI_pos (by omega)
      have w5 : nI j < (4 : Int32) := nI_lt (b := 4) (by omega) (by omega)
      obtain ⟨v1, v2⟩ := vp_nat (x := nI i * 4 + nI j) (k := i * 4 + j) (n := 600) (by rw [← nI_add, ← pk_mul]; rfl) (by omega) (by omega)
      obtain ⟨v3, v4⟩ := vp_nat (x := 4 * nI i + nI j) (k := 4 * i + j) (n := 600) (by rw [← nI_add, ← pk_mul]; rfl) (by omega) (by omega)
      have e3 : M 168 (4 * i + j) = M 15 (i * 4 + j) := by
        rw [show i * 4 + j = 4 * i + j by omega]
        exact hB _ (by omega)
      refine ⟨M 15 (i * 4 + j), M, m_up M 159 0 0, fun K q => ?_, fun K q => ?_, h.t0⟩
      · rw [T_X11_book, e1, v2]
        exact ⟨fun z => absurd z w1, fun _ => ⟨fun z => absurd z w2, fun _ => ⟨fun z => absurd z w3, fun _ => ⟨fun z => absurd z w4, fun _ => ⟨fun _ => ⟨v1, q⟩, fun z => absurd w5 z⟩⟩⟩⟩⟩
      · have cc : (0 : Int32) ≤ nI i ∧ nI i ≤ nI k - 1 := by rw [ek]; exact c
        simp only [T_X12_book, forall_eq, mu, e2]
        have : ¬ ((160 : Nat) = 159 ∧ (2 : Nat) = 0) := by decide
        rw [if_neg this, ii_pos cc]
        refine ⟨fun z => absurd z (by decide), fun _ => ?_⟩
        rw [ii_pos c2]
        refine ⟨fun z => absurd z (by decide), fun _ => ⟨v3, ?_⟩⟩
        rw [v4, mu, if_neg (by omega), e3]
        exact q
    · refine ⟨-1, M, m_up M 159 0 0, fun K q => ?_, fun K q => ?_, h.t0⟩
      · rw [T_X11_book]
        refine ⟨fun _ => q, fun _ => ⟨fun _ => q, fun _ => ⟨fun _ => q, fun _ => ⟨fun _ => q, fun z => ⟨fun w => absurd ⟨Int32.not_lt.mp z, ?_⟩ c2, fun _ => q⟩⟩⟩⟩⟩
        have hy : ¬ y < 0 := z
        obtain ⟨j, hj, rfl⟩ := nI_of hy
        have := (nI_ltI (b := 4) hj (by decide)).mp w
        exact nI_le (b := 3) (by omega) (by decide)
      · simp only [T_X12_book, forall_eq, mu, e2]
        rw [if_neg (by decide), ii_pos c]
        refine ⟨fun z => absurd z (by decide), fun _ => ?_⟩
        rw [ii_neg c2]
        exact ⟨fun _ => q, fun z => absurd rfl z⟩
  · refine ⟨-1, M, m_up M 159 0 0, fun K q => ?_, fun K q => ?_, h.t0⟩
    · rw [T_X11_book, e1]
      refine ⟨fun _ => q, fun z => ⟨fun _ => q, fun z2 => absurd ⟨Int32.not_lt.mp z, ?_⟩ c⟩⟩
      have hx : ¬ x < 0 := z
      obtain ⟨i, hi, rfl⟩ := nI_of hx
      have hik : i < k := Nat.not_le.mp fun w => z2 (nI_le w (by omega))
      obtain ⟨k', rfl⟩ : ∃ k', k = k' + 1 := ⟨k - 1, by omega⟩
      rw [nI_pred]
      exact nI_le (by omega) (by omega)
    · simp only [T_X12_book, forall_eq, mu, e2]
      rw [if_neg (by decide), ii_neg c]
      exact ⟨fun _ => q, fun z => absurd rfl z⟩
