theorem hb_pos {x : Int32} {k n : Nat} {M : Mm} {K : Int32 → Mm → Prop} (ex : x = nI k) (hk : k < n) (hn : n ≤ 8) (e : M 2 1 = nI n) : T_X1_hasBidder 2 x M K ↔ K 1 M := by
  subst ex
  have h1 : ¬ nI k < 0 := nI_pos (by omega)
  have h2 : ¬ nI n ≤ nI k := nI_ge hk (by omega)
  have h3 : ¬ (8 : Int32) ≤ nI k := nI_ge (b := 8) (by omega) (by decide)
  rw [T_X1_hasBidder, e]
  exact ⟨fun h => ((h.2 h1).2 h2).2 h3, fun h => ⟨fun z => absurd z h1, fun _ => ⟨fun z => absurd z h2, fun _ => ⟨fun z => absurd z h3, fun _ => h⟩⟩⟩⟩
theorem hb_neg {x : Int32} {n : Nat} {M : Mm} {K : Int32 → Mm → Prop} (h : ¬ ∃ k, k < n ∧ x = nI k) (hn : n ≤ 8) (e : M 2 1 = nI n) : T_X1_hasBidder 2 x M K ↔ K 0 M := by
  rw [T_X1_hasBidder, e]
  by_cases h1 : x < 0
  · exact ⟨fun g => g.1 h1, fun g => ⟨fun _ => g, fun z => absurd h1 z⟩⟩
  · obtain ⟨k, hk, rfl⟩ := nI_of h1
    have h2 : nI n ≤ nI k := nI_le (Nat.not_lt.mp fun z => h ⟨k, z, rfl⟩) hk
    exact ⟨fun g => (g.2 h1).1 h2, fun g => ⟨fun z => absurd z h1, fun _ => ⟨fun _ => g, fun z => absurd h2 z⟩⟩⟩
theorem hp_pos {x : Int32} {k n : Nat} {M : Mm} {K : Int32 → Mm → Prop} (ex : x = nI k) (hk : k < n) (hn : n ≤ 16) (e : M 2 0 = nI n) : T_X1_hasParcel 2 x M K ↔ K 1 M := by
  subst ex
  have h1 : ¬ nI k < 0 := nI_pos (by omega)
  have h2 : ¬ nI n ≤ nI k := nI_ge hk (by omega)
  have h3 : ¬ (16 : Int32) ≤ nI k := nI_ge (b := 16) (by omega) (by decide)
  rw [T_X1_hasParcel, e]
  exact ⟨fun h => ((h.2 h1).2 h2).2 h3, fun h => ⟨fun z => absurd z h1, fun _ => ⟨fun z => absurd z h2, fun _ => ⟨fun z => absurd z h3, fun _ => h⟩⟩⟩⟩
theorem hp_neg {x : Int32} {n : Nat} {M : Mm} {K : Int32 → Mm → Prop} (h : ¬ ∃ k, k < n ∧ x = nI k) (hn : n ≤ 16) (e : M 2 0 = nI n) : T_X1_hasParcel 2 x M K ↔ K 0 M := by
  rw [T_X1_hasParcel, e]
  by_cases h1 : x < 0
  · exact ⟨fun g => g.1 h1, fun g => ⟨fun _ => g, fun z => absurd h1 z⟩⟩
  · obtain ⟨k, hk, rfl⟩ := nI_of h1
    have h2 : nI n ≤ nI k := nI_le (Nat.not_lt.mp fun z => h ⟨k, z, rfl⟩) hk
    exact ⟨fun g => (g.2 h1).1 h2, fun g => ⟨fun z => absurd z h1, fun _ => ⟨fun _ => g, fun z => absurd h2 z⟩⟩⟩
theorem ib_pos {x : Int32} {k n : Nat} {M : Mm} {K : Int32 → Mm → Prop} (ex : x = nI k) (hk : k < n) (hn : n ≤ 8) (e : M 159 7 = nI n) : T_X12_isBidder x M K ↔ K 1 M := by
  subst ex
  have h1 : ¬ nI k < 0 := nI_pos (by omega)
  have h2 : ¬ nI n ≤ nI k := nI_ge hk (by omega)
  rw [T_X12_isBidder, e]
  exact ⟨fun h => (h.2 h1).2 h2, fun h => ⟨fun z => absurd z h1, fun _ => ⟨fun z => absurd z h2, fun _ => h⟩⟩⟩
theorem ib_neg {x : Int32} {n : Nat} {M : Mm} {K : Int32 → Mm → Prop} (h : ¬ ∃ k, k < n ∧ x = nI k) (hn : n ≤ 8) (e : M 159 7 = nI n) : T_X12_isBidder x M K ↔ K 0 M := by
  rw [T_X12_isBidder, e]
  by_cases h1 : x < 0
  · exact ⟨fun g => g.1 h1, fun g => ⟨fun _ => g, fun z => absurd h1 z⟩⟩
  · obtain ⟨k, hk, rfl⟩ := nI_of h1
    have h2 : nI n ≤ nI k := nI_le (Nat.not_lt.mp fun z => h ⟨k, z, rfl⟩) hk
    exact ⟨fun g => (g.2 h1).1 h2, fun g => ⟨fun z => absurd z h1, fun _ => ⟨fun _ => g, fun z => absurd h2 z⟩⟩⟩
theorem ip_pos {x : Int32} {k n : Nat} {M : Mm} {K : Int32 → Mm → Prop} (ex : x = nI k) (hk : k < n) (hn : n ≤ 16) (e : M 159 6 = nI n) : T_X12_isParcel x M K ↔ K 1 M := by
  subst ex
  have h1 : ¬ nI k < 0 := nI_pos (by omega)
  have h2 : ¬ nI n ≤ nI k := nI_ge hk (by omega)
  rw [T_X12_isParcel, e]
  exact ⟨fun h => (h.2 h1).2 h2, fun h => ⟨fun z => absurd z h1, fun _ => ⟨fun z => absurd z h2, fun _ => h⟩⟩⟩
theorem ip_neg {x : Int32} {n : Nat} {M : Mm} {K : Int32 → Mm → Prop} (h : ¬ ∃ k, k < n ∧ x = nI k) (hn : n ≤ 16) (e : M 159 6 = nI n) : T_X12_isParcel x M K ↔ K 0 M := by
  rw [T_X12_isParcel, e]
  by_cases h1 : x < 0
  · exact ⟨fun g => g.1 h1, fun g => ⟨fun _ => g, fun z => absurd h1 z⟩⟩
  · obtain ⟨k, hk, rfl⟩ := nI_of h1
    have h2 : nI n ≤ nI k := nI_le (Nat.not_lt.mp fun z => h ⟨k, z, rfl⟩) hk
    exact ⟨fun g => (g.2 h1).1 h2, fun g => ⟨fun z => absurd z h1, fun _ => ⟨fun _ => g, fun z => absurd h2 z⟩⟩⟩
/-- the set of those of n that are so -/
def us (p : Nat → Bool) : Nat → Int32
  | 0 => 0
  | n + 1 => if p n then us p n ||| ((1 : Int32) <<< (nI n &&& 31)) else us p n
theorem us_cg {p q : Nat → Bool} : ∀ {n : Nat}, (∀ i, i < n → p i = q i) → us p n = us q n
  | 0, _ => rfl
  | n + 1, h => by
    rw [us, us, us_cg (fun i hi => h i (by omega)), h n (by omega)]
theorem unsold_lp {o : Nat} {M : Mm} {n : Nat} {K : Int32 → Mm → Prop} (hn : n ≤ 16) (hK : K (us (fun i => decide (M (rf o 0) i = -1)) n) M) : ∀ f i, i ≤ n → n - i < f → T_X6_unsold_4 o f (nI n) (us (fun i => decide (M (rf o 0) i = -1)) i) (nI i) M K := by
  intro f
  induction f with
  | zero => intro i _ h; exact absurd h (Nat.not_lt_zero _)
  | succ f ih =>
    intro i hi hf
    rw [T_X6_unsold_4, nI_clamp (by omega)]
    refine ⟨fun q => ?_, fun q => ⟨fun q2 => ?_, fun q2 => ⟨?_, fun q3 y ey => ?_, fun q3 => ?_⟩⟩⟩
    · have e : i = n := Nat.le_antisymm hi ((nI_leI (by omega) (by omega)).mp q)
      rw [e]; exact hK
    · have h1 : 16 ≤ i := (nI_leI (a := 16) (by omega) (by omega)).mp q2
      exact absurd (nI_le (a := n) (b := i) (by omega) (by omega)) q
    · exact vp_in_nI (Nat.not_le.mp fun z => q2 (nI_le (a := 16) z (by omega))) (by decide)
    · have hlt : i < n := Nat.not_le.mp fun z => q (nI_le z (by omega))
      rw [T_X6_unsold_31]
      intro y1 e1
      have := ih (i + 1) (by omega) (by omega)
      rw [us, if_pos (decide_eq_true q3)] at this
      rw [e1, nI_1, ey]
      exact this
    · have hlt : i < n := Nat.not_le.mp fun z => q (nI_le z (by omega))
      rw [T_X6_unsold_31]
      intro y1 e1
      have := ih (i + 1) (by omega) (by omega)
      rw [us, if_neg (by simpa using q3)] at this
      rw [e1, nI_1]
      exact this
theorem unsoldM_lp {M : Mm} {n : Nat} {K : Int32 → Mm → Prop} (hn : n ≤ 16) (en : M 159 6 = nI n) (hK : K (us (fun i => decide (M 160 (7 + i) = 0)) n) M) : ∀ f i, i ≤ n → n - i < f → T_X12_unsoldSet_4 f (us (fun i => decide (M 160 (7 + i) = 0)) i) (nI i) M K := by
  intro f
  induction f with
  | zero => intro i _ h; exact absurd h (Nat.not_lt_zero _)
  | succ f ih =>
    intro i hi hf
    have e7 : (7 : Int32) + nI i = nI (7 + i) := nI_add 7 i
    rw [T_X12_unsoldSet_4, en, e7, nI_clamp (by omega)]
    refine ⟨fun q => ?_, fun q => ⟨?_, fun q3 y ey => ?_, fun q3 => ?_⟩⟩
    · have e : i = n := Nat.le_antisymm hi ((nI_leI (by omega) (by omega)).mp q)
      rw [e]; exact hK
    · exact vp_in_nI (by omega) (by decide)
    · have hlt : i < n := Nat.not_le.mp fun z => q (nI_le z (by omega))
      rw [T_X12_unsoldSet_30]
      intro y1 e1
      have := ih (i + 1) (by omega) (by omega)
      rw [us, if_pos (decide_eq_true q3)] at this
      rw [e1, nI_1, ey]
      exact this
    · have hlt : i < n := Nat.not_le.mp fun z => q (nI_le z (by omega))
      rw [T_X12_unsoldSet_30]
      intro y1 e1
      have := ih (i + 1) (by omega) (by omega)
      rw [us, if_neg (by simpa using q3)] at this
      rw [e1, nI_1]
      exact this
theorem p1_0 (x : Int32) : x + 1 = 0 ↔ x = -1 := by
  constructor
  · intro h
    have : x + 1 + (-1) = 0 + (-1) := by rw [h]
    rw [Int32.add_assoc] at this
    simpa using this
  · rintro rfl; decide
set_option maxHeartbeats 2000000 in
theorem ag_look {N : Nat} {M : Mm} (h : Inv N M) (x : Int32) : Ag (T_X11_look x) (T_X12_look x) N M := by
  have hf := h.t0 (x := 0)
  obtain ⟨np, nb, ⟨hC, ⟨hQ, hW⟩, hB, hL, hP, hT⟩, hU, hX⟩ := id h
  have a0 : M 159 6 = M 2 0 := hC.1.1
  have a1 : M 159 7 = M 2 1 := hC.1.2.1
  obtain ⟨⟨b0, b1, b2, b3, b4, b5, b6⟩, q2, -⟩ := id hQ
  have b0 : M 160 0 = M 8 10 := b0
  have b1 : M 160 1 = M 8 6 := b1
  have b2 : M 160 2 = M 8 12 := b2
  have b3 : M 160 3 = M 8 7 := b3
  have b4 : M 160 4 = M 8 8 := b4
  have b5 : M 160 5 = M 8 9 := b5
  have b6 : M 160 6 = M 8 11 := b6
  have l1 : M 171 0 = M 16 7 := by
    obtain ⟨nl, nz, -, -, e1, e2, -⟩ := hL
    exact e1.trans e2.symm
  have p1 : M 159 37 = M 23 6 := hP.1.1
  have p2 : M 159 41 = M 23 7 := hP.1.2.1
  have p3 : M 159 39 = M 23 8 := hP.1.2.2.1
  have u1 : M 159 3 = M 79 2 := by
    obtain ⟨f, c, -, -, -, e1, e2, -⟩ := hU
    exact e2.trans e1.symm
  by_cases c0 : x = 0
  · subst c0; exact ⟨M 2 0, M, _, fun K k => by simpa [T_X11_look] using k, fun K k => by simpa [T_X12_look, mu, a0] using k, hf⟩
  by_cases c1 : x = 1
  · subst c1; exact ⟨M 2 1, M, _, fun K k => by simpa [T_X11_look] using k, fun K k => by simpa [T_X12_look, mu, a1] using k, hf⟩
  by_cases c2 : x = 2
  · subst c2; exact ⟨M 8 7, M, _, fun K k => by simpa [T_X11_look] using k, fun K k => by simpa [T_X12_look, mu, b3] using k, hf⟩
  by_cases c3 : x = 3
  · subst c3; exact ⟨M 8 8, M, _, fun K k => by simpa [T_X11_look] using k, fun K k => by simpa [T_X12_look, mu, b4] using k, hf⟩
  by_cases c4 : x = 4
  · subst c4; exact ⟨M 8 9, M, _, fun K k => by simpa [T_X11_look] using k, fun K k => by simpa [T_X12_look, mu, b5] using k, hf⟩
  by_cases c5 : x = 5
  · subst c5; exact ⟨M 8 10, M, _, fun K k => by simpa [T_X11_look] using k, fun K k => by simpa [T_X12_look, mu, b0] using k, hf⟩
  by_cases c6 : x = 6
  · subst c6; exact ⟨M 8 11, M, _, fun K k => by simpa [T_X11_look] using k, fun K k => by simpa [T_X12_look, mu, b6] using k, hf⟩
  by_cases c7 : x = 7
  · subst c7
    have en : M 2 0 = nI np := hC.1.2.2.1
    have hn : np ≤ 16 := hC.1.2.2.2.2.1
    have e9 : rf 8 0 = 9 := by decide
    refine ⟨us (fun i => decide (M 9 i = -1)) np, M, m_up M 159 0 0, fun K k => ?_, fun K k => ?_, hf⟩
    · have := unsold_lp (o := 8) (M := M) (n := np) (K := K) hn (by rw [e9]; exact k) 5000 0 (by omega) (by omega)
      simp [T_X11_look, T_X6_unsold, en]
      exact this
    · have := unsoldM_lp (M := m_up M 159 0 0) (n := np) (K := K) hn (by simpa [mu] using a0.trans en) (by
        rw [us_cg (q := fun i => decide (M 9 i = -1)) (fun i hi => by
          have := (q2 i (by omega)).1
          have e : M 160 (7 + i) = M 9 i + 1 := this
          simp [mu, e, p1_0])]
        exact k) 5000 0 (by omega) (by omega)
      simp [T_X12_look, T_X12_unsoldSet]
      exact this
  by_cases c8 : x = 8
  · subst c8; exact ⟨M 8 12, M, _, fun K k => by simpa [T_X11_look] using k, fun K k => by simpa [T_X12_look, mu, b2] using k, hf⟩
  by_cases c9 : x = 9
  · subst c9; exact ⟨M 8 6, M, _, fun K k => by simpa [T_X11_look] using k, fun K k => by simpa [T_X12_look, mu, b1] using k, hf⟩
  by_cases c10 : x = 10
  · subst c10; exact ⟨M 16 7, M, _, fun K k => by simpa [T_X11_look, T_X11_lookAtTexts] using k, fun K k => by simpa [T_X12_look, mu, l1] using k, hf⟩
  by_cases c11 : x = 11
  · subst c11; exact ⟨M 23 6, M, _, fun K k => by simpa [T_X11_look, T_X11_lookAtTexts] using k, fun K k => by simpa [T_X12_look, mu, p1] using k, hf⟩
  by_cases c12 : x = 12
  · subst c12; exact ⟨M 23 8, M, _, fun K k => by simpa [T_X11_look, T_X11_lookAtTexts] using k, fun K k => by simpa [T_X12_look, mu, p3] using k, hf⟩
  by_cases c13 : x = 13
  · subst c13; exact ⟨M 23 7, M, _, fun K k => by simpa [T_X11_look, T_X11_lookAtTexts] using k, fun K k => by simpa [T_X12_look, mu, p2] using k, hf⟩
  by_cases c14 : x = 14
  · subst c14; exact ⟨M 79 2, M, _, fun K k => by simpa [T_X11_look, T_X11_lookAtTexts] using k, fun K k => by simpa [T_X12_look, mu, u1] using k, hf⟩
  exact ⟨-1, M, _, fun K k => by simpa [T_X11_look, T_X11_lookAtTexts, c0, c1, c2, c3, c4, c5, c6, c7, c8, c9, c10, c11, c12, c13, c14] using k, fun K k => by simpa [T_X12_look, c0, c1, c2, c3, c4, c5, c6, c7, c8, c9, c10, c11, c12, c13, c14] using k, hf⟩
