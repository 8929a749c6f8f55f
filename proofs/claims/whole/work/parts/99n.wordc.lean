/-! TEXT: the words_v -/
def wst (w : Nat) : Nat := ([0, 5, 10, 15, 20, 23, 27, 31, 38, 45, 51, 56, 62, 68, 74, 80, 86, 90, 94, 98, 105, 113, 116, 121, 128, 133, 137, 143, 147] : List Nat).getD w 0
def wen (w : Nat) : Nat := ([4, 9, 14, 19, 22, 26, 30, 37, 44, 50, 55, 61, 67, 73, 79, 85, 89, 93, 97, 104, 112, 115, 120, 127, 132, 136, 142, 146] : List Nat).getD w 0
def kwn (i : Nat) : Nat := (wd_t (i + 1)).toNatClampNeg
theorem kwn_v : ∀ i, i < 147 → wd_t (i + 1) = nI (kwn i) ∧ kwn i < 128 := by decide +kernel
theorem wst_v : ∀ w, w < 28 → wst w < wen w ∧ wen w < 147 ∧ kwn (wen w) = 32 ∧ wst (w + 1) = wen w + 1 ∧ (w = 27 → wen w = 146) := by decide +kernel
theorem kwn_b : ∀ t, t < 147 → kwn t = 32 → ∃ w, w < 28 ∧ t = wen w := by decide +kernel
theorem wen_b : ∀ w, w < 28 → ∀ u, u < 28 → ¬ (wst w ≤ wen u ∧ wen u < wen w) := by decide +kernel
theorem wst_n (w : Nat) (hw : w < 28) (t : Nat) (ht : t < 147) (h1 : wst w ≤ t) (h2 : t < wen w) : ¬ kwn t = 32 := fun z => by
  obtain ⟨u, hu, e⟩ := kwn_b t ht z
  exact wen_b w hw u hu ⟨by omega, by omega⟩
/-- word w stands from a to b -/
def wm (ch : Nat → Nat) (a b w : Nat) : Prop := a + (wen w - wst w) = b ∧ ∀ t, t < wen w - wst w → ch (a + t) = kwn (wst w + t)
def wpr (ch : Nat → Nat) (a b w o : Nat) : Prop := a + o ≤ b ∧ ∀ t, t < o → ch (a + t) = kwn (wst w + t)
set_option maxHeartbeats 1000000 in
theorem kw_lp {ch : Nat → Nat} {a b : Nat} {M : Mm} {K : Int32 → Mm → Prop} (hb : b ≤ 400) (hab : a ≤ b) (hch : ∀ i, i < b → M 133 i = nI (ch i) ∧ ch i ≤ 255) (k1 : ∀ w, w < 28 → wm ch a b w → (∀ w', w' < w → ¬ wm ch a b w') → K (256 + nI w) M) (k2 : (∀ w, w < 28 → ¬ wm ch a b w) → K 1 M) : ∀ m x6 f w x5, x6 + m = 147 → m < f → (w = 28 ∧ x6 = 147 ∨ w < 28 ∧ wst w ≤ x6 ∧ x6 ≤ wen w) → (∀ w', w' < w → ¬ wm ch a b w') → ((x5 = 0 ∧ ¬ wpr ch a b w (x6 - wst w)) ∨ (x5 = 1 ∧ wpr ch a b w (x6 - wst w))) → T_X7_keyword_11 f (nI a) (nI b) (nI w) (nI (a + (x6 - wst w))) x5 (nI x6) M K := by
  intro m
  induction m with
  | zero =>
    intro x6 f w x5 hm hf hw hn hp
    obtain ⟨f, rfl⟩ : ∃ g, f = g + 1 := ⟨f - 1, by omega⟩
    rw [T_X7_keyword_11]
    refine kw_len ?_
    have e : x6 = 147 := by omega
    subst e
    refine pk_le 147 147 (fun _ => k2 (fun w' hw' => hn w' ?_)) (fun z => absurd z (by omega))
    rcases hw with z | z
    · omega
    · have := (wst_v w z.1).2.1
      omega
  | succ m ih =>
    intro x6 f w x5 hm hf hw hn hp
    obtain ⟨f, rfl⟩ : ∃ g, f = g + 1 := ⟨f - 1, by omega⟩
    have hw' : w < 28 ∧ wst w ≤ x6 ∧ x6 ≤ wen w := by omega
    obtain ⟨w1, w2, w3⟩ := hw'
    obtain ⟨s1, s2, s3, s4, s5⟩ := wst_v w w1
    obtain ⟨v1, v2⟩ := kwn_v x6 (by omega)
    rw [T_X7_keyword_11]
    refine kw_len (pk_le 147 x6 (fun z => absurd z (by omega)) (fun _ => kw_at (by omega) ?_))
    rw [v1]
    have q32 : nI (kwn x6) = (32 : Int32) ↔ kwn x6 = 32 := nI_eq (b := 32) (by omega) (by decide)
    rw [q32]
    have nxt_v : ¬ wm ch a b w → x6 = wen w → T_X7_keyword_90 (fun x1 x2 x3 x4 x5 x6 M => T_X7_keyword_11 f x1 x2 x3 x4 x5 x6 M K) (nI a) (nI b) (nI w) (nI x6) M K := by
      intro hnw he
      rw [T_X7_keyword_90]
      intro y2 g2
      rw [T_X7_keyword_99]
      intro y1 g1
      rw [g1, g2, nI_1, nI_1]
      have hnx : w + 1 = 28 ∧ x6 + 1 = 147 ∨ w + 1 < 28 ∧ wst (w + 1) ≤ x6 + 1 ∧ x6 + 1 ≤ wen (w + 1) := by
        by_cases c : w = 27
        · exact Or.inl ⟨by omega, by have := s5 c; omega⟩
        · exact Or.inr ⟨by omega, by omega, by have := (wst_v (w + 1) (by omega)).1; omega⟩
      have := ih (x6 + 1) f (w + 1) 1 (by omega) (by omega) hnx (fun w' h' => by
        by_cases c : w' = w
        · rw [c]; exact hnw
        · exact hn w' (by omega)) (Or.inr ⟨rfl, by rw [show x6 + 1 - wst (w + 1) = 0 by omega]; exact ⟨by omega, fun t ht => absurd ht (by omega)⟩⟩)
      rw [show x6 + 1 - wst (w + 1) = 0 by omega, Nat.add_zero] at this
      exact this
    have go : ∀ s0 : Int32, x6 < wen w → ((s0 = 0 ∧ ¬ wpr ch a b w (x6 + 1 - wst w)) ∨ (s0 = 1 ∧ wpr ch a b w (x6 + 1 - wst w))) → T_X7_keyword_65 (fun x1 x2 x3 x4 x5 x6 M => T_X7_keyword_11 f x1 x2 x3 x4 x5 x6 M K) (nI a) (nI b) (nI w) (nI (a + (x6 - wst w))) (nI x6) s0 M K := by
      intro s0 he hs
      rw [T_X7_keyword_65]
      intro y3 g3
      rw [T_X7_keyword_99]
      intro y1 g1
      rw [g1, g3, nI_1, nI_1]
      have := ih (x6 + 1) f w s0 (by omega) (by omega) (Or.inr ⟨w1, by omega, by omega⟩) hn hs
      rw [show a + (x6 + 1 - wst w) = a + (x6 - wst w) + 1 by omega] at this
      exact this
    have mono : wpr ch a b w (x6 + 1 - wst w) → wpr ch a b w (x6 - wst w) := fun z => ⟨by have := z.1; omega, fun t ht => z.2 t (by omega)⟩
    refine ⟨fun c32 => ?_, fun c32 => ?_⟩
    · have he : x6 = wen w := by
        by_cases c : x6 = wen w
        · exact c
        · exact absurd c32 (wst_n w w1 x6 (by omega) w2 (by omega))
      rcases hp with ⟨z1, z2⟩ | ⟨z1, z2⟩
      · refine ⟨fun _ => nxt_v (fun z => z2 ⟨by have := z.1; omega, fun t ht => z.2 t (by omega)⟩) he, fun z => absurd z1 z⟩
      · refine ⟨fun z => absurd (z1.symm.trans z) (by decide), fun _ => ?_⟩
        have qe : nI (a + (x6 - wst w)) = nI b ↔ a + (x6 - wst w) = b := nI_eq (by have := z2.1; omega) (by omega)
        rw [qe]
        refine ⟨fun z => k1 w w1 ⟨by omega, fun t ht => z2.2 t (by omega)⟩ hn, fun z => nxt_v (fun y => z (by have := y.1; omega)) he⟩
    · have he : x6 < wen w := by
        by_cases c : x6 = wen w
        · exact absurd (by rw [c]; exact s3) c32
        · omega
      rcases hp with ⟨z1, z2⟩ | ⟨z1, z2⟩
      · refine ⟨fun _ => ?_, fun z => absurd z1 z⟩
        rw [T_X7_keyword_64]
        exact go 0 he (Or.inl ⟨rfl, fun z => z2 (mono z)⟩)
      · refine ⟨fun z => absurd (z1.symm.trans z) (by decide), fun _ => ?_⟩
        have hl := z2.1
        refine pk_le b (a + (x6 - wst w)) (fun z => ?_) (fun z => ⟨vp_in_nI (by omega) (by decide), ?_⟩)
        · rw [T_X7_keyword_64]
          exact go 0 he (Or.inl ⟨rfl, fun y => absurd y.1 (by omega)⟩)
        · obtain ⟨h1, h2⟩ := hch (a + (x6 - wst w)) (by omega)
          rw [nI_clamp (n := a + (x6 - wst w)) (by omega), h1]
          have qc : nI (ch (a + (x6 - wst w))) = nI (kwn x6) ↔ ch (a + (x6 - wst w)) = kwn x6 := nI_eq (by omega) (by omega)
          rw [qc]
          have last : wpr ch a b w (x6 + 1 - wst w) ↔ ch (a + (x6 - wst w)) = kwn x6 := by
            constructor
            · intro y
              have := y.2 (x6 - wst w) (by omega)
              rw [show wst w + (x6 - wst w) = x6 by omega] at this
              exact this
            · intro y
              refine ⟨by omega, fun t ht => ?_⟩
              by_cases c : t = x6 - wst w
              · rw [c, show wst w + (x6 - wst w) = x6 by omega]; exact y
              · exact z2.2 t (by omega)
          refine ⟨fun y => go 1 he (Or.inr ⟨rfl, last.mpr y⟩), fun y => ?_⟩
          rw [T_X7_keyword_64]
          exact go 0 he (Or.inl ⟨rfl, fun u => y (last.mp u)⟩)
theorem kwc_ok {ch : Nat → Nat} {a b : Nat} {M : Mm} {K : Int32 → Mm → Prop} (hb : b ≤ 400) (hab : a ≤ b) (hch : ∀ i, i < b → M 133 i = nI (ch i) ∧ ch i ≤ 255) (k1 : ∀ w, w < 28 → wm ch a b w → (∀ w', w' < w → ¬ wm ch a b w') → K (256 + nI w) M) (k2 : (∀ w, w < 28 → ¬ wm ch a b w) → K 1 M) : T_X7_keyword (nI a) (nI b) M K := by
  rw [T_X7_keyword]
  exact kw_lp hb hab hch k1 k2 147 0 5000 0 1 (by omega) (by omega) (Or.inr ⟨by omega, by decide, by decide⟩) (fun w' h => absurd h (by omega)) (Or.inr ⟨rfl, by omega, fun t ht => absurd ht (by show ¬ t < 0 - wst 0; omega)⟩)
