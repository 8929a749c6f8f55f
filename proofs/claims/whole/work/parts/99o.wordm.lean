/-! TEXT: the model's words_v -/
theorem w94_lp {w : Nat} {M : Mm} {x1 x2 x3 : Int32} {B5 : Int32 → Int32 → Int32 → Int32 → Mm → Prop} {K : Int32 → Mm → Prop} (hw : w < 28) (h170 : ∀ i, i < 148 → M 170 i = wd_t i) (hB : B5 x1 x2 x3 (nI (wst (w + 1))) M) : ∀ m j f, j + m = wen w → wst w ≤ j → m < f → T_X12_wordAt_94 B5 f x1 x2 x3 (nI (j + 1)) M K := by
  obtain ⟨s1, s2, s3, s4, s5⟩ := wst_v w hw
  intro m
  induction m with
  | zero =>
    intro j f hj h1 hf
    obtain ⟨f, rfl⟩ : ∃ g, f = g + 1 := ⟨f - 1, by omega⟩
    have e : j = wen w := by omega
    subst e
    have v1 := (kwn_v (wen w) (by omega)).1
    rw [s3] at v1
    rw [T_X12_wordAt_94, nI_clamp (n := wen w + 1) (by omega), h170 _ (by omega), v1]
    refine ⟨vp_in_nI (by omega) (by decide), fun _ => ?_, fun z => absurd rfl z⟩
    rw [← s4]
    exact hB
  | succ m ih =>
    intro j f hj h1 hf
    obtain ⟨f, rfl⟩ : ∃ g, f = g + 1 := ⟨f - 1, by omega⟩
    obtain ⟨v1, v2⟩ := kwn_v j (by omega)
    have q32 : nI (kwn j) = (32 : Int32) ↔ kwn j = 32 := nI_eq (b := 32) (by omega) (by decide)
    rw [T_X12_wordAt_94, nI_clamp (n := j + 1) (by omega), h170 _ (by omega), v1, q32]
    refine ⟨vp_in_nI (by omega) (by decide), fun z => absurd z (wst_n w hw j (by omega) h1 (by omega)), fun _ y3 g3 => ?_⟩
    rw [g3, nI_1]
    exact ih (j + 1) f (by omega) (by omega) (by omega)
theorem w88_ok {w : Nat} {M : Mm} {x1 x2 x3 : Int32} {B5 : Int32 → Int32 → Int32 → Int32 → Mm → Prop} {K : Int32 → Mm → Prop} (hw : w < 28) (h170 : ∀ i, i < 148 → M 170 i = wd_t i) (hB : B5 x1 x2 x3 (nI (wst (w + 1))) M) : T_X12_wordAt_88 B5 x1 x2 x3 (nI (wst w)) M K := by
  obtain ⟨s1, s2, s3, s4, s5⟩ := wst_v w hw
  rw [T_X12_wordAt_88]
  intro y4 g4
  rw [g4, nI_1]
  exact w94_lp hw h170 hB (wen w - wst w) (wst w) 5000 (by omega) (by omega) (by omega)
theorem w61_ok {ch : Nat → Nat} {a b w i : Nat} {M : Mm} {x3 : Int32} {B5 : Int32 → Int32 → Int32 → Int32 → Mm → Prop} {K : Int32 → Mm → Prop} (hw : w < 28) (hb : b ≤ 400) (hi : a + i ≤ b) (hL : i ≤ wen w - wst w) (hp : ∀ t, t < i → ch (a + t) = kwn (wst w + t)) (hx : a + i = b ∨ ¬ ch (a + i) = kwn (wst w + i)) (h170 : ∀ i, i < 148 → M 170 i = wd_t i) (kY : wm ch a b w → K x3 M) (kN : ¬ wm ch a b w → T_X12_wordAt_88 B5 (nI a) (nI b) x3 (nI (wst w)) M K) : T_X12_wordAt_61 B5 (nI a) (nI b) x3 (nI (wst w)) (nI i) M K := by
  obtain ⟨s1, s2, s3, s4, s5⟩ := wst_v w hw
  obtain ⟨v1, v2⟩ := kwn_v (wst w + i) (by omega)
  have ea : nI (wst w) + 1 + nI i = nI (wst w + i + 1) := by rw [nI_1, nI_add]; congr 1; omega
  have q32 : nI (kwn (wst w + i)) = (32 : Int32) ↔ kwn (wst w + i) = 32 := nI_eq (b := 32) (by omega) (by decide)
  have qe : nI (a + i) = nI b ↔ a + i = b := nI_eq (by omega) (by omega)
  rw [T_X12_wordAt_61, ea, nI_add, nI_clamp (n := wst w + i + 1) (by omega), h170 _ (by omega), v1, q32, qe]
  refine ⟨fun e => ⟨vp_in_nI (by omega) (by decide), fun z => kY ?_, fun z => kN (fun y => ?_)⟩, fun e => kN (fun y => ?_)⟩
  · have hh : ¬ i < wen w - wst w := fun h => wst_n w hw (wst w + i) (by omega) (by omega) (by omega) z
    exact ⟨by omega, fun t ht => hp t (by omega)⟩
  · have y1 := y.1
    have ei : wst w + i = wen w := by omega
    rw [ei] at z
    exact z s3
  · have y1 := y.1
    rcases hx with h | h
    · exact e h
    · exact h (y.2 i (by omega))
theorem w20_lp {ch : Nat → Nat} {a b w : Nat} {M : Mm} {x3 : Int32} {B5 : Int32 → Int32 → Int32 → Int32 → Mm → Prop} {K : Int32 → Mm → Prop} (hw : w < 28) (hb : b ≤ 400) (hl : ∀ j, a ≤ j → j < b → isLn (ch j)) (hch : ∀ i, i < b → M 169 i = nI (ch i) ∧ ch i ≤ 255) (h170 : ∀ i, i < 148 → M 170 i = wd_t i) (kY : wm ch a b w → K x3 M) (kN : ¬ wm ch a b w → T_X12_wordAt_88 B5 (nI a) (nI b) x3 (nI (wst w)) M K) : ∀ m i f, i + m = wen w - wst w → a + i ≤ b → (∀ t, t < i → ch (a + t) = kwn (wst w + t)) → m < f → T_X12_wordAt_20 B5 f (nI a) (nI b) x3 (nI (wst w)) (nI i) M K := by
  obtain ⟨s1, s2, s3, s4, s5⟩ := wst_v w hw
  intro m
  induction m with
  | zero =>
    intro i f hi hab hp hf
    obtain ⟨f, rfl⟩ : ∃ g, f = g + 1 := ⟨f - 1, by omega⟩
    have ea : nI (wst w) + 1 + nI i = nI (wst w + i + 1) := by rw [nI_1, nI_add]; congr 1; omega
    obtain ⟨v1, v2⟩ := kwn_v (wst w + i) (by omega)
    rw [T_X12_wordAt_20, ea, nI_add]
    refine pk_le b (a + i) (fun z => w61_ok hw hb hab (by omega) hp (Or.inl (by omega)) h170 kY kN) (fun z => ⟨vp_in_nI (by omega) (by decide), vp_in_nI (by omega) (by decide), ?_⟩)
    obtain ⟨h1, h2⟩ := hch (a + i) (by omega)
    have hl1 := hl (a + i) (by omega) (by omega)
    have ne : ¬ ch (a + i) = kwn (wst w + i) := fun y => by
      rw [y, show wst w + i = wen w by omega, s3] at hl1
      unfold isLn at hl1
      omega
    rw [nI_clamp (n := wst w + i + 1) (by omega), h170 _ (by omega), v1, nI_clamp (n := a + i) (by omega), h1]
    have qc : nI (kwn (wst w + i)) = nI (ch (a + i)) ↔ kwn (wst w + i) = ch (a + i) := nI_eq (by omega) (by omega)
    rw [qc]
    exact ⟨fun y => absurd y.symm ne, fun _ => w61_ok hw hb hab (by omega) hp (Or.inr ne) h170 kY kN⟩
  | succ m ih =>
    intro i f hi hab hp hf
    obtain ⟨f, rfl⟩ : ∃ g, f = g + 1 := ⟨f - 1, by omega⟩
    have ea : nI (wst w) + 1 + nI i = nI (wst w + i + 1) := by rw [nI_1, nI_add]; congr 1; omega
    obtain ⟨v1, v2⟩ := kwn_v (wst w + i) (by omega)
    rw [T_X12_wordAt_20, ea, nI_add]
    refine pk_le b (a + i) (fun z => w61_ok hw hb hab (by omega) hp (Or.inl (by omega)) h170 kY kN) (fun z => ⟨vp_in_nI (by omega) (by decide), vp_in_nI (by omega) (by decide), ?_⟩)
    obtain ⟨h1, h2⟩ := hch (a + i) (by omega)
    rw [nI_clamp (n := wst w + i + 1) (by omega), h170 _ (by omega), v1, nI_clamp (n := a + i) (by omega), h1]
    have qc : nI (kwn (wst w + i)) = nI (ch (a + i)) ↔ kwn (wst w + i) = ch (a + i) := nI_eq (by omega) (by omega)
    rw [qc]
    refine ⟨fun y y12 g12 => ?_, fun y => w61_ok hw hb hab (by omega) hp (Or.inr (fun q => y q.symm)) h170 kY kN⟩
    rw [g12, nI_1]
    refine ih (i + 1) f (by omega) (by omega) (fun t ht => ?_) (by omega)
    by_cases c : t = i
    · rw [c]; exact y.symm
    · exact hp t (by omega)
theorem w5_lp {ch : Nat → Nat} {a b : Nat} {M : Mm} {K : Int32 → Mm → Prop} (hb : b ≤ 400) (hab : a ≤ b) (hl : ∀ j, a ≤ j → j < b → isLn (ch j)) (hch : ∀ i, i < b → M 169 i = nI (ch i) ∧ ch i ≤ 255) (h170 : ∀ i, i < 148 → M 170 i = wd_t i) (k1 : ∀ w, w < 28 → wm ch a b w → (∀ w', w' < w → ¬ wm ch a b w') → K (nI w) M) (k2 : (∀ w, w < 28 → ¬ wm ch a b w) → K (-1) M) : ∀ m w f x3, w + m = 28 → m < f → x3 + 1 = nI w → (∀ w', w' < w → ¬ wm ch a b w') → T_X12_wordAt_5 f (nI a) (nI b) x3 (nI (wst w)) M K := by
  intro m
  induction m with
  | zero =>
    intro w f x3 hm hf h3 hn
    obtain ⟨f, rfl⟩ : ∃ g, f = g + 1 := ⟨f - 1, by omega⟩
    have e : w = 28 := by omega
    subst e
    rw [T_X12_wordAt_5]
    exact ⟨fun _ => k2 hn, fun z => absurd (by decide) z⟩
  | succ m ih =>
    intro w f x3 hm hf h3 hn
    obtain ⟨f, rfl⟩ : ∃ g, f = g + 1 := ⟨f - 1, by omega⟩
    have hw : w < 28 := by omega
    obtain ⟨s1, s2, s3, s4, s5⟩ := wst_v w hw
    rw [T_X12_wordAt_5]
    refine pk_le 147 (wst w) (fun z => absurd z (by omega)) (fun _ y14 g14 => ?_)
    rw [g14, h3]
    refine w20_lp hw hb hl hch h170 (fun y => k1 w hw y hn) (fun y => w88_ok hw h170 ?_) (wen w - wst w) 0 5000 (by omega) (by omega) (fun t ht => absurd ht (by omega)) (by omega)
    refine ih (w + 1) f (nI w) (by omega) (by omega) (nI_1 w) (fun w' h' => ?_)
    by_cases c : w' = w
    · rw [c]; exact y
    · exact hn w' (by omega)
theorem mw_ok {ch : Nat → Nat} {a b : Nat} {M : Mm} {K : Int32 → Mm → Prop} (hb : b ≤ 400) (hab : a ≤ b) (hl : ∀ j, a ≤ j → j < b → isLn (ch j)) (hch : ∀ i, i < b → M 169 i = nI (ch i) ∧ ch i ≤ 255) (h170 : ∀ i, i < 148 → M 170 i = wd_t i) (k1 : ∀ w, w < 28 → wm ch a b w → (∀ w', w' < w → ¬ wm ch a b w') → K (nI w) M) (k2 : (∀ w, w < 28 → ¬ wm ch a b w) → K (-1) M) : T_X12_wordAt (nI a) (nI b) M K := by
  rw [T_X12_wordAt]
  exact w5_lp hb hab hl hch h170 k1 k2 28 0 5000 (-1) (by omega) (by omega) (by decide) (fun w' h => absurd h (by omega))
