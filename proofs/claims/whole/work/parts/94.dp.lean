/-! sums of sizes_v: ways and fewest -/
/-- what class and model have in common_v of the sums up to n -/
def DR (n : Nat) (X Y : Mm) : Prop := ∀ s, s ≤ n → (∃ w, w < 1000000007 ∧ X 153 s = nI w ∧ Y 185 s = nI w) ∧ ((X 152 s = -1 ∧ Y 186 s = 100000000) ∨ ∃ f, f ≤ s ∧ X 152 s = nI f ∧ Y 186 s = nI f)
theorem way_c {a b : Nat} (ha : a < 1000000007) (hb : b < 1000000007) : ((nI a).toInt64 + (nI b).toInt64 - ((nI a).toInt64 + (nI b).toInt64) / (1000000007 : Int64) * (1000000007 : Int64)).toInt32 = nI ((a + b) % 1000000007) := by
  rw [nI_l (by omega), nI_l (by omega), lN_add, show (1000000007 : Int64) = lN 1000000007 from rfl, pk_lRem (by omega) (by omega) (by decide), lN_i]
theorem way_m {a b : Nat} {M : Mm} {K : Int32 → Mm → Prop} (ha : a < 1000000007) (hb : b < 1000000007) (hK : K (nI ((a + b) % 1000000007)) M) : T_X12_added (nI a) (nI b) M K := by
  have e : (1000000007 : Int32) - nI b = nI (1000000007 - b) := pk_sub (a := 1000000007) (by omega)
  rw [T_X12_added, e]
  refine pk_lt a (1000000007 - b) (fun h => ?_) (fun h => ?_)
  · rw [Nat.mod_eq_of_lt (by omega)] at hK
    rw [nI_add]; exact hK
  · rw [show (a + b) % 1000000007 = a - (1000000007 - b) by omega] at hK
    rw [pk_sub h]; exact hK
theorem steps_tail {v n t : Nat} (hv : 1 ≤ v) (ht : t ≤ 999) : ∀ m s Y, s + m = t + 1 → n < s → v ≤ s → ∃ Y', (∀ (Z : Mm) (K : Mm → Prop) (f : Nat), m < f → K (jn Z Y') → T_X12_goesBySteps_2 f (nI v) (nI t) (nI s) (jn Z Y) K) ∧ (∀ a, a ≠ 185 → a ≠ 186 → Y' a = Y a) ∧ (∀ a j, j ≤ n → Y' a j = Y a j) := by
  intro m
  induction m with
  | zero =>
    intro s Y hs hn hvs
    refine ⟨Y, fun Z K f hf k => ?_, fun _ _ _ => rfl, fun _ _ _ => rfl⟩
    obtain ⟨f, rfl⟩ : ∃ g, f = g + 1 := ⟨f - 1, by omega⟩
    rw [T_X12_goesBySteps_2]
    exact pk_lt t s (fun _ => k) (fun h => absurd h (by omega))
  | succ m ih =>
    intro s Y hs hn hvs
    have e1 : nI s - nI v = nI (s - v) := pk_sub hvs
    have hadd : ∃ r, ∀ (M : Mm) (K : Int32 → Mm → Prop), K r M → T_X12_added (Y 185 s) (Y 185 (s - v)) M K := by
      by_cases c : Y 185 s < 1000000007 - Y 185 (s - v)
      · exact ⟨_, fun M K k => by rw [T_X12_added]; exact ⟨fun _ => k, fun z => absurd c z⟩⟩
      · exact ⟨_, fun M K k => by rw [T_X12_added]; exact ⟨fun z => absurd z c, fun _ => k⟩⟩
    obtain ⟨r, hr⟩ := hadd
    obtain ⟨Y', i1, i2, i3⟩ := ih (s + 1) (m_up (m_up Y 185 s r) 186 s (if Y 186 s < Y 186 (s - v) + 1 then Y 186 s else Y 186 (s - v) + 1)) (by omega) (by omega) (by omega)
    refine ⟨Y', fun Z K f hf k => ?_, fun a z1 z2 => by rw [i2 a z1 z2, m_up_ne z2, m_up_ne z1], fun a j hj => by rw [i3 a j hj, mu, if_neg (by omega), mu, if_neg (by omega)]⟩
    obtain ⟨f, rfl⟩ : ∃ g, f = g + 1 := ⟨f - 1, by omega⟩
    rw [T_X12_goesBySteps_2, e1, nI_clamp (n := s) (by omega), nI_clamp (n := s - v) (by omega), jh _ (by omega), jh _ (by omega)]
    refine pk_lt t s (fun h => absurd h (by omega)) (fun _ => ⟨vp_in_nI (by omega) (by decide), vp_in_nI (by omega) (by decide), hr _ _ ⟨vp_in_nI (by omega) (by decide), fun M7 e7 => ⟨vp_in_nI (by omega) (by decide), vp_in_nI (by omega) (by decide), lesserM_ok ⟨vp_in_nI (by omega) (by decide), fun M14 e14 y16 e16 => ?_⟩⟩⟩⟩)
    have w1 : M7 186 s = Y 186 s := by rw [e7, mu, if_neg (by omega), jh _ (by omega)]
    have w2 : M7 186 (s - v) = Y 186 (s - v) := by rw [e7, mu, if_neg (by omega), jh _ (by omega)]
    rw [w1, w2, e7, jn_uph (by omega), jn_uph (by omega)] at e14
    rw [e14, e16, nI_1]
    exact i1 Z K f (by omega) k
set_option maxHeartbeats 2000000 in
theorem steps_main {v n t : Nat} (hv : 1 ≤ v) (hn : n ≤ 999) (hnt : n ≤ t) (ht : t ≤ 999) : ∀ m s X Y, s + m = n + 1 → v ≤ s → DR n X Y → ∃ X' Y', (∀ (Z : Mm) (K : Mm → Prop) (f : Nat), m < f → K (jn X' Z) → T_X8_addSize_6 f (nI v) (nI n) (nI s) (jn X Z) K) ∧
    (∀ (Z : Mm) (K : Mm → Prop) (f : Nat), T_X12_goesBySteps_2 f (nI v) (nI t) (nI (n + 1)) (jn Z Y') K → T_X12_goesBySteps_2 (f + m) (nI v) (nI t) (nI s) (jn Z Y) K) ∧ DR n X' Y' ∧ (∀ a, a ≠ 152 → a ≠ 153 → X' a = X a) ∧ (∀ a, a ≠ 185 → a ≠ 186 → Y' a = Y a) := by
  intro m
  induction m with
  | zero =>
    intro s X Y hs hvs hD
    have e : s = n + 1 := by omega
    subst e
    refine ⟨X, Y, fun Z K f hf k => ?_, fun Z K f k => k, hD, fun _ _ _ => rfl, fun _ _ _ => rfl⟩
    obtain ⟨f, rfl⟩ : ∃ g, f = g + 1 := ⟨f - 1, by omega⟩
    rw [T_X8_addSize_6]
    exact pk_lt n (n + 1) (fun _ => k) (fun h => absurd h (by omega))
  | succ m ih =>
    intro s X Y hs hvs hD
    have e1 : nI s - nI v = nI (s - v) := pk_sub hvs
    obtain ⟨⟨w0, hw0, a1, a2⟩, a3⟩ := hD s (by omega)
    obtain ⟨⟨w1, hw1, b1, b2⟩, b3⟩ := hD (s - v) (by omega)
    have vs : vp_in (nI s) 1000 := vp_in_nI (by omega) (by decide)
    have vv : vp_in (nI (s - v)) 1000 := vp_in_nI (by omega) (by decide)
    have cs : (nI s).toNatClampNeg = s := nI_clamp (by omega)
    have cv : (nI (s - v)).toNatClampNeg = s - v := nI_clamp (by omega)
    -- the class's new_v fewest, and the model's
    obtain ⟨x', y', X1, hX1, hC, hM, hR⟩ : ∃ (x' y' : Int32) (X1 : Mm), X1 = m_up X 152 s x' ∧
        (∀ (Z : Mm) (K : Mm → Prop) (f : Nat), T_X8_addSize_67 (fun x1 x2 x3 M => T_X8_addSize_6 f x1 x2 x3 M K) (nI v) (nI n) (nI s) (jn X1 Z) K → T_X8_addSize_6 (f + 1) (nI v) (nI n) (nI s) (jn X Z) K) ∧
        (if Y 186 s < Y 186 (s - v) + 1 then Y 186 s else Y 186 (s - v) + 1) = y' ∧ ((x' = -1 ∧ y' = 100000000) ∨ ∃ f, f ≤ s ∧ x' = nI f ∧ y' = nI f) := by
      have self_v : m_up X 152 s (X 152 s) = X := by
        funext a j
        rw [mu]
        by_cases c : a = 152 ∧ j = s
        · rw [if_pos c, c.1, c.2]
        · rw [if_neg c]
      have cw : ∀ (Z : Mm) (K : Mm → Prop) (f : Nat), ((X 152 (s - v) = -1 → T_X8_addSize_67 (fun x1 x2 x3 M => T_X8_addSize_6 f x1 x2 x3 M K) (nI v) (nI n) (nI s) (jn X Z) K) ∧ (¬ X 152 (s - v) = -1 → (X 152 s = -1 → T_X8_addSize_57 (fun x1 x2 x3 M => T_X8_addSize_6 f x1 x2 x3 M K) (nI v) (nI n) (nI s) (X 152 (s - v)) (jn X Z) K) ∧ (¬ X 152 s = -1 → (X 152 s ≤ X 152 (s - v) + 1 → T_X8_addSize_67 (fun x1 x2 x3 M => T_X8_addSize_6 f x1 x2 x3 M K) (nI v) (nI n) (nI s) (jn X Z) K) ∧ (¬ X 152 s ≤ X 152 (s - v) + 1 → T_X8_addSize_57 (fun x1 x2 x3 M => T_X8_addSize_6 f x1 x2 x3 M K) (nI v) (nI n) (nI s) (X 152 (s - v)) (jn X Z) K)))) → T_X8_addSize_6 (f + 1) (nI v) (nI n) (nI s) (jn X Z) K := by
        intro Z K f k
        rw [T_X8_addSize_6, e1, cs, cv, jl _ (by omega), jl _ (by omega)]
        refine pk_lt n s (fun h => absurd h (by omega)) (fun _ => pk_lt 999 s (fun h => absurd h (by omega)) (fun _ => ⟨vv, fun y11 e11 => ?_⟩))
        subst e11
        exact ⟨k.1, fun z => ⟨vs, (k.2 z).1, fun z2 => ⟨vs, (k.2 z).2 z2⟩⟩⟩
      have c57 : ∀ (Z : Mm) (K : Mm → Prop) (f : Nat) (g : Nat), X 152 (s - v) = nI g → T_X8_addSize_67 (fun x1 x2 x3 M => T_X8_addSize_6 f x1 x2 x3 M K) (nI v) (nI n) (nI s) (jn (m_up X 152 s (nI (g + 1))) Z) K → T_X8_addSize_57 (fun x1 x2 x3 M => T_X8_addSize_6 f x1 x2 x3 M K) (nI v) (nI n) (nI s) (X 152 (s - v)) (jn X Z) K := by
        intro Z K f g eg k
        rw [T_X8_addSize_57, eg, nI_1, cs]
        refine ⟨vs, fun M6 e6 => ?_⟩
        rw [e6, jn_upl (by omega)]
        exact k
      rcases b3 with ⟨b4, b5⟩ | ⟨g, hg, b4, b5⟩
      · refine ⟨X 152 s, Y 186 s, X, self_v.symm, fun Z K f k => cw Z K f ⟨fun _ => k, fun z => absurd b4 z⟩, ?_, a3⟩
        rw [b5]
        rcases a3 with ⟨-, a5⟩ | ⟨g, hg, -, a5⟩
        · rw [a5]; decide
        · rw [a5, if_pos (show nI g < 100000000 + 1 from nI_lt (b := 100000001) (by omega) (by decide))]
      · have n4 : ¬ X 152 (s - v) = -1 := by rw [b4]; exact nI_m1 (by omega)
        rcases a3 with ⟨a4, a5⟩ | ⟨h, hh, a4, a5⟩
        · refine ⟨nI (g + 1), nI (g + 1), _, rfl, fun Z K f k => cw Z K f ⟨fun z => absurd z n4, fun _ => ⟨fun _ => c57 Z K f g b4 k, fun z => absurd a4 z⟩⟩, ?_, Or.inr ⟨g + 1, by omega, rfl, rfl⟩⟩
          rw [a5, b5, nI_1, if_neg (show ¬ (100000000 : Int32) < nI (g + 1) from nI_nlt (a := 100000000) (by omega) (by decide))]
        · have n5 : ¬ X 152 s = -1 := by rw [a4]; exact nI_m1 (by omega)
          by_cases c : h ≤ g + 1
          · have c1 : X 152 s ≤ X 152 (s - v) + 1 := by rw [a4, b4, nI_1]; exact nI_le c (by omega)
            refine ⟨X 152 s, nI h, X, self_v.symm, fun Z K f k => cw Z K f ⟨fun z => absurd z n4, fun _ => ⟨fun z => absurd z n5, fun _ => ⟨fun _ => k, fun z => absurd c1 z⟩⟩⟩, ?_, Or.inr ⟨h, hh, a4, rfl⟩⟩
            rw [a5, b5, nI_1]
            by_cases c2 : h = g + 1
            · rw [c2]; exact ite_self _
            · rw [if_pos (nI_lt (by omega) (by omega))]
          · have c1 : ¬ X 152 s ≤ X 152 (s - v) + 1 := by rw [a4, b4, nI_1]; exact nI_ge (by omega) (by omega)
            refine ⟨nI (g + 1), nI (g + 1), _, rfl, fun Z K f k => cw Z K f ⟨fun z => absurd z n4, fun _ => ⟨fun z => absurd z n5, fun _ => ⟨fun z => absurd z c1, fun _ => c57 Z K f g b4 k⟩⟩⟩, ?_, Or.inr ⟨g + 1, by omega, rfl, rfl⟩⟩
            rw [a5, b5, nI_1, if_neg (nI_nlt (by omega) (by omega))]
    have x153 : X1 153 = X 153 := by rw [hX1, m_up_ne (by omega)]
    obtain ⟨X', Y', i1, i2, i3, i4, i5⟩ := ih (s + 1) (m_up X1 153 s (nI ((w0 + w1) % 1000000007))) (m_up (m_up Y 185 s (nI ((w0 + w1) % 1000000007))) 186 s y') (by omega) (by omega) (by
      intro j hj
      by_cases c : j = s
      · subst c
        refine ⟨⟨(w0 + w1) % 1000000007, Nat.mod_lt _ (by omega), by rw [mu, if_pos ⟨rfl, rfl⟩], by rw [mu, if_neg (by omega), mu, if_pos ⟨rfl, rfl⟩]⟩, ?_⟩
        rw [mu, if_neg (by omega), hX1, mu, if_pos ⟨rfl, rfl⟩, mu, if_pos ⟨rfl, rfl⟩]
        exact hR
      · have := hD j hj
        rw [mu, if_neg (by omega), mu, if_neg (by omega), mu, if_neg (by omega), mu, if_neg (by omega), mu, if_neg (by omega), mu, if_neg (by omega), x153, hX1, mu, if_neg (by omega)]
        exact this)
    refine ⟨X', Y', fun Z K f hf k => ?_, fun Z K f k => ?_, i3, fun a z1 z2 => by rw [i4 a z1 z2, m_up_ne z2, hX1, m_up_ne z1], fun a z1 z2 => by rw [i5 a z1 z2, m_up_ne z2, m_up_ne z1]⟩
    · obtain ⟨f, rfl⟩ : ∃ g, f = g + 1 := ⟨f - 1, by omega⟩
      refine hC Z K f ?_
      rw [T_X8_addSize_67, e1, cs, cv, jl _ (by omega), jl _ (by omega), x153, a1, b1, way_c hw0 hw1]
      refine ⟨vs, vv, vs, fun M3 e3 y5 e5 => ?_⟩
      rw [e3, e5, nI_1, jn_upl (by omega)]
      exact i1 Z K f (by omega) k
    · have := i2 Z K f k
      rw [show f + (m + 1) = (f + m) + 1 by omega, T_X12_goesBySteps_2, e1, cs, cv, jh _ (by omega), jh _ (by omega), a2, b2]
      refine pk_lt t s (fun h => absurd h (by omega)) (fun _ => ⟨vs, vv, way_m hw0 hw1 ⟨vs, fun M7 e7 => ⟨vs, vv, lesserM_ok ⟨vs, fun M14 e14 y16 e16 => ?_⟩⟩⟩⟩)
      have u1 : M7 186 s = Y 186 s := by rw [e7, mu, if_neg (by omega), jh _ (by omega)]
      have u2 : M7 186 (s - v) = Y 186 (s - v) := by rw [e7, mu, if_neg (by omega), jh _ (by omega)]
      rw [u1, u2, hM, e7, jn_uph (by omega), jn_uph (by omega)] at e14
      rw [e14, e16, nI_1]
      exact this
/-- one_v size_v more_v -/
theorem size_ok {v n t : Nat} {X Y : Mm} (hv : 1 ≤ v) (hv9 : v ≤ 999) (hn : n ≤ 999) (hnt : n ≤ t) (ht : t ≤ 999) (hD : DR n X Y) : ∃ X' Y', VC (T_X8_addSize (nI v) (nI n)) X X' ∧ VM (T_X12_goesBySteps (nI v) (nI t)) Y Y' ∧ DR n X' Y' ∧ (∀ a, a ≠ 152 → a ≠ 153 → X' a = X a) ∧ (∀ a, a ≠ 185 → a ≠ 186 → Y' a = Y a) := by
  have e0 : (if (0 : Int32) < nI v then nI v else 0) = nI v := if_pos (Int32.not_le.mp (nI_nle (by omega) (by omega)))
  have tailD : ∀ (X1 Y1 Y2 : Mm), DR n X1 Y1 → (∀ a j, j ≤ n → Y2 a j = Y1 a j) → DR n X1 Y2 := by
    intro X1 Y1 Y2 h1 h2 s hs
    rw [h2 185 s hs, h2 186 s hs]
    exact h1 s hs
  by_cases c : v ≤ n
  · obtain ⟨X1, Y1, i1, i2, i3, i4, i5⟩ := steps_main hv hn hnt ht (n + 1 - v) v X Y (by omega) (Nat.le_refl _) hD
    obtain ⟨Y2, j1, j2, j3⟩ := steps_tail (v := v) (n := n) (t := t) hv ht (t - n) (n + 1) Y1 (by omega) (by omega) (by omega)
    refine ⟨X1, Y2, fun Z K k => ?_, fun Z K k => ?_, tailD X1 Y1 Y2 i3 j3, i4, fun a z1 z2 => (j2 a z1 z2).trans (i5 a z1 z2)⟩
    · rw [T_X8_addSize, e0]
      intro y17 e17
      rw [e17]
      exact i1 Z K 5000 (by omega) k
    · rw [T_X12_goesBySteps, show 5000 = (5000 - (n + 1 - v)) + (n + 1 - v) by omega]
      exact i2 Z K _ (j1 Z K _ (by omega) k)
  · have hC : VC (T_X8_addSize (nI v) (nI n)) X X := by
      intro Z K k
      rw [T_X8_addSize, e0]
      intro y17 e17
      rw [e17, T_X8_addSize_6]
      exact pk_lt n v (fun _ => k) (fun h => absurd h (by omega))
    by_cases c2 : v ≤ t
    · obtain ⟨Y2, j1, j2, j3⟩ := steps_tail (v := v) (n := n) (t := t) hv ht (t + 1 - v) v Y (by omega) (by omega) (Nat.le_refl _)
      refine ⟨X, Y2, hC, fun Z K k => ?_, tailD X Y Y2 hD j3, fun _ _ _ => rfl, j2⟩
      rw [T_X12_goesBySteps]
      exact j1 Z K 5000 (by omega) k
    · refine ⟨X, Y, hC, fun Z K k => ?_, hD, fun _ _ _ => rfl, fun _ _ _ => rfl⟩
      rw [T_X12_goesBySteps, T_X12_goesBySteps_2]
      exact pk_lt t v (fun _ => k) (fun h => absurd h (by omega))
/-- the start_v of both_v -/
def nzX (X : Mm) (n : Nat) : Mm := fun a j => if a = 152 ∧ j < n then (if j = 0 then 0 else -1) else if a = 153 ∧ j < n then (if j = 0 then 1 else 0) else X a j
def nzY (Y : Mm) (n : Nat) : Mm := fun a j => if a = 185 ∧ j < n then (if j = 0 then 1 else 0) else if a = 186 ∧ j < n then (if j = 0 then 0 else 100000000) else Y a j
theorem nzX_s (X : Mm) (i : Nat) (x y : Int32) (hx : x = if i = 0 then 0 else -1) (hy : y = if i = 0 then 1 else 0) : m_up (m_up (nzX X i) 152 i x) 153 i y = nzX X (i + 1) := by
  funext a j
  rw [mu, mu]
  unfold nzX
  by_cases h3 : a = 153 ∧ j = i
  · rw [if_pos h3, if_neg (by omega), if_pos (by omega), h3.2]; exact hy
  · rw [if_neg h3]
    by_cases h2 : a = 152 ∧ j = i
    · rw [if_pos h2, if_pos (by omega), h2.2]; exact hx
    · rw [if_neg h2]
      by_cases g2 : a = 152 ∧ j < i
      · rw [if_pos g2, if_pos (show a = 152 ∧ j < i + 1 by omega)]
      · rw [if_neg g2]
        by_cases g3 : a = 153 ∧ j < i
        · rw [if_pos g3, if_neg (show ¬ (a = 152 ∧ j < i + 1) by omega), if_pos (show a = 153 ∧ j < i + 1 by omega)]
        · rw [if_neg g3, if_neg (by omega), if_neg (by omega)]
theorem nzY_s (X : Mm) (i : Nat) (x y : Int32) (hx : x = if i = 0 then 1 else 0) (hy : y = if i = 0 then 0 else 100000000) : m_up (m_up (nzY X i) 185 i x) 186 i y = nzY X (i + 1) := by
  funext a j
  rw [mu, mu]
  unfold nzY
  by_cases h3 : a = 186 ∧ j = i
  · rw [if_pos h3, if_neg (by omega), if_pos (by omega), h3.2]; exact hy
  · rw [if_neg h3]
    by_cases h2 : a = 185 ∧ j = i
    · rw [if_pos h2, if_pos (by omega), h2.2]; exact hx
    · rw [if_neg h2]
      by_cases g2 : a = 185 ∧ j < i
      · rw [if_pos g2, if_pos (show a = 185 ∧ j < i + 1 by omega)]
      · rw [if_neg g2]
        by_cases g3 : a = 186 ∧ j < i
        · rw [if_pos g3, if_neg (show ¬ (a = 185 ∧ j < i + 1) by omega), if_pos (show a = 186 ∧ j < i + 1 by omega)]
        · rw [if_neg g3, if_neg (by omega), if_neg (by omega)]
theorem nz_C {a1 n : Nat} {c : Int32} {X Z : Mm} {K : Mm → Prop} (hn : n ≤ 999) (hK : T_X8_change_57 a1 c (nI n) (jn (nzX X (n + 1)) Z) K) : ∀ f i, i ≤ n + 1 → n + 1 - i < f → T_X8_change_3 a1 f c (nI n) (nI i) (jn (nzX X i) Z) K := by
  intro f
  induction f with
  | zero => intro i _ h; exact absurd h (Nat.not_lt_zero _)
  | succ f ih =>
    intro i hi hf
    rw [T_X8_change_3]
    refine pk_lt n i (fun h => ?_) (fun h => pk_lt 999 i (fun h => absurd h (by omega)) (fun _ => ?_))
    · have e : i = n + 1 := by omega
      subst e; exact hK
    · have vi : vp_in (nI i) 1000 := vp_in_nI (by omega) (by decide)
      have go := ih (i + 1) (by omega) (by omega)
      have ci : (nI i).toNatClampNeg = i := nI_clamp (by omega)
      refine pk_eq i 0 (fun e => ?_) (fun e => ?_)
      · subst e
        rw [T_X8_change_33, ci]
        refine ⟨vi, fun M12 e12 => ⟨fun _ => ?_, fun z => absurd rfl z⟩⟩
        rw [T_X8_change_50, ci]
        refine ⟨vi, fun M9 e9 y11 e11 => ?_⟩
        rw [e9, e12, e11, nI_1, jn_upl (by omega), jn_upl (by omega), nzX_s X 0 0 1 rfl rfl]
        exact go
      · rw [T_X8_change_33, ci]
        refine ⟨vi, fun M12 e12 => ⟨fun z => absurd ((nI_eq (b := 0) (by omega) (by decide)).mp z) e, fun _ => ?_⟩⟩
        rw [T_X8_change_50, ci]
        refine ⟨vi, fun M9 e9 y11 e11 => ?_⟩
        rw [e9, e12, e11, nI_1, jn_upl (by omega), jn_upl (by omega), nzX_s X i (-1) 0 (by rw [if_neg e]) (by rw [if_neg e])]
        exact go
theorem nz_M {Y Z : Mm} {K : Mm → Prop} (hK : K (jn Z (nzY Y 1000))) : ∀ f i, i ≤ 1000 → 1000 - i < f → T_X12_isAtNothing_2 f (nI i) (jn Z (nzY Y i)) K := by
  intro f
  induction f with
  | zero => intro i _ h; exact absurd h (Nat.not_lt_zero _)
  | succ f ih =>
    intro i hi hf
    rw [T_X12_isAtNothing_2]
    refine pk_le 1000 i (fun h => ?_) (fun h => ?_)
    · have e : i = 1000 := by omega
      subst e; exact hK
    · have vi : vp_in (nI i) 1000 := vp_in_nI (by omega) (by decide)
      have go := ih (i + 1) (by omega) (by omega)
      have ci : (nI i).toNatClampNeg = i := nI_clamp (by omega)
      refine pk_eq i 0 (fun e => ?_) (fun e => ?_)
      · subst e
        rw [T_X12_isAtNothing_23, ci]
        refine ⟨vi, fun M4 e4 => ⟨fun _ => ?_, fun z => absurd rfl z⟩⟩
        rw [T_X12_isAtNothing_40, ci]
        refine ⟨vi, fun M1 e1 y3 e3 => ?_⟩
        rw [e1, e4, e3, nI_1, jn_uph (by omega), jn_uph (by omega), nzY_s Y 0 1 0 rfl rfl]
        exact go
      · rw [T_X12_isAtNothing_23, ci]
        refine ⟨vi, fun M4 e4 => ⟨fun z => absurd ((nI_eq (b := 0) (by omega) (by decide)).mp z) e, fun _ => ?_⟩⟩
        rw [T_X12_isAtNothing_40, ci]
        refine ⟨vi, fun M1 e1 y3 e3 => ?_⟩
        rw [e1, e4, e3, nI_1, jn_uph (by omega), jn_uph (by omega), nzY_s Y i 0 100000000 (by rw [if_neg e]) (by rw [if_neg e])]
        exact go
theorem nz_D {n : Nat} {X Y : Mm} (hn : n ≤ 999) : DR n (nzX X (n + 1)) (nzY Y 1000) := by
  intro s hs
  have x3 : nzX X (n + 1) 153 s = if s = 0 then 1 else 0 := by unfold nzX; rw [if_neg (by omega), if_pos (by omega)]
  have x2 : nzX X (n + 1) 152 s = if s = 0 then 0 else -1 := by unfold nzX; rw [if_pos (by omega)]
  have y5 : nzY Y 1000 185 s = if s = 0 then 1 else 0 := by unfold nzY; rw [if_pos (by omega)]
  have y6 : nzY Y 1000 186 s = if s = 0 then 0 else 100000000 := by unfold nzY; rw [if_neg (by omega), if_pos (by omega)]
  rw [x3, x2, y5, y6]
  by_cases c : s = 0
  · rw [if_pos c, if_pos c, if_pos c]
    exact ⟨⟨1, by omega, rfl, rfl⟩, Or.inr ⟨0, by omega, rfl, rfl⟩⟩
  · rw [if_neg c, if_neg c, if_neg c]
    exact ⟨⟨0, by omega, rfl, rfl⟩, Or.inl ⟨rfl, rfl⟩⟩
theorem came_w {n : Nat} {X Y Z : Mm} {K : Int32 → Mm → Prop} {x : Int32} (hn : n ≤ 999) (hD : DR n X Y) (hx : ¬ x = 1) (hK : K (X 153 n) (jn Z Y)) : T_X12_cameTo (nI n) x (jn Z Y) K := by
  obtain ⟨⟨w, -, a1, a2⟩, -⟩ := hD n (Nat.le_refl _)
  rw [T_X12_cameTo, nI_clamp (n := n) (by omega), jh (a := 185) _ (by omega), a2, ← a1]
  exact ⟨fun z => absurd z hx, fun _ => ⟨vp_in_nI (by omega) (by decide), hK⟩⟩
theorem came_f {n : Nat} {X Y Z : Mm} {K : Int32 → Mm → Prop} (hn : n ≤ 999) (hD : DR n X Y) (hK : K (X 152 n) (jn Z Y)) : T_X12_cameTo (nI n) 1 (jn Z Y) K := by
  obtain ⟨-, h⟩ := hD n (Nat.le_refl _)
  have vn' : vp_in (nI n) 1000 := vp_in_nI (by omega) (by decide)
  rw [T_X12_cameTo, nI_clamp (n := n) (by omega), jh (a := 186) _ (by omega)]
  refine ⟨fun _ => ⟨vn', ?_⟩, fun z => absurd rfl z⟩
  rcases h with ⟨a1, a2⟩ | ⟨f, hf, a1, a2⟩
  · rw [a2]
    rw [a1] at hK
    exact ⟨fun z => absurd z (by decide), fun _ => hK⟩
  · rw [a2]
    rw [a1] at hK
    exact ⟨fun _ => ⟨vn', hK⟩, fun z => absurd (nI_lt (b := 100000000) (by omega) (by decide)) z⟩
theorem sums_fr {M X Y : Mm} {c : Int32} (hx : ∀ a, a ≠ 152 → a ≠ 153 → X a = M a) (hy : ∀ a, a ≠ 185 → a ≠ 186 → Y a = m_up M 159 0 c a) : fr M (jn X Y) := by
  intro a j h
  have h1 : a ≠ 152 := fun w => by rw [w] at h; cases h
  have h2 : a ≠ 153 := fun w => by rw [w] at h; cases h
  have h3 : a ≠ 185 := fun w => by rw [w] at h; cases h
  have h4 : a ≠ 186 := fun w => by rw [w] at h; cases h
  by_cases ha : a < 159
  · rw [jl j ha, hx a h1 h2]
  · rw [jh j (by omega), hy a h3 h4, mu, if_neg (fun w => by rw [w.1, w.2] at h; cases h)]
set_option maxHeartbeats 2000000 in
theorem ah_inside {N : Nat} {M : Mm} (h : Inv N M) (x y : Int32) : Ah (T_X11_inside x y) (T_X12_inside x y) N M := by
  have hf := h.t0 (x := 0)
  obtain ⟨np, nb, ⟨hC, -, -, -, -, hT⟩, -, -⟩ := id h
  have ep : M 2 0 = nI np := hC.1.2.2.1
  have hp : np ≤ 16 := hC.1.2.2.2.2.1
  have ep2 : M 159 6 = nI np := hC.1.1.trans ep
  have ep3 : m_up M 159 0 0 159 6 = nI np := by simpa [mu] using ep2
  by_cases cx : ∃ k, k < np ∧ x = nI k
  rotate_left
  · exact Ag.ah ⟨-1, M, _, fun K q => by simpa [T_X11_inside, hp_neg cx hp ep] using q, fun K q => by simpa [T_X12_inside, ip_neg cx hp ep3] using q, hf⟩
  obtain ⟨p, hpn, rfl⟩ := cx
  by_cases cy : (0 : Int32) ≤ y ∧ y ≤ 1
  rotate_left
  · exact Ag.ah ⟨-1, M, _, fun K q => by simpa [T_X11_inside, hp_pos rfl hpn hp ep, iw_neg cy] using q, fun K q => by simpa [T_X12_inside, ip_pos rfl hpn hp ep3, ii_neg cy] using q, hf⟩
  have vp : vp_in (nI p) 16 := vp_in_nI (by omega) (by decide)
  have cp : (nI p).toNatClampNeg = p := nI_clamp (by omega)
  obtain ⟨n, hn, en⟩ := (hC.2.1 p (by omega)).2.2.2.1
  have en : M 3 p = nI n := en
  have em : M 163 p = nI n := (hC.2.1 p (by omega)).1.trans en
  have vn' : vp_in (nI n) 1000 := vp_in_nI (by omega) (by decide)
  have cn : (nI n).toNatClampNeg = n := nI_clamp (by omega)
  have l31 : ln 31 = 8 := by decide +kernel
  have main_v : ∀ m i X Y, i + m = 8 → 1 ≤ i → DR n X Y → (∀ a, a ≠ 152 → a ≠ 153 → X a = M a) → (∀ a, a ≠ 185 → a ≠ 186 → Y a = m_up M 159 0 0 a) →
      ∃ X' Y', (∀ (Z : Mm) (K : Mm → Prop) (f : Nat), m < f → K (jn X' Z) → T_X8_change_60 31 f 8 (nI n) (nI i) (jn X Z) K) ∧ (∀ (Z : Mm) (K : Int32 → Mm → Prop) (f : Nat), m < f → (T_X12_cameTo (nI n) y (jn Z Y') (fun r6 M5 => K r6 M5)) → T_X12_inside_31 f (nI p) y (nI i) (jn Z Y) K) ∧ DR n X' Y' ∧ (∀ a, a ≠ 152 → a ≠ 153 → X' a = M a) ∧ (∀ a, a ≠ 185 → a ≠ 186 → Y' a = m_up M 159 0 0 a) := by
    intro m
    induction m with
    | zero =>
      intro i X Y him hi hD g1 g2
      have e : i = 8 := by omega
      subst e
      refine ⟨X, Y, fun Z K f hf k => ?_, fun Z K f hf k => ?_, hD, g1, g2⟩
      · obtain ⟨f, rfl⟩ : ∃ g, f = g + 1 := ⟨f - 1, by omega⟩
        rw [T_X8_change_60]
        exact pk_le 8 8 (fun _ => k) (fun z => absurd z (by omega))
      · obtain ⟨f, rfl⟩ : ∃ g, f = g + 1 := ⟨f - 1, by omega⟩
        have z1 : jn Z Y 163 p = nI n := by rw [jh _ (by omega), g2 163 (by omega) (by omega), mu, if_neg (by omega)]; exact em
        rw [T_X12_inside_31, cp, z1]
        exact pk_le 8 8 (fun _ => ⟨vp, k⟩) (fun z => absurd z (by omega))
    | succ m ih =>
      intro i X Y him hi hD g1 g2
      have vi : vp_in (nI i) 8 := vp_in_nI (by omega) (by decide)
      have ci : (nI i).toNatClampNeg = i := nI_clamp (by omega)
      obtain ⟨t1, v, hv, ev⟩ := hT.1 i (by omega)
      rw [if_neg (by omega)] at hv
      have ev : M 31 i = nI v := ev
      have xw : X 31 i = nI v := by rw [g1 31 (by omega) (by omega)]; exact ev
      have yw : Y 184 i = nI v := by rw [g2 184 (by omega) (by omega), mu, if_neg (by omega)]; exact t1.trans ev
      by_cases c : v = 0
      · obtain ⟨X', Y', i1, i2, i3⟩ := ih (i + 1) X Y (by omega) (by omega) hD g1 g2
        have c0 : nI v ≤ 0 := by rw [c]; decide
        refine ⟨X', Y', fun Z K f hf k => ?_, fun Z K f hf k => ?_, i3⟩
        · obtain ⟨f, rfl⟩ : ∃ g, f = g + 1 := ⟨f - 1, by omega⟩
          rw [T_X8_change_60, l31, ci, jl _ (by omega), xw]
          refine pk_le 8 i (fun z => absurd z (by omega)) (fun _ => pk_le 8 i (fun z => absurd z (by omega)) (fun _ => ⟨vi, fun _ => ?_, fun z => absurd c0 z⟩))
          rw [T_X8_change_89]
          intro y1 e1
          rw [e1, nI_1]
          exact i1 Z K f (by omega) k
        · obtain ⟨f, rfl⟩ : ∃ g, f = g + 1 := ⟨f - 1, by omega⟩
          rw [T_X12_inside_31, ci, jh (a := 184) _ (by omega), yw]
          refine pk_le 8 i (fun z => absurd z (by omega)) (fun _ => ⟨vi, fun _ => ?_, fun z => absurd c0 z⟩)
          rw [T_X12_inside_58]
          intro y1 e1
          rw [e1, nI_1]
          exact i2 Z K f (by omega) k
      · have c0 : ¬ nI v ≤ 0 := nI_nle (by omega) (by omega)
        obtain ⟨X1, Y1, j1, j2, j3, j4, j5⟩ := size_ok (v := v) (n := n) (t := 99) (by omega) (by omega) (by omega) (by omega) (by omega) hD
        obtain ⟨X', Y', i1, i2, i3⟩ := ih (i + 1) X1 Y1 (by omega) (by omega) j3 (fun a z1 z2 => (j4 a z1 z2).trans (g1 a z1 z2)) (fun a z1 z2 => (j5 a z1 z2).trans (g2 a z1 z2))
        refine ⟨X', Y', fun Z K f hf k => ?_, fun Z K f hf k => ?_, i3⟩
        · obtain ⟨f, rfl⟩ : ∃ g, f = g + 1 := ⟨f - 1, by omega⟩
          rw [T_X8_change_60, l31, ci, jl _ (by omega), xw]
          refine pk_le 8 i (fun z => absurd z (by omega)) (fun _ => pk_le 8 i (fun z => absurd z (by omega)) (fun _ => ⟨vi, fun z => absurd z c0, fun _ => ⟨vi, j1 Z _ ?_⟩⟩))
          rw [T_X8_change_89]
          intro y1 e1
          rw [e1, nI_1]
          exact i1 Z K f (by omega) k
        · obtain ⟨f, rfl⟩ : ∃ g, f = g + 1 := ⟨f - 1, by omega⟩
          rw [T_X12_inside_31, ci, jh (a := 184) _ (by omega), yw]
          refine pk_le 8 i (fun z => absurd z (by omega)) (fun _ => ⟨vi, fun z => absurd z c0, fun _ => ⟨vi, j2 Z _ ?_⟩⟩)
          rw [T_X12_inside_58]
          intro y1 e1
          rw [e1, nI_1]
          exact i2 Z K f (by omega) k
  obtain ⟨X', Y', i1, i2, i3, i4, i5⟩ := main_v 7 1 (nzX M (n + 1)) (nzY (m_up M 159 0 0) 1000) (by omega) (by omega) (nz_D (by omega)) (fun a z1 z2 => funext fun j => by unfold nzX; rw [if_neg (fun w => z1 w.1), if_neg (fun w => z2 w.1)]) (fun a z1 z2 => funext fun j => by unfold nzY; rw [if_neg (fun w => z1 w.1), if_neg (fun w => z2 w.1)])
  have w0 : nzX M (n + 1) 31 0 = 0 := by
    obtain ⟨-, v, hv, ev⟩ := hT.1 0 (by omega)
    rw [if_pos rfl] at hv
    have : M 31 0 = nI v := ev
    unfold nzX
    rw [if_neg (by omega), if_neg (by omega), this, show v = 0 by omega]
    rfl
  have e0X : nzX M 0 = M := funext fun a => funext fun j => by unfold nzX; rw [if_neg (by omega), if_neg (by omega)]
  have e0Y : nzY (m_up M 159 0 0) 0 = m_up M 159 0 0 := funext fun a => funext fun j => by unfold nzY; rw [if_neg (by omega), if_neg (by omega)]
  have cls : ∀ (K : Int32 → Mm → Prop), ((y = 0 → K (X' 153 n) (jn X' M)) ∧ (¬ y = 0 → K (X' 152 n) (jn X' M))) → T_X11_inside (nI p) y M K := by
    intro K k
    have : T_X11_inside (nI p) y (jn M M) K := by
      rw [T_X11_inside, hp_pos rfl hpn hp (by rw [jn_self]; exact ep)]
      refine ⟨fun w => absurd w (by decide), fun _ => ?_⟩
      rw [iw_pos cy, cp, jl p (by omega), en]
      refine ⟨fun w => absurd w (by decide), fun _ => ⟨vp, fun y10 e10 => ?_⟩⟩
      subst e10
      rw [T_X8_change]
      have st := nz_C (a1 := 31) (c := 8) (X := M) (Z := M) (K := fun M12 => ((y = 0 → (vp_in (nI n) 1000 ∧ K (M12 153 (nI n).toNatClampNeg) M12)) ∧ (¬ y = 0 → (vp_in (nI n) 1000 ∧ K (M12 152 (nI n).toNatClampNeg) M12)))) (n := n) (by omega) (by
        rw [T_X8_change_57, T_X8_change_60, l31, show (0 : Int32).toNatClampNeg = 0 from rfl, jl (a := 31) _ (by omega), w0]
        refine ⟨fun z => absurd z (by decide), fun _ => ⟨fun z => absurd z (by decide), fun _ => ⟨vp_in_nI (n := 0) (by omega) (by decide), fun _ => ?_, fun z => absurd (by decide) z⟩⟩⟩
        rw [T_X8_change_89]
        intro y1 e1
        rw [e1]
        refine i1 M _ 4999 (by omega) ?_
        rw [cn, jl _ (by omega), jl _ (by omega)]
        exact ⟨fun z => ⟨vn', k.1 z⟩, fun z => ⟨vn', k.2 z⟩⟩) 5000 0 (by omega) (by omega)
      rw [e0X] at st
      exact st
    rw [jn_self] at this
    exact this
  have mdl : ∀ (K : Int32 → Mm → Prop), T_X12_cameTo (nI n) y (jn X' Y') (fun r6 M5 => K r6 M5) → T_X12_inside (nI p) y (jn X' M) K := by
    intro K k
    rw [T_X12_inside]
    intro M1 e1
    rw [jn_uph (by omega)] at e1
    subst e1
    rw [ip_pos rfl hpn hp (by rw [jh 6 (by omega)]; exact ep3)]
    refine ⟨fun w => absurd w (by decide), fun _ => ?_⟩
    rw [ii_pos cy, T_X12_isAtNothing]
    refine ⟨fun w => absurd w (by decide), fun _ => ?_⟩
    have st := nz_M (Y := m_up M 159 0 0) (Z := X') (K := fun M22 => T_X12_inside_31 5000 (nI p) y 1 M22 K) (i2 X' K 5000 (by omega) k) 5000 0 (by omega) (by omega)
    rw [e0Y] at st
    exact st
  have fin_v : Inv (N + 1000) (jn X' Y') := (h.fr (sums_fr i4 i5)).mono (by omega)
  by_cases c : y = 0
  · exact ⟨X' 153 n, jn X' M, jn X' Y', fun K q => cls K ⟨fun _ => q, fun z => absurd c z⟩, fun K q => mdl K (came_w (by omega) i3 (by rw [c]; decide) q), fin_v⟩
  · have c1 : y = 1 := by
      obtain ⟨k, -, hk, rfl⟩ := rng (a := 0) (b := 1) (by decide) (by decide) cy
      rcases (show k = 0 ∨ k = 1 by omega) with rfl | rfl
      · exact absurd rfl c
      · rfl
    refine ⟨X' 152 n, jn X' M, jn X' Y', fun K q => cls K ⟨fun z => absurd z c, fun _ => q⟩, fun K q => mdl K ?_, fin_v⟩
    rw [c1]
    exact came_f (by omega) i3 q
set_option maxHeartbeats 2000000 in
theorem ah_pays {N : Nat} {M : Mm} (h : Inv N M) (x y : Int32) : Ah (T_X11_pays x y) (T_X12_pays x y) N M := by
  have hf := h.t0 (x := 0)
  obtain ⟨np, nb, ⟨-, -, -, -, -, hT⟩, -, -⟩ := id h
  obtain ⟨-, -, ⟨e1, ⟨c, hc, ec⟩, t3⟩, -⟩ := hT
  have ec : M 30 10 = nI c := ec
  have ec2 : M 159 51 = nI c := e1.trans ec
  by_cases cx : (0 : Int32) ≤ x ∧ x ≤ 999
  rotate_left
  · exact Ag.ah ⟨-1, M, _, fun K q => by simpa [T_X11_pays, iw_neg cx] using q, fun K q => by simpa [T_X12_pays, ii_neg cx] using q, hf⟩
  by_cases cy : (0 : Int32) ≤ y ∧ y ≤ 1
  rotate_left
  · exact Ag.ah ⟨-1, M, _, fun K q => by simpa [T_X11_pays, iw_pos cx, iw_neg cy] using q, fun K q => by simpa [T_X12_pays, ii_pos cx, ii_neg cy] using q, hf⟩
  obtain ⟨n, -, hn, rfl⟩ := rng (a := 0) (b := 999) (by decide) (by decide) cx
  have vn' : vp_in (nI n) 1000 := vp_in_nI (by omega) (by decide)
  have cn : (nI n).toNatClampNeg = n := nI_clamp (by omega)
  have l33 : ln 33 = 6 := by decide +kernel
  have main_v : ∀ m i X Y, i + m = c → DR n X Y → (∀ a, a ≠ 152 → a ≠ 153 → X a = M a) → (∀ a, a ≠ 185 → a ≠ 186 → Y a = m_up M 159 0 0 a) →
      ∃ X' Y', (∀ (Z : Mm) (K : Mm → Prop) (f : Nat), m < f → K (jn X' Z) → T_X8_change_60 33 f (nI c) (nI n) (nI i) (jn X Z) K) ∧ (∀ (Z : Mm) (K : Int32 → Mm → Prop) (f : Nat), m < f → (T_X12_cameTo (nI n) (1 - y) (jn Z Y') (fun r6 M5 => K r6 M5)) → T_X12_pays_35 f (nI n) y (nI i) (jn Z Y) K) ∧ DR n X' Y' ∧ (∀ a, a ≠ 152 → a ≠ 153 → X' a = M a) ∧ (∀ a, a ≠ 185 → a ≠ 186 → Y' a = m_up M 159 0 0 a) := by
    intro m
    induction m with
    | zero =>
      intro i X Y him hD g1 g2
      have e : i = c := by omega
      subst e
      refine ⟨X, Y, fun Z K f hf k => ?_, fun Z K f hf k => ?_, hD, g1, g2⟩
      · obtain ⟨f, rfl⟩ : ∃ g, f = g + 1 := ⟨f - 1, by omega⟩
        rw [T_X8_change_60]
        exact pk_le i i (fun _ => k) (fun z => absurd z (by omega))
      · obtain ⟨f, rfl⟩ : ∃ g, f = g + 1 := ⟨f - 1, by omega⟩
        have z1 : jn Z Y 159 51 = nI i := by rw [jh _ (by omega), g2 159 (by omega) (by omega), mu, if_neg (by omega)]; exact ec2
        rw [T_X12_pays_35, z1]
        exact pk_le i i (fun _ => k) (fun z => absurd z (by omega))
    | succ m ih =>
      intro i X Y him hD g1 g2
      have vi : vp_in (nI i) 6 := vp_in_nI (by omega) (by decide)
      have ci : (nI i).toNatClampNeg = i := nI_clamp (by omega)
      obtain ⟨t1, ⟨v, hv, ev⟩, t2⟩ := t3 i (by omega)
      have ev : M 33 i = nI v := ev
      have hv0 : v ≠ 0 := fun z => t2 (by show nI i < M 30 10; rw [ec]; exact nI_lt (by omega) (by omega)) (by show M 33 i = 0; rw [ev, z]; rfl)
      have xw : X 33 i = nI v := by rw [g1 33 (by omega) (by omega)]; exact ev
      have yw : Y 187 i = nI v := by rw [g2 187 (by omega) (by omega), mu, if_neg (by omega)]; exact t1.trans ev
      have y51 : Y 159 51 = nI c := by rw [g2 159 (by omega) (by omega), mu, if_neg (by omega)]; exact ec2
      have c0 : ¬ nI v ≤ 0 := nI_nle (by omega) (by omega)
      obtain ⟨X1, Y1, j1, j2, j3, j4, j5⟩ := size_ok (v := v) (n := n) (t := n) (by omega) (by omega) (by omega) (by omega) (by omega) hD
      obtain ⟨X', Y', i1, i2, i3⟩ := ih (i + 1) X1 Y1 (by omega) j3 (fun a z1 z2 => (j4 a z1 z2).trans (g1 a z1 z2)) (fun a z1 z2 => (j5 a z1 z2).trans (g2 a z1 z2))
      refine ⟨X', Y', fun Z K f hf k => ?_, fun Z K f hf k => ?_, i3⟩
      · obtain ⟨f, rfl⟩ : ∃ g, f = g + 1 := ⟨f - 1, by omega⟩
        rw [T_X8_change_60, l33, ci, jl _ (by omega), xw]
        refine pk_le c i (fun z => absurd z (by omega)) (fun _ => pk_le 6 i (fun z => absurd z (by omega)) (fun _ => ⟨vi, fun z => absurd z c0, fun _ => ⟨vi, j1 Z _ ?_⟩⟩))
        rw [T_X8_change_89]
        intro y1 e1
        rw [e1, nI_1]
        exact i1 Z K f (by omega) k
      · obtain ⟨f, rfl⟩ : ∃ g, f = g + 1 := ⟨f - 1, by omega⟩
        rw [T_X12_pays_35, ci, jh 51 (by omega), y51, jh (a := 187) _ (by omega), yw]
        refine pk_le c i (fun z => absurd z (by omega)) (fun _ => ⟨vi, j2 Z _ (fun y8 e8 => ?_)⟩)
        rw [e8, nI_1]
        exact i2 Z K f (by omega) k
  obtain ⟨X', Y', i1, i2, i3, i4, i5⟩ := main_v c 0 (nzX M (n + 1)) (nzY (m_up M 159 0 0) 1000) (by omega) (nz_D (by omega)) (fun a z1 z2 => funext fun j => by unfold nzX; rw [if_neg (fun w => z1 w.1), if_neg (fun w => z2 w.1)]) (fun a z1 z2 => funext fun j => by unfold nzY; rw [if_neg (fun w => z1 w.1), if_neg (fun w => z2 w.1)])
  have e0X : nzX M 0 = M := funext fun a => funext fun j => by unfold nzX; rw [if_neg (by omega), if_neg (by omega)]
  have e0Y : nzY (m_up M 159 0 0) 0 = m_up M 159 0 0 := funext fun a => funext fun j => by unfold nzY; rw [if_neg (by omega), if_neg (by omega)]
  have cls : ∀ (K : Int32 → Mm → Prop), ((y = 0 → K (X' 152 n) (jn X' M)) ∧ (¬ y = 0 → K (X' 153 n) (jn X' M))) → T_X11_pays (nI n) y M K := by
    intro K k
    have : T_X11_pays (nI n) y (jn M M) K := by
      rw [T_X11_pays, iw_pos cx]
      refine ⟨fun w => absurd w (by decide), fun _ => ?_⟩
      rw [iw_pos cy, jl 10 (by omega), ec]
      refine ⟨fun w => absurd w (by decide), fun _ => ?_⟩
      rw [T_X8_change]
      have st := nz_C (a1 := 33) (c := nI c) (X := M) (Z := M) (K := fun M12 => ((y = 0 → (vp_in (nI n) 1000 ∧ K (M12 152 (nI n).toNatClampNeg) M12)) ∧ (¬ y = 0 → (vp_in (nI n) 1000 ∧ K (M12 153 (nI n).toNatClampNeg) M12)))) (n := n) (by omega) (by
        rw [T_X8_change_57]
        refine i1 M _ 5000 (by omega) ?_
        rw [cn, jl _ (by omega), jl _ (by omega)]
        exact ⟨fun z => ⟨vn', k.1 z⟩, fun z => ⟨vn', k.2 z⟩⟩) 5000 0 (by omega) (by omega)
      rw [e0X] at st
      exact st
    rw [jn_self] at this
    exact this
  have mdl : ∀ (K : Int32 → Mm → Prop), T_X12_cameTo (nI n) (1 - y) (jn X' Y') (fun r6 M5 => K r6 M5) → T_X12_pays (nI n) y (jn X' M) K := by
    intro K k
    rw [T_X12_pays]
    intro M1 e1
    rw [jn_uph (by omega)] at e1
    subst e1
    rw [ii_pos cx]
    refine ⟨fun w => absurd w (by decide), fun _ => ?_⟩
    rw [ii_pos cy, T_X12_isAtNothing]
    refine ⟨fun w => absurd w (by decide), fun _ => ?_⟩
    have st := nz_M (Y := m_up M 159 0 0) (Z := X') (K := fun M22 => T_X12_pays_35 5000 (nI n) y 0 M22 K) (i2 X' K 5000 (by omega) k) 5000 0 (by omega) (by omega)
    rw [e0Y] at st
    exact st
  have fin_v : Inv (N + 1000) (jn X' Y') := (h.fr (sums_fr i4 i5)).mono (by omega)
  by_cases c : y = 0
  · subst c
    exact ⟨X' 152 n, jn X' M, jn X' Y', fun K q => cls K ⟨fun _ => q, fun z => absurd rfl z⟩, fun K q => mdl K (came_f (by omega) i3 q), fin_v⟩
  · have c1 : y = 1 := by
      obtain ⟨k, -, hk, rfl⟩ := rng (a := 0) (b := 1) (by decide) (by decide) cy
      rcases (show k = 0 ∨ k = 1 by omega) with rfl | rfl
      · exact absurd rfl c
      · rfl
    exact ⟨X' 153 n, jn X' M, jn X' Y', fun K q => cls K ⟨fun z => absurd z c, fun _ => q⟩, fun K q => mdl K (came_w (by omega) i3 (by rw [c1]; decide) q), fin_v⟩
/-- tape, fault and image, class cells_v and model cells_v apart_v -/
def IX2 (N : Nat) (X Y : Mm) : Prop :=
  (∃ k : Nat, k ≤ 400 ∧ X 132 1 = nI k ∧ Y 159 15 = nI k) ∧ (∀ i, i < 400 → Y 169 i = X 133 i ∧ sm (X 133 i) 255 ∧ Y 170 i = wd_t i) ∧ Y 159 35 = X 0 10 ∧ Y 159 36 = X 0 11 ∧ Y 159 5 = 0 ∧ X 130 5 = 0 ∧ X 131 5 = 1 ∧
  (Y 159 69 = X 0 9 ∧ (X 0 9 = 0 ∨ X 0 9 = 1)) ∧ (X 0 9 = 1 → ∃ np nb : Nat, IW N np nb X 40 (vi Y))
theorem vn_jn (X Y : Mm) : vn (jn X Y) = vn Y := by
  funext g i
  unfold vn
  split
  case h_2 => split <;> rw [jn_hi (by omega)]
  all_goals rw [jn_hi (by omega)]
theorem mk3 {N np nb : Nat} {X Y : Mm} (hC : IC np nb X 1 (vn Y)) (hq : QR N np nb 8 X Y) (hL : IL X 1 (vn Y)) (hP : IP np nb X 1 (vn Y)) (hT : IT X 1 (vn Y)) (hU : IU2 N np nb X Y) (hX : IX2 N X Y) : Inv N (jn X Y) := by
  have J : ∀ a, a < 159 → jn X Y a = X a := fun a ha => jn_lo ha
  have V := vn_jn X Y
  refine ⟨np, nb, ⟨hC.cg (fun d h1 h2 => J _ (by omega)) (by rw [V]) (by rw [V]) (fun k _ _ => by rw [V]), ⟨hq.1.cg (fun k _ => ?_) (fun d hd => J _ (by omega)), hq.2.1.cg (fun d hd => J _ (by omega))⟩, fun i hi => ?_, hL.cg (fun d h1 h2 => J _ (by omega)) (fun k _ _ => by rw [V]), hP.cg (fun d h1 h2 => J _ (by omega)) (fun i _ _ => by rw [V]) (by rw [V]) (by rw [V]) (by rw [V]), hT.cg (fun d h1 h2 => J _ (by omega)) (fun i _ _ => by rw [V]) (fun k _ _ => by rw [V])⟩, hU.cg (fun a h1 h2 => J _ (by omega)) (jn_hi (by omega)) (jh 3 (by omega)), ?_⟩
  · rw [V]; rfl
  · rw [V, J _ (by omega)]
    exact hq.2.2 i hi
  · obtain ⟨⟨k, k1, k2, k3⟩, h2, h3, h4, h5, h6, h7, ⟨h8, h9⟩, h10⟩ := hX
    refine ⟨⟨k, k1, by rw [jl 1 (by omega)]; exact k2, by rw [jh 15 (by omega)]; exact k3⟩, fun i hi => by rw [jh i (by omega), jl i (by omega), jh i (by omega)]; exact h2 i hi, by rw [jh 35 (by omega), jl 10 (by omega)]; exact h3, by rw [jh 36 (by omega), jl 11 (by omega)]; exact h4, by rw [jh 5 (by omega)]; exact h5, by rw [jl 5 (by omega)]; exact h6, by rw [jl 5 (by omega)]; exact h7, ⟨by rw [jh 69 (by omega), jl 9 (by omega)]; exact h8, by rw [jl 9 (by omega)]; exact h9⟩, fun z => ?_⟩
    rw [jl 9 (by omega)] at z
    obtain ⟨a, b, hab⟩ := h10 z
    refine ⟨a, b, ?_⟩
    have ev : vi (jn X Y) = vi Y := by
      unfold vi
      rw [jn_hi (by omega)]
    rw [ev]
    exact hab.cg (fun d h1 h2 h3 => J _ (by omega))
theorem IX.two {N : Nat} {M : Mm} (h : IX N M) : IX2 N M (m_up M 159 0 0) := by
  obtain ⟨⟨k, k1, k2, k3⟩, h2, h3, h4, h5, h6, h7, ⟨h8, h9⟩, h10⟩ := h
  refine ⟨⟨k, k1, k2, by simpa [mu] using k3⟩, fun i hi => by rw [m_up_ne (by omega), m_up_ne (by omega)]; exact h2 i hi, by simpa [mu] using h3, by simpa [mu] using h4, by simpa [mu] using h5, h6, h7, ⟨by simpa [mu] using h8, h9⟩, fun z => ?_⟩
  obtain ⟨a, b, hab⟩ := h10 z
  refine ⟨a, b, ?_⟩
  have ev : vi (m_up M 159 0 0) = vi M := by
    unfold vi
    rw [m_up_ne (by omega)]
  rw [ev]
  exact hab
/-- the tape -/
def TR (k : Nat) (X Y : Mm) : Prop := X 132 1 = nI k ∧ Y 159 15 = nI k ∧ ∀ i, i < 400 → Y 169 i = X 133 i ∧ sm (X 133 i) 255
theorem byte_eq (x : Int32) {n : Nat} (hn : n ≤ 24) : (x.toUInt32 >>> ((nI n).toUInt32 &&& Int32.toUInt32 31)).toInt32 &&& 255 = (x >>> (nI n &&& 31)) &&& 255 := by
  apply b_ext
  intro i hi
  rw [b_and, b_and, b_ushr n (by omega), b_sshr n (by omega) x hi, b_255]
  by_cases h : i < 8
  · rw [if_pos (by omega)]
  · rw [decide_eq_false h, Bool.and_false, Bool.and_false]
theorem byte_sm (x : Int32) : sm (x &&& 255) 255 := by
  obtain ⟨j, h1, h2⟩ := pk_andE x (m := 255) 8 (by decide)
  exact ⟨j, by omega, h2⟩
theorem byte_st {k n : Nat} {X Y : Mm} (x : Int32) (hk : k < 400) (hn : n ≤ 24) (h : TR k X Y) : ∃ X' Y', TR (k + 1) X' Y' ∧ (∀ (Z : Mm) (K : Mm → Prop) (f : Nat), T_X7_append_3 f x (nI n + -8) (jn X' Z) K → T_X7_append_3 (f + 1) x (nI n) (jn X Z) K) ∧ (∀ (Z : Mm) (K : Mm → Prop) (f : Nat), T_X12_types_3 f x (nI n + -8) (jn Z Y') K → T_X12_types_3 (f + 1) x (nI n) (jn Z Y) K) ∧ (∀ a j, a ≠ 133 → ¬ (a = 132 ∧ j = 1) → X' a j = X a j) ∧ (∀ a j, a ≠ 169 → ¬ (a = 159 ∧ j = 15) → Y' a j = Y a j) := by
  obtain ⟨h1, h2, h3⟩ := h
  refine ⟨m_up (m_up X 133 k ((x >>> (nI n &&& 31)) &&& 255)) 132 1 (nI (k + 1)), m_up (m_up Y 169 k ((x >>> (nI n &&& 31)) &&& 255)) 159 15 (nI (k + 1)), ⟨by simp [mu], by simp [mu], fun i hi => ?_⟩, fun Z K f q => ?_, fun Z K f q => ?_, fun a j z1 z2 => by rw [mu, if_neg z2, m_up_ne z1], fun a j z1 z2 => by rw [mu, if_neg z2, m_up_ne z1]⟩
  · by_cases c : i = k
    · simp [mu, c]
      exact byte_sm _
    · simp [mu, c]
      exact h3 i hi
  · rw [T_X7_append_3, jl 1 (by omega), h1, nI_clamp (n := k) (by omega), byte_eq x hn]
    refine ⟨fun z => absurd z (nI_pos (by omega)), fun _ => pk_le 400 k (fun z => absurd z (by omega)) (fun _ => ⟨vp_in_nI (by omega) (by decide), fun M3 e3 M5 e5 y6 e6 => ?_⟩)⟩
    have w : M3 132 1 = nI k := by rw [e3, mu, if_neg (by omega), jl 1 (by omega)]; exact h1
    rw [e5, e6, w, e3, nI_1, jn_upl (by omega), jn_upl (by omega)]
    exact q
  · rw [T_X12_types_3, jh 15 (by omega), h2, nI_clamp (n := k) (by omega)]
    refine ⟨fun z => absurd z (nI_pos (by omega)), fun _ => ⟨vp_in_nI (by omega) (by decide), fun M3 e3 M5 e5 y6 e6 => ?_⟩⟩
    have w : M3 159 15 = nI k := by rw [e3, mu, if_neg (by omega), jh 15 (by omega)]; exact h2
    rw [e5, e6, w, e3, nI_1, jn_uph (by omega), jn_uph (by omega)]
    exact q
theorem four_ok {k : Nat} {X Y : Mm} (x : Int32) (hk : k + 4 ≤ 400) (h : TR k X Y) : ∃ X' Y', TR (k + 4) X' Y' ∧ VC (T_X7_append x) X X' ∧ VM (T_X12_types x) Y Y' ∧ (∀ a j, a ≠ 133 → ¬ (a = 132 ∧ j = 1) → X' a j = X a j) ∧ (∀ a j, a ≠ 169 → ¬ (a = 159 ∧ j = 15) → Y' a j = Y a j) := by
  obtain ⟨X1, Y1, a1, a2, a3, a4, a5⟩ := byte_st (n := 24) x (by omega) (by omega) h
  obtain ⟨X2, Y2, b1, b2, b3, b4, b5⟩ := byte_st (n := 16) x (by omega) (by omega) a1
  obtain ⟨X3, Y3, c1, c2, c3, c4, c5⟩ := byte_st (n := 8) x (by omega) (by omega) b1
  obtain ⟨X4, Y4, d1, d2, d3, d4, d5⟩ := byte_st (n := 0) x (by omega) (by omega) c1
  refine ⟨X4, Y4, d1, fun Z K q => ?_, fun Z K q => ?_, fun a j z1 z2 => by rw [d4 a j z1 z2, c4 a j z1 z2, b4 a j z1 z2, a4 a j z1 z2], fun a j z1 z2 => by rw [d5 a j z1 z2, c5 a j z1 z2, b5 a j z1 z2, a5 a j z1 z2]⟩
  · rw [T_X7_append]
    refine a2 Z K 4999 (b2 Z K 4998 (c2 Z K 4997 (d2 Z K 4996 ?_)))
    rw [T_X7_append_3]
    exact ⟨fun _ => q, fun z => absurd (by decide) z⟩
  · rw [T_X12_types]
    refine a3 Z K 4999 (b3 Z K 4998 (c3 Z K 4997 (d3 Z K 4996 ?_)))
    rw [T_X12_types_3]
    exact ⟨fun _ => q, fun z => absurd (by decide) z⟩
theorem IW40.cg {N np nb : Nat} {X X' Y Y' : Mm} (h : IW N np nb X 40 (vi Y)) (e : ∀ a, 40 ≤ a → a ≤ 78 → X' a = X a) (e2 : Y' 199 = Y 199) : IW N np nb X' 40 (vi Y') := by
  have ev : vi Y' = vi Y := by
    unfold vi
    rw [e2]
  rw [ev]
  exact h.cg (fun d h1 h2 h3 => e _ (by omega) (by omega))
set_option maxHeartbeats 2000000 in
theorem ah_feed {N : Nat} {M : Mm} (h : Inv N M) (x y z u v : Int32) : Ah (T_X11_feed x y z u v) (T_X12_feed x y z u v) N M := by
  have hf := h.t0 (x := 0)
  obtain ⟨np, nb, hI, hX, hS, hq, hU, hg⟩ := h.beg
  obtain ⟨k, hk, k1, k2⟩ := hX.1
  have hX2 := hX.two
  have k3 : m_up M 159 0 0 159 15 = nI k := by simpa [mu] using k2
  have e20 : nI k + 20 = nI (k + 20) := nI_add k 20
  by_cases ck : k + 20 ≤ 400
  rotate_left
  · have c1 : ¬ nI (k + 20) ≤ (400 : Int32) := nI_ge (a := 400) (by omega) (by omega)
    have c2 : ¬ nI k ≤ (380 : Int32) := nI_ge (a := 380) (by omega) (by omega)
    refine Ag.ah ⟨-1, M, m_up M 159 0 0, fun K q => ?_, fun K q => ?_, hf⟩
    · rw [T_X11_feed, k1, e20]
      exact ⟨fun w => absurd w c1, fun _ => q⟩
    · rw [T_X12_feed]
      intro M1 e1
      subst e1
      rw [k3]
      exact ⟨fun w => absurd w c2, fun _ => q⟩
  have t0 : TR k M (m_up M 159 0 0) := ⟨k1, k3, fun i hi => ⟨(hX2.2.1 i hi).1, (hX2.2.1 i hi).2.1⟩⟩
  obtain ⟨X1, Y1, a1, a2, a3, a4, a5⟩ := four_ok x (by omega) t0
  obtain ⟨X2, Y2, b1, b2, b3, b4, b5⟩ := four_ok y (by omega) a1
  obtain ⟨X3, Y3, c1, c2, c3, c4, c5⟩ := four_ok z (by omega) b1
  obtain ⟨X4, Y4, d1, d2, d3, d4, d5⟩ := four_ok u (by omega) c1
  obtain ⟨X5, Y5, f1, f2, f3, f4, f5⟩ := four_ok v (by omega) d1
  have E : ∀ a j, a ≠ 133 → ¬ (a = 132 ∧ j = 1) → X5 a j = M a j := fun a j z1 z2 => by rw [f4 a j z1 z2, d4 a j z1 z2, c4 a j z1 z2, b4 a j z1 z2, a4 a j z1 z2]
  have F : ∀ a j, a ≠ 169 → ¬ (a = 159 ∧ j = 15) → Y5 a j = m_up M 159 0 0 a j := fun a j z1 z2 => by rw [f5 a j z1 z2, d5 a j z1 z2, c5 a j z1 z2, b5 a j z1 z2, a5 a j z1 z2]
  have ER : ∀ a, a ≠ 133 → a ≠ 132 → X5 a = M a := fun a z1 z2 => funext fun j => E a j z1 (fun w => z2 w.1)
  have V : vn Y5 = vn M := by
    funext g i
    unfold vn
    split
    case h_2 => split <;> rw [F _ _ (by omega) (by omega), mu, if_neg (by omega)]
    all_goals rw [F _ _ (by omega) (by omega), mu, if_neg (by omega)]
  obtain ⟨hC, ⟨hQ, hW⟩, hB, hL, hP, hT⟩ := id hI
  have c1' : nI (k + 20) ≤ (400 : Int32) := nI_le (b := 400) (by omega) (by decide)
  have c2' : nI k ≤ (380 : Int32) := nI_le (b := 380) (by omega) (by decide)
  refine ⟨nI (k + 20), jn X5 M, jn X5 Y5, fun K q => ?_, fun K q => ?_, Inv.mono (N := N) (mk3 (np := np) (nb := nb) (by rw [V]; exact hC.cg (fun d _ _ => ER _ (by omega) (by omega)) rfl rfl (fun _ _ _ => rfl)) ⟨hQ.cg (fun j _ => ?_) (fun d _ => ER _ (by omega) (by omega)), hW.cg (fun d _ => ER _ (by omega) (by omega)), fun i hi => ?_⟩ (by rw [V]; exact hL.cg (fun d _ _ => ER _ (by omega) (by omega)) (fun _ _ _ => rfl)) (by rw [V]; exact hP.cg (fun d _ _ => ER _ (by omega) (by omega)) (fun _ _ _ => rfl) rfl rfl rfl) (by rw [V]; exact hT.cg (fun d _ _ => ER _ (by omega) (by omega)) (fun _ _ _ => rfl) (fun _ _ _ => rfl)) (hU.cg (fun a _ _ => ER _ (by omega) (by omega)) (funext fun j => F 161 j (by omega) (by omega)) (F 159 3 (by omega) (by omega))) ?_) (by omega)⟩
  · have : T_X11_feed x y z u v (jn M M) K := by
      rw [T_X11_feed, jl 1 (by omega), k1, e20]
      refine ⟨fun _ => a2 M _ (b2 M _ (c2 M _ (d2 M _ (f2 M _ ?_)))), fun w => absurd c1' w⟩
      rw [jl 1 (by omega), f1.1]
      exact q
    rw [jn_self] at this
    exact this
  · rw [T_X12_feed]
    intro M1 e1
    rw [jn_uph (by omega)] at e1
    subst e1
    rw [jh 15 (by omega), k3]
    refine ⟨fun _ => a3 X5 _ (b3 X5 _ (c3 X5 _ (d3 X5 _ (f3 X5 _ ?_)))), fun w => absurd c2' w⟩
    rw [jh 15 (by omega), f1.2.1]
    exact q
  · rw [F 160 j (by omega) (by omega), mu, if_neg (by omega)]; rfl
  · rw [F 168 i (by omega) (by omega), E 15 i (by omega) (by omega), mu, if_neg (by omega)]
    exact hB i hi
  · obtain ⟨-, h2, h3, h4, h5, h6, h7, ⟨h8, h9⟩, h10⟩ := hX2
    refine ⟨⟨k + 20, by omega, f1.1, f1.2.1⟩, fun i hi => ⟨(f1.2.2 i hi).1, (f1.2.2 i hi).2, by rw [F 170 i (by omega) (by omega)]; exact (h2 i hi).2.2⟩, by rw [F 159 35 (by omega) (by omega), ER 0 (by omega) (by omega)]; exact h3, by rw [F 159 36 (by omega) (by omega), ER 0 (by omega) (by omega)]; exact h4, by rw [F 159 5 (by omega) (by omega)]; exact h5, by rw [ER 130 (by omega) (by omega)]; exact h6, by rw [ER 131 (by omega) (by omega)]; exact h7, ⟨by rw [F 159 69 (by omega) (by omega), ER 0 (by omega) (by omega)]; exact h8, by rw [ER 0 (by omega) (by omega)]; exact h9⟩, fun z => ?_⟩
    rw [ER 0 (by omega) (by omega)] at z
    obtain ⟨a, b, hab⟩ := h10 z
    exact ⟨a, b, IW40.cg hab (fun a h1 h2 => ER a (by omega) (by omega)) (funext fun j => F 199 j (by omega) (by omega))⟩
