/-! swaps: who points at what -/
/-- two_v of n + 1 places_v have one value, if there_v are but n -/
theorem php_i : ∀ (n : Nat) (f : Nat → Nat), (∀ i, i ≤ n → f i < n) → ∃ i j, i < j ∧ j ≤ n ∧ f i = f j
  | 0, f, h => absurd (h 0 (Nat.le_refl _)) (by omega)
  | n + 1, f, h => by
    by_cases c : ∃ i, i ≤ n ∧ f i = f (n + 1)
    · obtain ⟨i, hi, ei⟩ := c
      exact ⟨i, n + 1, by omega, by omega, ei⟩
    · have hn : ∀ i, i ≤ n → ¬ f i = f (n + 1) := fun i hi z => c ⟨i, hi, z⟩
      obtain ⟨i, j, h1, h2, h3⟩ := php_i n (fun i => if f i = n then f (n + 1) else f i) (fun i hi => by
        have h5 := h i (by omega)
        have h6 := h (n + 1) (by omega)
        have h7 := hn i hi
        by_cases c2 : f i = n
        · rw [if_pos c2]; omega
        · rw [if_neg c2]; omega)
      refine ⟨i, j, h1, by omega, ?_⟩
      have h3 : (if f i = n then f (n + 1) else f i) = (if f j = n then f (n + 1) else f j) := h3
      by_cases ci : f i = n
      · by_cases cj : f j = n
        · rw [ci, cj]
        · rw [if_pos ci, if_neg cj] at h3
          exact absurd h3.symm (hn j h2)
      · by_cases cj : f j = n
        · rw [if_neg ci, if_pos cj] at h3
          exact absurd h3 (hn i (by omega))
        · rw [if_neg ci, if_neg cj] at h3
          exact h3
/-- the steps_v from b by p -/
def itr (p : Nat → Nat) (b : Nat) : Nat → Nat
  | 0 => b
  | n + 1 => p (itr p b n)
theorem itr_add (p : Nat → Nat) (b m : Nat) : ∀ n, itr p b (m + n) = itr p (itr p b m) n
  | 0 => rfl
  | n + 1 => by rw [← Nat.add_assoc, itr, itr_add p b m n, itr]
theorem itr_lt {p : Nat → Nat} {b : Nat} (hp : ∀ i, i < 8 → p i < 8) (hb : b < 8) : ∀ n, itr p b n < 8
  | 0 => hb
  | n + 1 => hp _ (itr_lt hp hb n)
/-- back within eight steps_v, or never_v -/
theorem itr_8 {p : Nat → Nat} {b n : Nat} (hp : ∀ i, i < 8 → p i < 8) (hb : b < 8) (h9 : itr p b 9 = b) : ∃ k, 1 ≤ k ∧ k ≤ 8 ∧ itr p b k = b := by
  refine Classical.byContradiction fun hn => ?_
  have hn : ∀ k, 1 ≤ k → k ≤ 8 → ¬ itr p b k = b := fun k h1 h2 h3 => hn ⟨k, h1, h2, h3⟩
  obtain ⟨i, j, h1, h2, h3⟩ := php_i 8 (itr p b) (fun i _ => itr_lt hp hb i)
  have e : itr p b (i + (9 - j)) = itr p b (j + (9 - j)) := by rw [itr_add, itr_add, h3]
  rw [show j + (9 - j) = 9 by omega, h9] at e
  exact hn _ (by omega) (by omega) e
/-- what b wants most of those that are left: the first place_v of his_v order_v -/
def fst8 (R : Nat → Nat) (s b : Nat) (k : Nat) : Prop := k < 8 ∧ s / 2 ^ R (8 * b + k) % 2 = 1 ∧ ∀ j, j < k → ¬ s / 2 ^ R (8 * b + j) % 2 = 1
set_option maxHeartbeats 1000000 in
theorem dear_lp {R : Nat → Nat} {s b k : Nat} {Y Z : Mm} {K : Int32 → Mm → Prop} (hs : s < 256) (hb : b < 8) (hR : ∀ i, i < 64 → R i < 8 ∧ Y 190 i + nI (i % 8) = nI (R i)) (hk : fst8 R s b k) (hK : K (nI (R (8 * b + k))) (jn Z Y)) : ∀ f j, j ≤ k → k - j < f → T_X12_dearestOf_2 f (nI b) (nI s) (nI j) (jn Z Y) K := by
  intro f
  induction f with
  | zero => intro j _ h; exact absurd h (Nat.not_lt_zero _)
  | succ f ih =>
    intro j hj hf
    obtain ⟨k1, k2, k3⟩ := hk
    have e1 : (8 : Int32) * nI b + nI j = nI (8 * b + j) := by rw [show (8 : Int32) = nI 8 from rfl, pk_mul, nI_add]
    obtain ⟨r1, r2⟩ := hR (8 * b + j) (by omega)
    rw [show (8 * b + j) % 8 = j by omega] at r2
    have v6 : vp_in (nI (8 * b + j)) 64 := vp_in_nI (by omega) (by decide)
    rw [T_X12_dearestOf_2, e1, nI_clamp (n := 8 * b + j) (by omega), jh _ (by omega), r2]
    refine ⟨v6, hasM (by omega) (by omega) (fun h1 => ⟨fun z => absurd z (by decide), fun _ => ⟨v6, ?_⟩⟩) (fun h1 => ⟨fun _ y7 e7 => ?_, fun z => absurd rfl z⟩)⟩
    · have ek : j = k := by
        by_cases c : j = k
        · exact c
        · exact absurd h1 (k3 j (by omega))
      rw [jh _ (by omega), r2, ek]
      exact hK
    · have : j ≠ k := fun z => by rw [z] at h1; exact h1 k2
      rw [e7, nI_1]
      exact ih (j + 1) (by omega) (by omega)
/-- as the class points: places_v i .. 7 have been looked at -/
theorem point_in {R : Nat → Nat} {s b : Nat} {X Z : Mm} {P : Nat → Nat} (hs : s < 256) (hb : b < 8) (hR : ∀ i, i < 64 → R i < 8 ∧ X 34 i = nI (R i)) (hP : ∃ k, fst8 R s b k ∧ P b = R (8 * b + k)) {K : Mm → Prop} {B : Int32 → Int32 → Mm → Prop} : ∀ m f X1, m ≤ 8 → m < f → (∀ a, a ≠ 158 → X1 a = X a) → ((∃ k, m ≤ k ∧ k < 8 ∧ s / 2 ^ R (8 * b + k) % 2 = 1) → ∃ k, m ≤ k ∧ k < 8 ∧ s / 2 ^ R (8 * b + k) % 2 = 1 ∧ (∀ j, m ≤ j → j < k → ¬ s / 2 ^ R (8 * b + j) % 2 = 1) ∧ X1 158 b = nI (R (8 * b + k))) → (∀ X2, (∀ a j, ¬ (a = 158 ∧ j = b) → X2 a j = X1 a j) → X2 158 b = nI (P b) → B (nI s) (nI (b + 1)) (jn X2 Z)) → T_X8_pointAll_19 B 30 f (nI s) (nI b) (nI m + -1) (jn X1 Z) K := by
  have r34 : rf 30 3 = 34 := by decide
  intro m
  induction m with
  | zero =>
    intro f X1 hm hf hX hk hB
    obtain ⟨f, rfl⟩ : ∃ g, f = g + 1 := ⟨f - 1, by omega⟩
    rw [show nI 0 + -1 = (-1 : Int32) from by decide, T_X8_pointAll_19]
    refine ⟨fun _ y3 e3 => ?_, fun z => absurd (by decide) z⟩
    rw [e3, nI_1]
    refine hB X1 (fun _ _ _ => rfl) ?_
    obtain ⟨k, ⟨k1, k2, k3⟩, ek⟩ := hP
    obtain ⟨k', -, a2, a3, a4, a5⟩ := hk ⟨k, by omega, k1, k2⟩
    have : k' = k := by
      rcases Nat.lt_trichotomy k k' with c | c | c
      · exact absurd k2 (a4 k (by omega) c)
      · exact c.symm
      · exact absurd a3 (k3 k' c)
    rw [a5, this, ek]
  | succ m ih =>
    intro f X1 hm hf hX hk hB
    obtain ⟨f, rfl⟩ : ∃ g, f = g + 1 := ⟨f - 1, by omega⟩
    obtain ⟨r1, r2⟩ := hR (8 * b + m) (by omega)
    have e1 : nI b * 8 + nI m = nI (8 * b + m) := by rw [show (8 : Int32) = nI 8 from rfl, pk_mul, nI_add]; congr 1; omega
    have r2' : jn X1 Z 34 (8 * b + m) = nI (R (8 * b + m)) := by rw [jl _ (by omega), hX 34 (by omega)]; exact r2
    rw [pk_m1, T_X8_pointAll_19, r34, e1, nI_clamp (n := 8 * b + m) (by omega), r2', nI_clamp (n := b) (by omega)]
    refine ⟨fun z => absurd z (nI_pos (by omega)), fun _ => ⟨vp_in_nI (by omega) (by decide), fun y5 e5 => ?_⟩⟩
    subst e5
    rw [bit_c (by omega) (by omega)]
    refine pk_eq (s / 2 ^ R (8 * b + m) % 2) 1 (fun h1 => ⟨vp_in_nI (by omega) (by decide), fun M7 e7 => ?_⟩) (fun h1 => ?_)
    · rw [T_X8_pointAll_56]
      intro y1 ey
      rw [ey, e7, jn_upl (by omega)]
      refine ih f (m_up X1 158 b (nI (R (8 * b + m)))) (by omega) (by omega) (fun a ha => by rw [m_up_ne ha, hX a ha]) (fun _ => ⟨m, Nat.le_refl _, by omega, h1, fun j z1 z2 => absurd z2 (by omega), by rw [mu, if_pos ⟨rfl, rfl⟩]⟩) (fun X2 z1 z2 => hB X2 (fun a j w => by rw [z1 a j w, mu, if_neg w]) z2)
    · rw [T_X8_pointAll_56]
      intro y1 ey
      rw [ey]
      refine ih f X1 (by omega) (by omega) hX (fun ⟨k, z1, z2, z3⟩ => ?_) hB
      have : k ≠ m := fun z => by rw [z] at z3; exact h1 z3
      obtain ⟨k', b1, b2, b3, b4, b5⟩ := hk ⟨k, by omega, z2, z3⟩
      refine ⟨k', by omega, b2, b3, fun j c1 c2 => ?_, b5⟩
      by_cases cj : j = m
      · rw [cj]; exact h1
      · exact b4 j (by omega) c2
/-- b comes back -/
def rtn (P : Nat → Nat) (b : Nat) : Prop := ∃ k, 1 ≤ k ∧ k ≤ 8 ∧ itr P b k = b
theorem goesC_lp {P : Nat → Nat} {b : Nat} {M : Mm} {K : Int32 → Mm → Prop} (hP : ∀ c, c < 8 → P c < 8 ∧ M 158 c = nI (P c)) (hb : b < 8) (h1 : rtn P b → K 1 M) (h0 : ¬ rtn P b → K 0 M) : ∀ f i, i ≤ 8 → 8 - i < f → (∀ k, 1 ≤ k → k ≤ i → ¬ itr P b k = b) → T_X8_goesRound_9 f (nI b) (nI (itr P b (i + 1))) (nI i) M K := by
  have hl := itr_lt (p := P) (fun i hi => (hP i hi).1) hb
  intro f
  induction f with
  | zero => intro i _ h; exact absurd h (Nat.not_lt_zero _)
  | succ f ih =>
    intro i hi hf hno
    have hi1 := hl (i + 1)
    rw [T_X8_goesRound_9]
    refine pk_le 8 i (fun h => ?_) (fun h => pk_eq (itr P b (i + 1)) b (fun c => ?_) (fun c => ?_))
    · have e : i = 8 := by omega
      subst e
      have nr : ¬ rtn P b := fun ⟨k, k1, k2, k3⟩ => hno k k1 k2 k3
      have n9 : ¬ itr P b (8 + 1) = b := fun z => by
        obtain ⟨k, k1, k2, k3⟩ := itr_8 (n := 0) (fun i hi => (hP i hi).1) hb z
        exact hno k k1 k2 k3
      rw [T_X8_goesRound_43]
      exact pk_eq (itr P b (8 + 1)) b (fun c => absurd c n9) (fun _ => h0 nr)
    · rw [T_X8_goesRound_43]
      exact pk_eq (itr P b (i + 1)) b (fun _ => h1 ⟨i + 1, by omega, by omega, c⟩) (fun z => absurd c z)
    · have ci : (0 : Int32) ≤ nI (itr P b (i + 1)) ∧ nI (itr P b (i + 1)) ≤ 7 := ⟨nI_pos' (by omega), nI_le (b := 7) (by omega) (by decide)⟩
      rw [iw_pos ci]
      refine ⟨fun z => absurd z (by decide), fun _ => ?_⟩
      rw [nI_clamp (n := itr P b (i + 1)) (by omega), (hP _ hi1).2]
      refine ⟨vp_in_nI hi1 (by decide), fun y9 e9 y10 e10 => ?_⟩
      rw [e9, e10, nI_1]
      refine ih (i + 1) (by omega) (by omega) (fun k k1 k2 => ?_)
      by_cases ck : k = i + 1
      · rw [ck]; exact c
      · exact hno k k1 (by omega)
theorem dear_ok {R : Nat → Nat} {P : Nat → Nat} {s b : Nat} {Y Z : Mm} {K : Int32 → Mm → Prop} (hs : s < 256) (hb : b < 8) (hR : ∀ i, i < 64 → R i < 8 ∧ Y 190 i + nI (i % 8) = nI (R i)) (hP : ∃ k, fst8 R s b k ∧ P b = R (8 * b + k)) (hK : K (nI (P b)) (jn Z Y)) : T_X12_dearestOf (nI b) (nI s) (jn Z Y) K := by
  obtain ⟨k, hk, ek⟩ := hP
  rw [T_X12_dearestOf]
  rw [ek] at hK
  exact dear_lp hs hb hR hk hK 5000 0 (by omega) (by have := hk.1; omega)
theorem goesM_lp {R : Nat → Nat} {P : Nat → Nat} {s b : Nat} {Y Z : Mm} {K : Int32 → Mm → Prop} (hs : s < 256) (hR : ∀ i, i < 64 → R i < 8 ∧ Y 190 i + nI (i % 8) = nI (R i)) (hP : ∀ c, c < 8 → P c < 8 ∧ ∃ k, fst8 R s c k ∧ P c = R (8 * c + k)) (hb : b < 8) (h1 : rtn P b → K 1 (jn Z Y)) (h0 : ¬ rtn P b → K 0 (jn Z Y)) : ∀ f i, i ≤ 8 → 8 - i < f → (∀ k, 1 ≤ k → k ≤ i → ¬ itr P b k = b) → T_X12_goesRound_10 f (nI b) (nI s) (nI (itr P b (i + 1))) (nI i) (jn Z Y) K := by
  have hl := itr_lt (p := P) (fun i hi => (hP i hi).1) hb
  intro f
  induction f with
  | zero => intro i _ h; exact absurd h (Nat.not_lt_zero _)
  | succ f ih =>
    intro i hi hf hno
    have hi1 := hl (i + 1)
    rw [T_X12_goesRound_10]
    refine pk_le 8 i (fun h => ?_) (fun h => pk_eq (itr P b (i + 1)) b (fun c => h1 ⟨i + 1, by omega, by omega, c⟩) (fun c => ?_))
    · have e : i = 8 := by omega
      subst e
      exact h0 (fun ⟨k, k1, k2, k3⟩ => hno k k1 k2 k3)
    · refine dear_ok hs hi1 hR (hP _ hi1).2 (fun y6 e6 => ?_)
      rw [e6, nI_1]
      refine ih (i + 1) (by omega) (by omega) (fun k k1 k2 => ?_)
      by_cases ck : k = i + 1
      · rw [ck]; exact c
      · exact hno k k1 (by omega)
theorem bit_tb {s k : Nat} : s / 2 ^ k % 2 = 1 ↔ s.testBit k = true := by
  rw [Nat.testBit_eq_decide_div_mod_eq, decide_eq_true_iff]
set_option maxHeartbeats 2000000 in
/-- one go: all who come back are served -/
theorem trade_in {R P : Nat → Nat} {s : Nat} {i g : Nat} (hs : s < 256) (hP : ∀ c, c < 8 → P c < 8 ∧ ∃ k, fst8 R s c k ∧ P c = R (8 * c + k)) : ∀ m b X Y o, b + m = 8 → (∀ c, c < 8 → X 158 c = nI (P c)) → (∀ i, i < 64 → R i < 8 ∧ Y 190 i + nI (i % 8) = nI (R i)) → o < 256 → (∀ c, o.testBit c = true ↔ (c < b ∧ s.testBit c = true ∧ rtn P c)) → (∀ c, c < 8 → (s.testBit c = false ∨ (c < b ∧ rtn P c)) → X 154 c = Y 191 c) →
    ∃ o' X' Y', o' < 256 ∧ (∀ (Z : Mm) (K : Int32 → Mm → Prop) (B : Int32 → Int32 → Int32 → Mm → Prop) (f : Nat), m < f → B (nI s &&& (nI o' ^^^ -1)) (nI (g + 1)) (nI (i + 1)) (jn X' Z) → T_X8_trade_32 B 30 f (nI s) (nI g) (nI i) (nI o) (nI b) (jn X Z) K) ∧ (∀ (Z : Mm) (K : Int32 → Mm → Prop) (B : Int32 → Int32 → Mm → Prop) (f : Nat), m < f → B (nI s &&& (nI o' ^^^ -1)) (nI (g + 1)) (jn Z Y') → T_X12_findsSwaps_15 B f (nI s) (nI g) (nI o) (nI b) (jn Z Y) K) ∧ (∀ c, o'.testBit c = true ↔ (c < 8 ∧ s.testBit c = true ∧ rtn P c)) ∧ (∀ c, c < 8 → (s.testBit c = false ∨ rtn P c) → X' 154 c = Y' 191 c) ∧ (∀ a, a ≠ 154 → X' a = X a) ∧ (∀ a, a ≠ 191 → Y' a = Y a) := by
  intro m
  induction m with
  | zero =>
    intro b X Y o hbm hX hR ho hob hG
    have e : b = 8 := by omega
    subst e
    refine ⟨o, X, Y, ho, fun Z K B f hf q => ?_, fun Z K B f hf q => ?_, hob, fun c hc hh => hG c hc (hh.elim Or.inl (fun z => Or.inr ⟨hc, z⟩)), fun _ _ => rfl, fun _ _ => rfl⟩
    · obtain ⟨f, rfl⟩ : ∃ g, f = g + 1 := ⟨f - 1, by omega⟩
      rw [T_X8_trade_32]
      refine pk_le 8 8 (fun _ y3 e3 y4 e4 y5 e5 => ?_) (fun z => absurd z (by omega))
      rw [e3, e4, e5, nI_1, nI_1]
      exact q
    · obtain ⟨f, rfl⟩ : ∃ g, f = g + 1 := ⟨f - 1, by omega⟩
      rw [T_X12_findsSwaps_15]
      refine pk_le 8 8 (fun _ y3 e3 y4 e4 => ?_) (fun z => absurd z (by omega))
      rw [e3, e4, nI_1]
      exact q
  | succ m ih =>
    intro b X Y o hbm hX hR ho hob hG
    have hb : b < 8 := by omega
    have vb : vp_in (nI b) 8 := vp_in_nI hb (by decide)
    have cb : (nI b).toNatClampNeg = b := nI_clamp (by omega)
    by_cases hit_v : s.testBit b = true ∧ rtn P b
    · obtain ⟨t1, t2⟩ := hit_v
      have t1' := bit_tb.mpr t1
      have ho2 : o ||| 2 ^ b < 256 := Nat.or_lt_two_pow (n := 8) ho (Nat.pow_lt_pow_right (by omega) hb)
      obtain ⟨o', X', Y', i0, i1, i2, i3, i4, i5, i6⟩ := ih (b + 1) (m_up X 154 b (nI (P b))) (m_up Y 191 b (nI (P b))) (o ||| 2 ^ b) (by omega) (fun c hc => by rw [m_up_ne (by omega)]; exact hX c hc) (fun j hj => by rw [m_up_ne (by omega)]; exact hR j hj) ho2 (fun c => by
        rw [Nat.testBit_or, Nat.testBit_two_pow, Bool.or_eq_true, hob c, decide_eq_true_iff]
        constructor
        · rintro (⟨c1, c2⟩ | c1)
          · exact ⟨by omega, c2⟩
          · rw [← c1]; exact ⟨by omega, t1, t2⟩
        · rintro ⟨c1, c2⟩
          by_cases cc : b = c
          · exact Or.inr cc
          · exact Or.inl ⟨by omega, c2⟩) (fun c hc hh => by
        by_cases cc : c = b
        · rw [cc, mu, if_pos ⟨rfl, rfl⟩, mu, if_pos ⟨rfl, rfl⟩]
        · rw [mu, if_neg (by omega), mu, if_neg (by omega)]
          exact hG c hc (hh.elim Or.inl (fun z => Or.inr ⟨by omega, z.2⟩)))
      refine ⟨o', X', Y', i0, fun Z K B f hf q => ?_, fun Z K B f hf q => ?_, i3, i4, fun a h => by rw [i5 a h, m_up_ne h], fun a h => by rw [i6 a h, m_up_ne h]⟩
      · obtain ⟨f, rfl⟩ : ∃ g, f = g + 1 := ⟨f - 1, by omega⟩
        rw [T_X8_trade_32, bit_c (by omega) (by omega)]
        refine pk_le 8 b (fun z => absurd z (by omega)) (fun _ => pk_eq (s / 2 ^ b % 2) 1 (fun _ => ?_) (fun z => absurd t1' z))
        rw [T_X8_goesRound, cb, jl b (by omega), hX b hb]
        refine ⟨vb, fun y12 e12 => ?_⟩
        subst e12
        refine goesC_lp (P := P) (M := jn X Z) (fun c hc => ⟨(hP c hc).1, by rw [jl c (by omega)]; exact hX c hc⟩) hb (fun _ => ⟨fun z => absurd z (by decide), fun _ => ⟨vb, vb, fun M12 e12 y14 e14 => ?_⟩⟩) (fun z => absurd t2 z) 5000 0 (by omega) (by omega) (fun k k1 k2 => absurd k2 (by omega))
        rw [shl_c (by omega), nx_or] at e14
        rw [jl b (by omega), hX b hb, jn_upl (by omega)] at e12
        rw [T_X8_trade_81]
        intro y1 ey
        rw [ey, e14, e12, nI_1]
        exact i1 Z K B f (by omega) q
      · obtain ⟨f, rfl⟩ : ∃ g, f = g + 1 := ⟨f - 1, by omega⟩
        rw [T_X12_findsSwaps_15]
        refine pk_le 8 b (fun z => absurd z (by omega)) (fun _ => hasM (by omega) (by omega) (fun _ => ⟨fun z => absurd z (by decide), fun _ => ?_⟩) (fun z => absurd t1' z))
        rw [T_X12_goesRound]
        refine dear_ok (P := P) hs hb hR (hP b hb).2 ?_
        refine goesM_lp (R := R) (P := P) hs hR hP hb (fun _ => ⟨fun z => absurd z (by decide), fun _ => ?_⟩) (fun z => absurd t2 z) 5000 0 (by omega) (by omega) (fun k k1 k2 => absurd k2 (by omega))
        refine dear_ok (P := P) hs hb hR (hP b hb).2 ⟨vb, fun M16 e16 y18 e18 => ?_⟩
        rw [shl_c (by omega), nx_or] at e18
        rw [cb, jn_uph (by omega)] at e16
        rw [T_X12_findsSwaps_66]
        intro y1 ey
        rw [ey, e18, e16, nI_1]
        exact i2 Z K B f (by omega) q
    · obtain ⟨o', X', Y', i0, i1, i2, i3, i4, i5, i6⟩ := ih (b + 1) X Y o (by omega) hX hR ho (fun c => by
        rw [hob c]
        constructor
        · rintro ⟨c1, c2⟩; exact ⟨by omega, c2⟩
        · rintro ⟨c1, c2⟩
          by_cases cc : c = b
          · rw [cc] at c2; exact absurd c2 hit_v
          · exact ⟨by omega, c2⟩) (fun c hc hh => by
        by_cases cc : c = b
        · rcases hh with z | z
          · exact hG c hc (Or.inl z)
          · by_cases sb : s.testBit c = true
            · rw [cc] at sb z; exact absurd ⟨sb, z.2⟩ hit_v
            · exact hG c hc (Or.inl (by simpa using sb))
        · exact hG c hc (hh.elim Or.inl (fun z => Or.inr ⟨by omega, z.2⟩)))
      refine ⟨o', X', Y', i0, fun Z K B f hf q => ?_, fun Z K B f hf q => ?_, i3, i4, i5, i6⟩
      · obtain ⟨f, rfl⟩ : ∃ g, f = g + 1 := ⟨f - 1, by omega⟩
        rw [T_X8_trade_32, bit_c (by omega) (by omega)]
        simp only [T_X8_trade_81, forall_eq, nI_1]
        have go := i1 Z K B f (by omega) q
        refine pk_le 8 b (fun z => absurd z (by omega)) (fun _ => pk_eq (s / 2 ^ b % 2) 1 (fun t1 => ?_) (fun _ => go))
        rw [T_X8_goesRound, cb, jl b (by omega), hX b hb]
        refine ⟨vb, fun y12 e12 => ?_⟩
        subst e12
        exact goesC_lp (P := P) (M := jn X Z) (fun c hc => ⟨(hP c hc).1, by rw [jl c (by omega)]; exact hX c hc⟩) hb (fun z => absurd ⟨bit_tb.mp t1, z⟩ hit_v) (fun _ => ⟨fun _ => go, fun z => absurd rfl z⟩) 5000 0 (by omega) (by omega) (fun k k1 k2 => absurd k2 (by omega))
      · obtain ⟨f, rfl⟩ : ∃ g, f = g + 1 := ⟨f - 1, by omega⟩
        rw [T_X12_findsSwaps_15]
        simp only [T_X12_findsSwaps_66, forall_eq, nI_1]
        have go := i2 Z K B f (by omega) q
        refine pk_le 8 b (fun z => absurd z (by omega)) (fun _ => hasM (by omega) (by omega) (fun t1 => ⟨fun z => absurd z (by decide), fun _ => ?_⟩) (fun _ => ⟨fun _ => go, fun z => absurd rfl z⟩))
        rw [T_X12_goesRound]
        refine dear_ok (P := P) hs hb hR (hP b hb).2 ?_
        exact goesM_lp (R := R) (P := P) hs hR hP hb (fun z => absurd ⟨bit_tb.mp t1, z⟩ hit_v) (fun _ => ⟨fun _ => go, fun z => absurd rfl z⟩) 5000 0 (by omega) (by omega) (fun k k1 k2 => absurd k2 (by omega))
def ptX (X : Mm) (P : Nat → Nat) : Mm := fun a j => if a = 158 ∧ j < 8 then nI (P j) else X a j
theorem point_ok {R P : Nat → Nat} {s : Nat} {X : Mm} (hs : s < 256) (hR : ∀ i, i < 64 → R i < 8 ∧ X 34 i = nI (R i)) (hP : ∀ c, c < 8 → P c < 8 ∧ ∃ k, fst8 R s c k ∧ P c = R (8 * c + k)) : VC (T_X8_pointAll 30 (nI s)) X (ptX X P) := by
  intro Z K hK
  have L : ∀ m b X1 f, b + m = 8 → m < f → (∀ a j, ¬ (a = 158 ∧ j < b) → X1 a j = X a j) → (∀ c, c < b → X1 158 c = nI (P c)) → T_X8_pointAll_2 30 f (nI s) (nI b) (jn X1 Z) K := by
    intro m
    induction m with
    | zero =>
      intro b X1 f hbm hf h1 h2
      obtain ⟨f, rfl⟩ : ∃ g, f = g + 1 := ⟨f - 1, by omega⟩
      have e : b = 8 := by omega
      subst e
      have eX : X1 = ptX X P := by
        funext a j
        unfold ptX
        by_cases c : a = 158 ∧ j < 8
        · rw [if_pos c, c.1]; exact h2 j c.2
        · rw [if_neg c]; exact h1 a j c
      rw [T_X8_pointAll_2, eX]
      exact pk_le 8 8 (fun _ => hK) (fun z => absurd z (by omega))
    | succ m ih =>
      intro b X1 f hbm hf h1 h2
      obtain ⟨f, rfl⟩ : ∃ g, f = g + 1 := ⟨f - 1, by omega⟩
      have hb : b < 8 := by omega
      rw [T_X8_pointAll_2, nI_clamp (n := b) (by omega)]
      refine pk_le 8 b (fun z => absurd z (by omega)) (fun _ => ⟨vp_in_nI hb (by decide), fun M10 e10 => ?_⟩)
      rw [e10, jn_upl (by omega)]
      have := point_in (R := R) (s := s) (b := b) (X := X) (Z := Z) (P := P) (K := K) (B := fun x2 x3 M => T_X8_pointAll_2 30 f x2 x3 M K) hs hb hR (hP b hb).2 8 5000 (m_up X1 158 b (nI b)) (by omega) (by omega) (fun a ha => by
        rw [m_up_ne ha]
        exact funext fun j => h1 a j (fun w => ha w.1)) (fun ⟨k, z1, z2, _⟩ => absurd z1 (by omega)) (fun X2 z1 z2 => ih (b + 1) X2 f (by omega) (by omega) (fun a j w => by
        rw [z1 a j (by omega), mu, if_neg (by omega)]
        exact h1 a j (by omega)) (fun c hc => by
        by_cases cc : c = b
        · rw [cc]; exact z2
        · rw [z1 158 c (by omega), mu, if_neg (by omega)]; exact h2 c (by omega)))
      exact this
  rw [T_X8_pointAll]
  exact L 8 0 X 5000 (by omega) (by omega) (fun _ _ _ => rfl) (fun c hc => absurd hc (by omega))
/-- how many bits_v of the first n -/
def sbt (s : Nat) : Nat → Nat
  | 0 => 0
  | n + 1 => sbt s n + (if s.testBit n = true then 1 else 0)
theorem sbt_le {s t : Nat} (h : ∀ i, t.testBit i = true → s.testBit i = true) : ∀ n, sbt t n ≤ sbt s n
  | 0 => Nat.le_refl _
  | n + 1 => by
    rw [sbt, sbt]
    have := sbt_le h n
    by_cases c : t.testBit n = true
    · rw [if_pos c, if_pos (h n c)]; omega
    · rw [if_neg c]; split <;> omega
theorem sbt_lt {s t b : Nat} (h : ∀ i, t.testBit i = true → s.testBit i = true) (hb1 : s.testBit b = true) (hb0 : t.testBit b = false) : ∀ n, b < n → sbt t n < sbt s n
  | 0, hn => absurd hn (by omega)
  | n + 1, hn => by
    rw [sbt, sbt]
    by_cases c : b = n
    · subst c
      rw [if_pos hb1, hb0]
      have := sbt_le h b
      simp; omega
    · have := sbt_lt h hb1 hb0 n (by omega)
      by_cases c : t.testBit n = true
      · rw [if_pos c, if_pos (h n c)]; omega
      · rw [if_neg c]; split <;> omega
set_option maxHeartbeats 2000000 in
theorem ah_swaps {N : Nat} {M : Mm} (h : Inv N M) (x : Int32) : Ah (T_X11_swaps x) (T_X12_swaps x) N M := by
  have hf := h.t0 (x := 0)
  by_cases cx : (-1 : Int32) ≤ x ∧ x ≤ 7
  rotate_left
  · exact Ag.ah ⟨-1, M, _, fun K q => by simpa [T_X11_swaps, iw_neg cx] using q, fun K q => by simpa [T_X12_swaps, ii_neg cx] using q, hf⟩
  obtain ⟨np, nb, ⟨-, -, -, -, -, hT⟩, -, -⟩ := id h
  obtain ⟨-, -, -, t4, t4', -⟩ := hT
  obtain ⟨R, eR⟩ : ∃ R : Nat → Nat, R = fun i => (M 34 i).toNatClampNeg := ⟨_, rfl⟩
  have hRx : ∀ i, i < 64 → R i < 8 ∧ M 34 i = nI (R i) := fun i hi => by
    obtain ⟨v, hv, ev⟩ := (t4 i hi).2
    have ev : M 34 i = nI v := ev
    rw [eR]
    show (M 34 i).toNatClampNeg < 8 ∧ M 34 i = nI (M 34 i).toNatClampNeg
    rw [ev, nI_clamp (by omega)]
    exact ⟨by omega, rfl⟩
  have hRy : ∀ i, i < 64 → R i < 8 ∧ M 190 i + nI (i % 8) = nI (R i) := fun i hi => ⟨(hRx i hi).1, ((t4 i hi).1).trans (hRx i hi).2⟩
  have cov : ∀ b t, b < 8 → t < 8 → ∃ k, k < 8 ∧ R (8 * b + k) = t := fun b t hb ht => by
    obtain ⟨k, hk, ek⟩ := t4' b t hb ht
    refine ⟨k, hk, ?_⟩
    have ek : M 34 (8 * b + k) = nI t := ek
    rw [(hRx (8 * b + k) (by omega)).2] at ek
    exact (nI_eq (by have := (hRx (8 * b + k) (by omega)).1; omega) (by omega)).mp ek
  -- the points, where something is left
  have pts : ∀ s, s < 256 → s ≠ 0 → ∃ P : Nat → Nat, ∀ c, c < 8 → P c < 8 ∧ ∃ k, fst8 R s c k ∧ P c = R (8 * c + k) := by
    intro s hs hs0
    have ex : ∀ c, c < 8 → ∃ k, fst8 R s c k := by
      intro c hc
      obtain ⟨t, ht⟩ := Nat.exists_testBit_of_ne_zero hs0
      have ht8 : t < 8 := Nat.not_le.mp fun z => by
        have := Nat.ge_two_pow_of_testBit ht
        have := Nat.pow_le_pow_right (n := 2) (by omega) z
        omega
      obtain ⟨k, hk, ek⟩ := cov c t hc ht8
      obtain ⟨k', ⟨a1, a2⟩, a3⟩ := pk_least (fun k => k < 8 ∧ s / 2 ^ R (8 * c + k) % 2 = 1) ⟨k, hk, by rw [ek]; exact bit_tb.mpr ht⟩
      exact ⟨k', a1, a2, fun j hj z => a3 j hj ⟨by omega, z⟩⟩
    have all : ∀ c, ∃ p, c < 8 → p < 8 ∧ ∃ k, fst8 R s c k ∧ p = R (8 * c + k) := by
      intro c
      by_cases hc : c < 8
      · obtain ⟨k, hk⟩ := ex c hc
        exact ⟨R (8 * c + k), fun _ => ⟨(hRx _ (by have := hk.1; omega)).1, k, hk, rfl⟩⟩
      · exact ⟨0, fun z => absurd z hc⟩
    exact ⟨fun c => Classical.choose (all c), fun c hc => Classical.choose_spec (all c) hc⟩
  -- all goes_v
  have main : ∀ n s i X Y, sbt s 8 ≤ n → s < 256 → i + sbt s 8 ≤ 8 → (∀ a, a ≠ 154 → a ≠ 158 → X a = M a) → (∀ a, a ≠ 191 → Y a = m_up M 159 0 0 a) → (∀ c, c < 8 → s.testBit c = false → X 154 c = Y 191 c) →
      ∃ g X' Y', (∀ (Z : Mm) (K : Int32 → Mm → Prop) (f : Nat), n < f → K (nI g) (jn X' Z) → T_X8_trade_9 30 f (nI s) (nI i) (nI i) (jn X Z) K) ∧ (∀ (Z : Mm) (K : Int32 → Mm → Prop) (f : Nat), n < f → K (nI g) (jn Z Y') → T_X12_findsSwaps_6 f (nI s) (nI i) (jn Z Y) K) ∧ (∀ a, a ≠ 154 → a ≠ 158 → X' a = M a) ∧ (∀ a, a ≠ 191 → Y' a = m_up M 159 0 0 a) ∧ (∀ c, c < 8 → X' 154 c = Y' 191 c) := by
    intro n
    induction n with
    | zero =>
      intro s i X Y hn hs hi g1 g2 g3
      have hs0 : s = 0 := by
        refine Classical.byContradiction fun hs0 => ?_
        obtain ⟨t, ht⟩ := Nat.exists_testBit_of_ne_zero hs0
        have ht8 : t < 8 := Nat.not_le.mp fun z => by
          have := Nat.ge_two_pow_of_testBit ht
          have := Nat.pow_le_pow_right (n := 2) (by omega) z
          omega
        have := sbt_lt (s := s) (t := 0) (b := t) (fun j z => by rw [Nat.zero_testBit] at z; cases z) ht (Nat.zero_testBit t) 8 ht8
        omega
      subst hs0
      refine ⟨i, X, Y, fun Z K f hf q => ?_, fun Z K f hf q => ?_, g1, g2, fun c hc => g3 c hc (Nat.zero_testBit c)⟩
      · obtain ⟨f, rfl⟩ : ∃ g, f = g + 1 := ⟨f - 1, by omega⟩
        rw [T_X8_trade_9]
        exact ⟨fun _ => q, fun _ => ⟨fun _ => q, fun z => absurd rfl z⟩⟩
      · obtain ⟨f, rfl⟩ : ∃ g, f = g + 1 := ⟨f - 1, by omega⟩
        rw [T_X12_findsSwaps_6]
        exact ⟨fun _ => q, fun z => absurd rfl z⟩
    | succ n ih =>
      intro s i X Y hn hs hi g1 g2 g3
      by_cases hs0 : s = 0
      · subst hs0
        refine ⟨i, X, Y, fun Z K f hf q => ?_, fun Z K f hf q => ?_, g1, g2, fun c hc => g3 c hc (Nat.zero_testBit c)⟩
        · obtain ⟨f, rfl⟩ : ∃ g, f = g + 1 := ⟨f - 1, by omega⟩
          rw [T_X8_trade_9]
          exact ⟨fun _ => q, fun _ => ⟨fun _ => q, fun z => absurd rfl z⟩⟩
        · obtain ⟨f, rfl⟩ : ∃ g, f = g + 1 := ⟨f - 1, by omega⟩
          rw [T_X12_findsSwaps_6]
          exact ⟨fun _ => q, fun z => absurd rfl z⟩
      · obtain ⟨P, hP⟩ := pts s hs hs0
        have x34 : ∀ j, j < 64 → R j < 8 ∧ X 34 j = nI (R j) := fun j hj => by rw [g1 34 (by omega) (by omega)]; exact hRx j hj
        have pt := point_ok (R := R) (P := P) (X := X) hs x34 hP
        have pa : ∀ a, a ≠ 158 → ptX X P a = X a := fun a ha => funext fun j => by unfold ptX; rw [if_neg (fun w => ha w.1)]
        obtain ⟨o, X2, Y2, o1, i1, i2, i3, i4, i5, i6⟩ := trade_in (i := i) (g := i) hs hP 8 0 (ptX X P) Y 0 (by omega) (fun c hc => by unfold ptX; rw [if_pos ⟨rfl, hc⟩]) (fun j hj => by rw [g2 190 (by omega), m_up_ne (by omega)]; exact hRy j hj) (by omega) (fun c => by
          rw [Nat.zero_testBit]
          constructor
          · intro z; cases z
          · rintro ⟨z, -⟩; exact absurd z (by omega)) (fun c hc hh => by
          rw [pa 154 (by omega)]
          rcases hh with z | z
          · exact g3 c hc z
          · exact absurd z.1 (by omega))
        have es : nI s &&& (nI o ^^^ -1) = nI (s &&& (o ^^^ 4294967295)) := by
          rw [show (-1 : Int32) = nI 4294967295 from by decide, nx_xor, nx_and]
        have hs' : s &&& (o ^^^ 4294967295) < 256 := Nat.lt_of_le_of_lt Nat.and_le_left hs
        have bits_v : ∀ c, c < 8 → ((s &&& (o ^^^ 4294967295)).testBit c = true ↔ (s.testBit c = true ∧ o.testBit c = false)) := by
          intro c hc
          rw [Nat.testBit_and, Nat.testBit_xor, show (4294967295 : Nat) = 2 ^ 32 - 1 from rfl, Nat.testBit_two_pow_sub_one, decide_eq_true (by omega : c < 32), Bool.and_eq_true, Bool.xor_true]
          cases o.testBit c <;> simp
        have sub : ∀ c, (s &&& (o ^^^ 4294967295)).testBit c = true → s.testBit c = true := fun c z => by
          rw [Nat.testBit_and, Bool.and_eq_true] at z
          exact z.1
        -- somebody comes back
        obtain ⟨b, hb, b1, b2⟩ : ∃ b, b < 8 ∧ s.testBit b = true ∧ rtn P b := by
          obtain ⟨t, ht⟩ := Nat.exists_testBit_of_ne_zero hs0
          have ht8 : t < 8 := Nat.not_le.mp fun z => by
            have := Nat.ge_two_pow_of_testBit ht
            have := Nat.pow_le_pow_right (n := 2) (by omega) z
            omega
          have hl := itr_lt (p := P) (fun j hj => (hP j hj).1) ht8
          obtain ⟨u, v, h1, h2, h3⟩ := php_i 8 (itr P t) (fun j _ => hl j)
          refine ⟨itr P t u, hl u, ?_, v - u, by omega, by omega, ?_⟩
          · rcases Nat.eq_zero_or_pos u with z | z
            · rw [z]; exact ht
            · obtain ⟨w, rfl⟩ : ∃ w, u = w + 1 := ⟨u - 1, by omega⟩
              obtain ⟨-, k, hk, ek⟩ := hP (itr P t w) (hl w)
              show s.testBit (P (itr P t w)) = true
              rw [ek]
              exact bit_tb.mp hk.2.1
          · rw [← itr_add, show u + (v - u) = v by omega]
            exact h3.symm
        have ob : o.testBit b = true := (i3 b).mpr ⟨hb, b1, b2⟩
        have lt := sbt_lt sub b1 (by
          cases hz : (s &&& (o ^^^ 4294967295)).testBit b with
          | false => rfl
          | true => rw [((bits_v b hb).mp hz).2] at ob; cases ob) 8 hb
        obtain ⟨g, X', Y', j1, j2, j3⟩ := ih (s &&& (o ^^^ 4294967295)) (i + 1) X2 Y2 (by omega) hs' (by omega) (fun a z1 z2 => by rw [i5 a z1, pa a z2, g1 a z1 z2]) (fun a z => by rw [i6 a z, g2 a z]) (fun c hc z => by
          refine i4 c hc ?_
          by_cases sc : s.testBit c = true
          · right
            have oc : o.testBit c = true := by
              cases ho : o.testBit c with
              | true => rfl
              | false => rw [(bits_v c hc).mpr ⟨sc, ho⟩] at z; cases z
            exact ((i3 c).mp oc).2.2
          · left
            simpa using sc)
        refine ⟨g, X', Y', fun Z K f hf q => ?_, fun Z K f hf q => ?_, j3⟩
        · obtain ⟨f, rfl⟩ : ∃ g, f = g + 1 := ⟨f - 1, by omega⟩
          rw [T_X8_trade_9]
          refine pk_le 8 i (fun z => absurd z (by omega)) (fun _ => ⟨fun z => absurd z (nI_ne0 (by omega) (by omega)), fun _ => pt Z _ ?_⟩)
          refine i1 Z K _ 5000 (by omega) ?_
          rw [es]
          exact j1 Z K f (by omega) q
        · obtain ⟨f, rfl⟩ : ∃ g, f = g + 1 := ⟨f - 1, by omega⟩
          rw [T_X12_findsSwaps_6]
          refine ⟨fun z => absurd z (nI_ne0 (by omega) (by omega)), fun _ => i2 Z K _ 5000 (by omega) ?_⟩
          rw [es]
          exact j2 Z K f (by omega) q
  obtain ⟨g, X', Y', j1, j2, j3, j4, j5⟩ := main 8 255 0 M (m_up M 159 0 0) (by decide) (by omega) (by decide) (fun _ _ _ => rfl) (fun _ _ => rfl) (fun c hc z => by
    rw [show (255 : Nat) = 2 ^ 8 - 1 from rfl, Nat.testBit_two_pow_sub_one, decide_eq_true hc] at z
    cases z)
  have fr2 : fr M (jn X' Y') := by
    intro a j hfa
    have h1 : a ≠ 154 := fun w => by rw [w] at hfa; cases hfa
    have h2 : a ≠ 158 := fun w => by rw [w] at hfa; cases hfa
    have h3 : a ≠ 191 := fun w => by rw [w] at hfa; cases hfa
    by_cases ha : a < 159
    · rw [jl j ha, j3 a h1 h2]
    · rw [jh j (by omega), j4 a h3, mu, if_neg (fun w => by rw [w.1, w.2] at hfa; cases hfa)]
  have hx : x = -1 ∨ ∃ b, b < 8 ∧ x = nI b := by
    by_cases c : x = -1
    · exact Or.inl c
    · right
      have c2 : ¬ x < 0 := fun z => c (by
        have z1 := cx.1
        rw [le_I] at z1
        rw [lt_I] at z
        apply Int32.toInt_inj.mp
        have e1 : (-1 : Int32).toInt = -1 := by decide
        have e0 : (0 : Int32).toInt = 0 := by decide
        omega)
      obtain ⟨b, hb, rfl⟩ := nI_of c2
      exact ⟨b, by have := (nI_leI (b := 7) hb (by decide)).mp cx.2; omega, rfl⟩
  have cls : ∀ (K : Int32 → Mm → Prop), ((x = -1 → K (nI g) (jn X' M)) ∧ (¬ x = -1 → vp_in x 8 ∧ K (X' 154 x.toNatClampNeg) (jn X' M))) → T_X11_swaps x M K := by
    intro K k
    have : T_X11_swaps x (jn M M) K := by
      rw [T_X11_swaps, iw_pos cx]
      refine ⟨fun w => absurd w (by decide), fun _ => ?_⟩
      rw [T_X8_trade]
      refine j1 M _ 5000 (by omega) ?_
      rw [jl _ (by omega)]
      exact k
    rw [jn_self] at this
    exact this
  have mdl : ∀ (K : Int32 → Mm → Prop), ((x = -1 → K (nI g) (jn X' Y')) ∧ (¬ x = -1 → vp_in x 8 ∧ K (Y' 191 x.toNatClampNeg) (jn X' Y'))) → T_X12_swaps x (jn X' M) K := by
    intro K k
    rw [T_X12_swaps]
    intro M1 e1
    rw [jn_uph (by omega)] at e1
    subst e1
    rw [ii_pos cx]
    refine ⟨fun w => absurd w (by decide), fun _ => ?_⟩
    rw [T_X12_findsSwaps]
    refine j2 X' _ 5000 (by omega) ?_
    rw [jh _ (by omega)]
    exact k
  rcases hx with e | ⟨b, hb, e⟩
  · exact ⟨nI g, jn X' M, jn X' Y', fun K q => cls K ⟨fun _ => q, fun z => absurd e z⟩, fun K q => mdl K ⟨fun _ => q, fun z => absurd e z⟩, (h.fr fr2).mono (by omega)⟩
  · have nx : ¬ x = -1 := by rw [e]; exact nI_m1 (by omega)
    have vx : vp_in x 8 := by rw [e]; exact vp_in_nI hb (by decide)
    have ex : x.toNatClampNeg = b := by rw [e]; exact nI_clamp (by omega)
    refine ⟨X' 154 b, jn X' M, jn X' Y', fun K q => cls K ⟨fun z => absurd z nx, fun _ => ⟨vx, ?_⟩⟩, fun K q => mdl K ⟨fun z => absurd z nx, fun _ => ⟨vx, ?_⟩⟩, (h.fr fr2).mono (by omega)⟩
    · rw [ex]; exact q
    · rw [ex, ← j5 b hb]; exact q
