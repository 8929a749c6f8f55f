def dgt (w i : Nat) : Nat := w / 10 ^ i % 10
theorem dgt_lt (w i : Nat) : dgt w i < 10 := Nat.mod_lt _ (by omega)
/-- the set of the first n of f -/
def orD (f : Nat → Nat) : Nat → Nat
  | 0 => 0
  | n + 1 => orD f n ||| 2 ^ (f n)
theorem orD_bit (f : Nat → Nat) (t : Nat) : ∀ n, (orD f n).testBit t = decide (∃ i, i < n ∧ f i = t)
  | 0 => by
    rw [orD, Nat.zero_testBit, decide_eq_false]
    rintro ⟨i, h, -⟩
    exact absurd h (by omega)
  | n + 1 => by
    rw [orD, Nat.testBit_or, orD_bit f t n, Nat.testBit_two_pow, ← Bool.decide_or]
    apply decide_eq_decide.mpr
    constructor
    · rintro (⟨i, h1, h2⟩ | h)
      · exact ⟨i, by omega, h2⟩
      · exact ⟨n, by omega, h⟩
    · rintro ⟨i, h1, h2⟩
      by_cases c : i = n
      · rw [c] at h2; exact Or.inr h2
      · exact Or.inl ⟨i, by omega, h2⟩
theorem orD_lt {f : Nat → Nat} (hf : ∀ i, f i < 10) : ∀ n, orD f n < 2 ^ 10
  | 0 => by rw [orD]; decide
  | n + 1 => by
    rw [orD]
    exact Nat.or_lt_two_pow (orD_lt hf n) (Nat.pow_lt_pow_right (by omega) (hf n))
theorem orD_255 {f : Nat → Nat} {n : Nat} : orD f n = 255 ↔ ∀ t, (∃ i, i < n ∧ f i = t) ↔ t < 8 := by
  constructor
  · intro h t
    have := orD_bit f t n
    rw [h, show 255 = 2 ^ 8 - 1 from rfl, Nat.testBit_two_pow_sub_one] at this
    exact (decide_eq_decide.mp this).symm
  · intro h
    apply Nat.eq_of_testBit_eq
    intro t
    rw [orD_bit, show 255 = 2 ^ 8 - 1 from rfl, Nat.testBit_two_pow_sub_one]
    exact decide_eq_decide.mpr (h t)
/-- n places_v can't have n + 1 values -/
theorem php_s : ∀ (n : Nat) (f : Nat → Nat), ¬ ∀ t, t ≤ n → ∃ i, i < n ∧ f i = t
  | 0, f, h => by
    obtain ⟨i, hi, -⟩ := h 0 (by omega)
    exact absurd hi (by omega)
  | n + 1, f, h => by
    refine php_s n (fun i => if f i = n + 1 then f n else f i) (fun t ht => ?_)
    by_cases c : t = f n
    · obtain ⟨i, hi, ei⟩ := h (n + 1) (by omega)
      have hin : i ≠ n := fun z => by rw [z] at ei; omega
      refine ⟨i, by omega, ?_⟩
      rw [if_pos ei]; exact c.symm
    · obtain ⟨i, hi, ei⟩ := h t (by omega)
      have hin : i ≠ n := fun z => by rw [z] at ei; exact c ei.symm
      refine ⟨i, by omega, ?_⟩
      rw [if_neg (by omega)]; exact ei
/-- the greatest of n digits that are 0 .. n - 1 -/
def mxd : Nat → Nat
  | 0 => 0
  | n + 1 => n * 10 ^ n + mxd n
theorem rank_mx (w : Nat) : ∀ n, (∀ t, t < n → ∃ i, i < n ∧ dgt w i = t) → w % 10 ^ n ≤ mxd n
  | 0, _ => by rw [Nat.pow_zero, Nat.mod_one]; omega
  | n + 1, h => by
    have e : w % 10 ^ (n + 1) = dgt w n * 10 ^ n + w % 10 ^ n := by
      unfold dgt
      rw [Nat.pow_succ, Nat.mod_mul, Nat.mul_comm (w / 10 ^ n % 10), Nat.add_comm]
    have hp : 0 < 10 ^ n := Nat.pow_pos (by omega)
    have hm := Nat.mod_lt w hp
    rw [e, mxd]
    rcases Nat.lt_trichotomy (dgt w n) n with c | c | c
    · have h1 : (dgt w n + 1) * 10 ^ n ≤ n * 10 ^ n := Nat.mul_le_mul_right _ c
      rw [Nat.add_mul, Nat.one_mul] at h1
      omega
    · have := rank_mx w n (fun t ht => by
        obtain ⟨i, hi, ei⟩ := h t (by omega)
        refine ⟨i, ?_, ei⟩
        by_cases z : i = n
        · rw [z] at ei; omega
        · omega)
      rw [c]
      omega
    · exfalso
      refine php_s n (dgt w) (fun t ht => ?_)
      obtain ⟨i, hi, ei⟩ := h t (by omega)
      refine ⟨i, ?_, ei⟩
      by_cases z : i = n
      · rw [z] at ei; omega
      · omega
theorem rank_top {w : Nat} (h : orD (dgt w) 8 = 255) (hw : w / 10 ^ 8 = 0) : w ≤ 76543210 := by
  have h1 := rank_mx w 8 (fun t ht => (orD_255.mp h t).mpr ht)
  have h2 : mxd 8 = 76543210 := by decide
  have h3 : w % 10 ^ 8 = w := Nat.mod_eq_of_lt (by omega)
  omega
theorem dgt_rem {w i : Nat} (hw : w < 2 ^ 31) : nI (w / 10 ^ i) - nI (w / 10 ^ i) / 10 * 10 = nI (dgt w i) := by
  have h : w / 10 ^ i ≤ w := Nat.div_le_self _ _
  rw [show (10 : Int32) = nI 10 from rfl, pk_rem (by omega) (by omega) (by decide)]
  rfl
theorem dgt_div {w i : Nat} (hw : w < 2 ^ 31) : nI (w / 10 ^ i) / 10 = nI (w / 10 ^ (i + 1)) := by
  have h : w / 10 ^ i ≤ w := Nat.div_le_self _ _
  rw [show (10 : Int32) = nI 10 from rfl, pk_div (by omega) (by omega) (by decide), Nat.div_div_eq_div_mul, Nat.pow_succ]
theorem isRank_lp {w : Nat} {M : Mm} {K : Int32 → Mm → Prop} (hw : w < 2 ^ 31) (h1 : w / 10 ^ 8 = 0 → orD (dgt w) 8 = 255 → K 1 M) (h0 : ¬ (w / 10 ^ 8 = 0 ∧ orD (dgt w) 8 = 255) → K 0 M) : ∀ f i, i ≤ 8 → 8 - i < f → T_X9_isRank_13 30 f (nI (w / 10 ^ i)) (nI (orD (dgt w) i)) (nI i) M K := by
  intro f
  induction f with
  | zero => intro i _ h; exact absurd h (Nat.not_lt_zero _)
  | succ f ih =>
    intro i hi hf
    have hd : w / 10 ^ i ≤ w := Nat.div_le_self _ _
    have ho := orD_lt (dgt_lt w) i
    rw [T_X9_isRank_13, dgt_rem hw, dgt_div hw, shl_c (by have := dgt_lt w i; omega), nx_or]
    refine pk_le 8 i (fun h => ?_) (fun h => ?_)
    · have e : i = 8 := by omega
      subst e
      refine pk_eq (w / 10 ^ 8) 0 (fun c => pk_eq (orD (dgt w) 8) 255 (fun c2 => h1 c c2) (fun c2 => h0 (fun z => c2 z.2))) (fun c => h0 (fun z => c z.1))
    · intro y4 e4 y5 e5 y6 e6
      rw [e4, e5, e6, nI_1]
      exact ih (i + 1) (by omega) (by omega)
theorem digit_lp {w p : Nat} {M : Mm} {K : Int32 → Mm → Prop} (hw : w < 2 ^ 31) (hp : p ≤ 7) (hK : K (nI (dgt w (7 - p))) M) : ∀ f j, j ≤ 7 - p → 7 - p - j < f → T_X12_digitOf_6 f (nI p) (nI (w / 10 ^ j)) (nI (7 - j)) M K := by
  intro f
  induction f with
  | zero => intro i _ h; exact absurd h (Nat.not_lt_zero _)
  | succ f ih =>
    intro j hj hf
    rw [T_X12_digitOf_6, dgt_rem hw, dgt_div hw]
    refine pk_le (7 - j) p (fun h => ?_) (fun h => ?_)
    · have e : j = 7 - p := by omega
      rw [e]; exact hK
    · intro y2 e2 y3 e3
      obtain ⟨t, ht⟩ : ∃ t, 7 - j = t + 1 := ⟨6 - j, by omega⟩
      rw [ht, pk_m1] at e3
      rw [e2, e3, show t = 7 - (j + 1) by omega]
      exact ih (j + 1) (by omega) (by omega)
theorem digit_ok {w p : Nat} {M : Mm} {K : Int32 → Mm → Prop} (hw : w < 2 ^ 31) (hp : p ≤ 7) (hK : K (nI (dgt w (7 - p))) M) : T_X12_digitOf (nI w) (nI p) M K := by
  have := digit_lp hw hp hK 5000 0 (by omega) (by omega)
  rw [Nat.pow_zero, Nat.div_one] at this
  rw [T_X12_digitOf]
  exact this
theorem rank35_lp {w b : Nat} {M : Mm} {K : Int32 → Mm → Prop} (hw : w < 2 ^ 31) (h1 : orD (fun k => dgt w (7 - k)) 8 = 255 → T_X12_rank_72 5000 (nI b) (nI w) 0 M K) (h0 : ¬ orD (fun k => dgt w (7 - k)) 8 = 255 → K 0 M) : ∀ f i, i ≤ 8 → 8 - i < f → T_X12_rank_35 f (nI b) (nI w) (nI (orD (fun k => dgt w (7 - k)) i)) (nI i) M K := by
  intro f
  induction f with
  | zero => intro i _ h; exact absurd h (Nat.not_lt_zero _)
  | succ f ih =>
    intro i hi hf
    have ho := orD_lt (f := fun k => dgt w (7 - k)) (fun k => dgt_lt w (7 - k)) i
    rw [T_X12_rank_35]
    refine pk_le 8 i (fun h => ?_) (fun h => ?_)
    · have e : i = 8 := by omega
      subst e
      exact pk_eq (orD (fun k => dgt w (7 - k)) 8) 255 h1 h0
    · refine digit_ok hw (by omega) ?_
      intro y13 e13 y14 e14
      rw [shl_c (by have := dgt_lt w (7 - i); omega), nx_or] at e13
      rw [e13, e14, nI_1]
      exact ih (i + 1) (by omega) (by omega)
/-- the orders as they are written_v -/
def rkX (X : Mm) (b w n : Nat) : Mm := fun a j => if a = 34 ∧ 8 * b ≤ j ∧ j < 8 * b + n then nI (dgt w (7 - (j - 8 * b))) else X a j
def rkY (Y : Mm) (b w n : Nat) : Mm := fun a j => if a = 190 ∧ 8 * b ≤ j ∧ j < 8 * b + n then nI (dgt w (7 - (j - 8 * b))) - nI (j - 8 * b) else Y a j
theorem take_lp {w b : Nat} {Z : Mm} {K : Int32 → Mm → Prop} (hw : w < 2 ^ 31) (hb : b < 8) : ∀ i f X, i < 8 → i + 1 < f → K 1 (jn (rkX X b w (i + 1)) Z) → T_X9_takeRank_16 30 f (nI b) (nI (w / 10 ^ (7 - i))) (nI i) (jn X Z) K := by
  have e34 : rf 30 3 = 34 := by decide
  intro i
  induction i with
  | zero =>
    intro f X hi hf hK
    obtain ⟨f, rfl⟩ : ∃ g, f = g + 2 := ⟨f - 2, by omega⟩
    have e1 : nI b * 8 + nI 0 = nI (8 * b) := by rw [show (8 : Int32) = nI 8 from rfl, pk_mul, nI_add]; congr 1; omega
    rw [T_X9_takeRank_16, e34, e1, nI_clamp (n := 8 * b) (by omega), dgt_rem hw]
    refine ⟨fun z => absurd z (by decide), fun _ => ⟨vp_in_nI (by omega) (by decide), fun M2 e2 y4 e4 y5 e5 => ?_⟩⟩
    have e5' : y5 = -1 := by rw [e5]; decide
    have e2' : M2 = jn (rkX X b w 1) Z := by
      rw [e2, jn_upl (by omega)]
      congr 1
      funext a j
      rw [mu]
      unfold rkX
      by_cases c : a = 34 ∧ j = 8 * b
      · rw [if_pos c, if_pos (by omega), show j - 8 * b = 0 by omega]
      · rw [if_neg c, if_neg (by omega)]
    rw [e5', T_X9_takeRank_16, e2']
    exact ⟨fun _ => hK, fun z => absurd (by decide) z⟩
  | succ i ih =>
    intro f X hi hf hK
    obtain ⟨f, rfl⟩ : ∃ g, f = g + 1 := ⟨f - 1, by omega⟩
    have e1 : nI b * 8 + nI (i + 1) = nI (8 * b + (i + 1)) := by rw [show (8 : Int32) = nI 8 from rfl, pk_mul, nI_add]; congr 1; omega
    rw [T_X9_takeRank_16, e34, e1, nI_clamp (n := 8 * b + (i + 1)) (by omega), dgt_rem hw, dgt_div hw]
    refine ⟨fun z => absurd z (nI_pos (by omega)), fun _ => ⟨vp_in_nI (by omega) (by decide), fun M2 e2 y4 e4 y5 e5 => ?_⟩⟩
    rw [pk_m1] at e5
    rw [e5, e4, e2, jn_upl (by omega), show 7 - (i + 1) + 1 = 7 - i by omega]
    refine ih f _ (by omega) (by omega) ?_
    have e : rkX (m_up X 34 (8 * b + (i + 1)) (nI (dgt w (7 - (i + 1))))) b w (i + 1) = rkX X b w (i + 1 + 1) := by
      funext a j
      unfold rkX
      rw [mu]
      by_cases c : a = 34 ∧ 8 * b ≤ j ∧ j < 8 * b + (i + 1)
      · rw [if_pos c, if_pos (by omega)]
      · rw [if_neg c]
        by_cases c2 : a = 34 ∧ j = 8 * b + (i + 1)
        · rw [if_pos c2, if_pos (by omega), show j - 8 * b = i + 1 by omega]
        · rw [if_neg c2, if_neg (by omega)]
    rw [e]
    exact hK
theorem put72_lp {w b : Nat} {Y Z : Mm} {K : Int32 → Mm → Prop} (hw : w < 2 ^ 31) (hb : b < 8) (hK : K 1 (jn Z (rkY Y b w 8))) : ∀ f i, i ≤ 8 → 8 - i < f → T_X12_rank_72 f (nI b) (nI w) (nI i) (jn Z (rkY Y b w i)) K := by
  intro f
  induction f with
  | zero => intro i _ h; exact absurd h (Nat.not_lt_zero _)
  | succ f ih =>
    intro i hi hf
    rw [T_X12_rank_72]
    refine pk_le 8 i (fun h => ?_) (fun h => ?_)
    · have e : i = 8 := by omega
      subst e; exact hK
    · refine digit_ok hw (by omega) ?_
      have e1 : (8 : Int32) * nI b + nI i = nI (8 * b + i) := by rw [show (8 : Int32) = nI 8 from rfl, pk_mul, nI_add]
      rw [e1, nI_clamp (n := 8 * b + i) (by omega)]
      refine ⟨vp_in_nI (by omega) (by decide), fun M5 e5 y7 e7 => ?_⟩
      have e : M5 = jn Z (rkY Y b w (i + 1)) := by
        rw [e5, jn_uph (by omega)]
        congr 1
        funext a j
        rw [mu]
        unfold rkY
        by_cases c : a = 190 ∧ j = 8 * b + i
        · rw [if_pos c, if_pos (by omega), show j - 8 * b = i by omega]
        · rw [if_neg c]
          by_cases c2 : a = 190 ∧ 8 * b ≤ j ∧ j < 8 * b + i
          · rw [if_pos c2, if_pos (by omega)]
          · rw [if_neg c2, if_neg (by omega)]
      rw [e, e7, nI_1]
      exact ih (i + 1) (by omega) (by omega)
set_option maxHeartbeats 2000000 in
theorem ah_rank {N : Nat} {M : Mm} (h : Inv N M) (x y : Int32) : Ah (T_X11_rank x y) (T_X12_rank x y) N M := by
  have hf := h.t0 (x := 0)
  by_cases cx : (0 : Int32) ≤ x ∧ x ≤ 7
  rotate_left
  · exact Ag.ah ⟨0, M, _, fun K q => by simpa [T_X11_rank, iw_neg cx] using q, fun K q => by simpa [T_X12_rank, ii_neg cx] using q, hf⟩
  obtain ⟨b, -, hb, rfl⟩ := rng (a := 0) (b := 7) (by decide) (by decide) cx
  by_cases cy : y < 0
  · have c1 : ¬ (0 : Int32) ≤ y := Int32.not_le.mpr cy
    refine Ag.ah ⟨0, M, m_up M 159 0 0, fun K q => ?_, fun K q => ?_, hf⟩
    · rw [T_X11_rank, iw_pos cx]
      refine ⟨fun z => absurd z (by decide), fun _ => ?_⟩
      rw [T_X9_takeRank, T_X9_isRank]
      exact ⟨fun z => absurd z c1, fun _ => ⟨fun _ => ⟨fun _ => q, fun z => absurd rfl z⟩, fun z => absurd rfl z⟩⟩
    · rw [T_X12_rank]
      intro M1 e1
      subst e1
      rw [ii_pos cx]
      refine ⟨fun z => absurd z (by decide), fun _ => ?_⟩
      rw [ii_neg (fun z => c1 z.1)]
      exact ⟨fun _ => q, fun z => absurd rfl z⟩
  obtain ⟨w, hw, rfl⟩ := nI_of cy
  have h0 : (0 : Int32) ≤ nI w := nI_pos' hw
  -- both_v sets are one
  have same_v : orD (fun k => dgt w (7 - k)) 8 = orD (dgt w) 8 := by
    apply Nat.eq_of_testBit_eq
    intro t
    rw [orD_bit, orD_bit]
    apply decide_eq_decide.mpr
    constructor
    · rintro ⟨i, h1, h2⟩; exact ⟨7 - i, by omega, h2⟩
    · rintro ⟨i, h1, h2⟩
      refine ⟨7 - i, by omega, ?_⟩
      show dgt w (7 - (7 - i)) = t
      rw [show 7 - (7 - i) = i by omega]; exact h2
  by_cases ok : w / 10 ^ 8 = 0 ∧ orD (dgt w) 8 = 255
  rotate_left
  · refine Ag.ah ⟨0, M, m_up M 159 0 0, fun K q => ?_, fun K q => ?_, hf⟩
    · rw [T_X11_rank, iw_pos cx]
      refine ⟨fun z => absurd z (by decide), fun _ => ?_⟩
      rw [T_X9_takeRank, T_X9_isRank]
      refine ⟨fun _ => ?_, fun z => absurd h0 z⟩
      have := isRank_lp (w := w) (M := M) (K := fun r8 M7 => ((r8 = 0 → (((0 : Int32) = 0 → K 0 M7) ∧ (¬ (0 : Int32) = 0 → K 1 M7))) ∧ (¬ r8 = 0 → T_X9_takeRank_16 30 5000 (nI b) (nI w) 7 M7 (fun r7 M6 => ((r7 = 0 → K 0 M6) ∧ (¬ r7 = 0 → K 1 M6)))))) hw (fun z1 z2 => absurd ⟨z1, z2⟩ ok) (fun _ => ⟨fun _ => ⟨fun _ => q, fun z => absurd rfl z⟩, fun z => absurd rfl z⟩) 5000 0 (by omega) (by omega)
      rw [Nat.pow_zero, Nat.div_one, show orD (dgt w) 0 = 0 from rfl] at this
      exact this
    · rw [T_X12_rank]
      intro M1 e1
      subst e1
      rw [ii_pos cx]
      refine ⟨fun z => absurd z (by decide), fun _ => ?_⟩
      by_cases cm : w ≤ 76543210
      · have ci : (0 : Int32) ≤ nI w ∧ nI w ≤ (76543210 : Int32) := ⟨h0, nI_le (b := 76543210) cm (by decide)⟩
        rw [ii_pos ci]
        refine ⟨fun z => absurd z (by decide), fun _ => ?_⟩
        refine rank35_lp hw (fun z => ?_) (fun _ => q) 5000 0 (by omega) (by omega)
        rw [same_v] at z
        exact absurd ⟨Nat.div_eq_of_lt (by omega), z⟩ ok
      · have ci : ¬ ((0 : Int32) ≤ nI w ∧ nI w ≤ (76543210 : Int32)) := fun z => absurd ((nI_leI (b := 76543210) hw (by decide)).mp z.2) cm
        rw [ii_neg ci]
        exact ⟨fun _ => q, fun z => absurd rfl z⟩
  obtain ⟨ok1, ok2⟩ := ok
  have cm := rank_top ok2 ok1
  have e0Y : rkY (m_up M 159 0 0) b w 0 = m_up M 159 0 0 := by
    funext a j
    unfold rkY
    rw [if_neg (by omega)]
  have d8 : ∀ i, i < 8 → dgt w i < 8 := fun i hi => (orD_255.mp ok2 _).mp ⟨i, hi, rfl⟩
  refine ⟨1, jn (rkX M b w 8) M, jn (rkX M b w 8) (rkY (m_up M 159 0 0) b w 8), fun K q => ?_, fun K q => ?_, Inv.mono (N := N) ?_ (by omega)⟩
  · have : T_X11_rank (nI b) (nI w) (jn M M) K := by
      rw [T_X11_rank, iw_pos cx]
      refine ⟨fun z => absurd z (by decide), fun _ => ?_⟩
      rw [T_X9_takeRank, T_X9_isRank]
      refine ⟨fun _ => ?_, fun z => absurd h0 z⟩
      have := isRank_lp (w := w) (M := jn M M) (K := fun r8 M7 => ((r8 = 0 → (((0 : Int32) = 0 → K 0 M7) ∧ (¬ (0 : Int32) = 0 → K 1 M7))) ∧ (¬ r8 = 0 → T_X9_takeRank_16 30 5000 (nI b) (nI w) 7 M7 (fun r7 M6 => ((r7 = 0 → K 0 M6) ∧ (¬ r7 = 0 → K 1 M6)))))) hw (fun z1 z2 => ⟨fun z => absurd z (by decide), fun _ => ?_⟩) (fun z => absurd ⟨ok1, ok2⟩ z) 5000 0 (by omega) (by omega)
      · rw [Nat.pow_zero, Nat.div_one, show orD (dgt w) 0 = 0 from rfl] at this
        exact this
      · have t := take_lp (w := w) (b := b) (Z := M) (K := fun r7 M6 => ((r7 = 0 → K 0 M6) ∧ (¬ r7 = 0 → K 1 M6))) hw (by omega) 7 5000 M (by omega) (by omega) ⟨fun z => absurd z (by decide), fun _ => q⟩
        rw [show 7 - 7 = 0 from rfl, Nat.pow_zero, Nat.div_one] at t
        exact t
    rw [jn_self] at this
    exact this
  · rw [T_X12_rank]
    intro M1 e1
    rw [jn_uph (by omega)] at e1
    subst e1
    rw [ii_pos cx]
    refine ⟨fun z => absurd z (by decide), fun _ => ?_⟩
    have ci : (0 : Int32) ≤ nI w ∧ nI w ≤ (76543210 : Int32) := ⟨h0, nI_le (b := 76543210) cm (by decide)⟩
    rw [ii_pos ci]
    refine ⟨fun z => absurd z (by decide), fun _ => ?_⟩
    refine rank35_lp hw (fun _ => ?_) (fun z => absurd (by rw [same_v]; exact ok2) z) 5000 0 (by omega) (by omega)
    have := put72_lp (w := w) (b := b) (Y := m_up M 159 0 0) (Z := rkX M b w 8) (K := K) hw (by omega) q 5000 0 (by omega) (by omega)
    rw [e0Y] at this
    exact this
  · have HX : ∀ a j, a < 159 → jn (rkX M b w 8) (rkY (m_up M 159 0 0) b w 8) a j = rkX M b w 8 a j := fun a j ha => jl j ha
    have HY : ∀ a j, 159 ≤ a → jn (rkX M b w 8) (rkY (m_up M 159 0 0) b w 8) a j = rkY (m_up M 159 0 0) b w 8 a j := fun a j ha => jh j ha
    have X0 : ∀ a j, a ≠ 34 → rkX M b w 8 a j = M a j := fun a j ha => by unfold rkX; rw [if_neg (fun z => ha z.1)]
    have Y0 : ∀ a j, a ≠ 190 → rkY (m_up M 159 0 0) b w 8 a j = m_up M 159 0 0 a j := fun a j ha => by unfold rkY; rw [if_neg (fun z => ha z.1)]
    obtain ⟨np, nb, ⟨-, -, -, -, -, hT⟩, -, -⟩ := id h
    generalize hM2 : jn (rkX M b w 8) (rkY (m_up M 159 0 0) b w 8) = M2 at HX HY ⊢
    have key : ∀ a j, a ≠ 34 → a ≠ 190 → ¬ (a = 159 ∧ j = 0) → M2 a j = M a j := fun a j z1 z2 z3 => by
      by_cases ha : a < 159
      · rw [HX a j ha, X0 a j z1]
      · rw [HY a j (by omega), Y0 a j z2, mu, if_neg z3]
    have r34 : ∀ j, M2 34 j = rkX M b w 8 34 j := fun j => HX 34 j (by omega)
    have r190 : ∀ j, M2 190 j = rkY (m_up M 159 0 0) b w 8 190 j := fun j => HY 190 j (by omega)
    have kr : ∀ a, a ≠ 34 → a ≠ 190 → a ≠ 159 → M2 a = M a := fun a z1 z2 z3 => funext fun j => key a j z1 z2 (by omega)
    refine h.told (fun a z1 z2 z3 z4 z5 z6 z7 z8 z9 z10 z11 => kr a (by omega) z6 z2) (fun j z1 z2 z3 z4 z5 z6 => key 159 j (by omega) (by omega) (by omega)) ?_
    obtain ⟨t1, t2, t3, t4, t4', t5, t6, t7⟩ := hT
    refine ⟨fun i hi => ?_, ⟨?_, ?_, fun i hi => ?_⟩, ⟨?_, ?_, fun i hi => ?_⟩, fun i hi => ?_, fun b' t hb' ht => ?_, ⟨?_, ?_, fun i hi => ?_⟩, ⟨?_, ?_, fun i hi => ?_⟩, ⟨?_, ?_, fun i hi => ?_⟩⟩
    · have := t1 i hi
      simpa [vn, key] using this
    · have := t2.1
      simpa [vn, key] using this
    · have := t2.2.1
      simpa [vn, key] using this
    · have := t2.2.2 i hi
      simpa [vn, key] using this
    · have := t3.1
      simpa [vn, key] using this
    · have := t3.2.1
      simpa [vn, key] using this
    · have := t3.2.2 i hi
      simpa [vn, key] using this
    · show M2 190 i + nI (i % 8) = M2 34 i ∧ sm (M2 34 i) 7
      rw [r34, r190]
      unfold rkX rkY
      by_cases c : 8 * b ≤ i ∧ i < 8 * b + 8
      · rw [if_pos ⟨rfl, c⟩, if_pos ⟨rfl, c⟩, show i % 8 = i - 8 * b by omega]
        have := d8 (7 - (i - 8 * b)) (by omega)
        exact ⟨Int32.sub_add_cancel _ _, sm_nI (by omega)⟩
      · rw [if_neg (fun z => c z.2), if_neg (fun z => c z.2), m_up_ne (by omega)]
        exact t4 i hi
    · show ∃ k, k < 8 ∧ M2 34 (8 * b' + k) = nI t
      by_cases c : b' = b
      · subst c
        obtain ⟨i, hi, ei⟩ := (orD_255.mp ok2 t).mpr ht
        refine ⟨7 - i, by omega, ?_⟩
        rw [r34]
        unfold rkX
        rw [if_pos ⟨rfl, by omega, by omega⟩, show 7 - (8 * b' + (7 - i) - 8 * b') = i by omega, ei]
      · obtain ⟨k, hk, ek⟩ := t4' b' t hb' ht
        refine ⟨k, hk, ?_⟩
        rw [r34]
        unfold rkX
        rw [if_neg (by omega)]
        exact ek
    · have := t5.1
      simpa [vn, key] using this
    · have := t5.2.1
      simpa [vn, key] using this
    · have := t5.2.2 i hi
      simpa [vn, key] using this
    · have := t6.1
      simpa [vn, key] using this
    · have := t6.2.1
      simpa [vn, key] using this
    · have := t6.2.2 i hi
      simpa [vn, key] using this
    · have := t7.1
      simpa [vn, key] using this
    · have := t7.2.1
      simpa [vn, key] using this
    · have := t7.2.2 i hi
      simpa [vn, key] using this
