/-! wishes: who has what so that most is wanted_v -/
def bt7 (k : Nat) : Nat := if k = 0 then 0 else 2 ^ (k - 1)
theorem bt7_lt {k : Nat} (h : k < 8) : bt7 k < 128 := by
  unfold bt7
  split
  · omega
  · exact Nat.pow_lt_pow_right (m := k - 1) (n := 7) (by omega) (by omega)
theorem or_128 {s k : Nat} (hs : s < 128) (hk : k < 8) : s ||| bt7 k < 128 := Nat.or_lt_two_pow (n := 7) hs (bt7_lt hk)
theorem and_bt {s k : Nat} (hk : k ≠ 0) : s &&& bt7 k = 0 ↔ ¬ s / 2 ^ (k - 1) % 2 = 1 := by
  unfold bt7
  rw [if_neg hk]
  constructor
  · intro h z
    have : (s &&& 2 ^ (k - 1)).testBit (k - 1) = true := by
      rw [Nat.testBit_and, Nat.testBit_two_pow, decide_eq_true rfl, Bool.and_true]
      exact bit_tb.mp z
    rw [h, Nat.zero_testBit] at this
    cases this
  · intro h
    apply Nat.eq_of_testBit_eq
    intro i
    rw [Nat.testBit_and, Nat.testBit_two_pow, Nat.zero_testBit]
    by_cases c : k - 1 = i
    · rw [← c]
      have : s.testBit (k - 1) = false := by
        cases hz : s.testBit (k - 1) with
        | false => rfl
        | true => exact absurd (bit_tb.mpr hz) h
      rw [this, Bool.false_and]
    · rw [decide_eq_false c, Bool.and_false]
/-- what b and those behind_v him want together -/
def wvl (W V : Nat → Nat) (b s k : Nat) : Nat := W (8 * b + k) + V (s ||| bt7 k)
def bst (W V : Nat → Nat) (b s : Nat) : Nat → Nat
  | 0 => 0
  | k + 1 => if s &&& bt7 k = 0 then max (bst W V b s k) (wvl W V b s k) else bst W V b s k
def vrw (W : Nat → Nat) (n : Nat) : Nat → Nat → Nat
  | 0, _ => 0
  | d + 1, s => bst W (vrw W n d) (n - (d + 1)) s 8
theorem bst_le {W V : Nat → Nat} {b s m : Nat} (hW : ∀ i, W i ≤ 99) (hV : ∀ t, V t ≤ m) : ∀ k, bst W V b s k ≤ 99 + m
  | 0 => by rw [bst]; omega
  | k + 1 => by
    rw [bst]
    have h1 := bst_le (b := b) (s := s) hW hV k
    have h2 := hW (8 * b + k)
    have h3 := hV (s ||| bt7 k)
    unfold wvl
    split <;> omega
theorem vrw_le {W : Nat → Nat} {n : Nat} (hW : ∀ i, W i ≤ 99) : ∀ d t, vrw W n d t ≤ 99 * d
  | 0, t => by rw [vrw]; omega
  | d + 1, t => by
    rw [vrw]
    have := bst_le (b := n - (d + 1)) (s := t) hW (vrw_le (n := n) hW d) 8
    omega
theorem bst_at {W V : Nat → Nat} {b s : Nat} : ∀ n, 1 ≤ n → ∃ k, k < n ∧ s &&& bt7 k = 0 ∧ wvl W V b s k = bst W V b s n
  | 0, h => absurd h (by omega)
  | n + 1, _ => by
    have z0 : s &&& bt7 0 = 0 := by unfold bt7; rw [if_pos rfl, Nat.and_zero]
    rcases Nat.eq_zero_or_pos n with c | c
    · subst c
      refine ⟨0, by omega, z0, ?_⟩
      rw [bst, if_pos z0, bst]
      omega
    · obtain ⟨k, h1, h2, h3⟩ := bst_at (W := W) (V := V) (b := b) (s := s) n c
      rw [bst]
      by_cases ha : s &&& bt7 n = 0
      · rw [if_pos ha]
        rcases Nat.lt_or_ge (bst W V b s n) (wvl W V b s n) with hlt | hge
        · exact ⟨n, by omega, ha, by omega⟩
        · exact ⟨k, by omega, h2, by omega⟩
      · rw [if_neg ha]
        exact ⟨k, by omega, h2, h3⟩
/-- the first that is so -/
def lk8 (p : Nat → Bool) : Nat → Nat → Nat
  | 0, k => k
  | n + 1, k => if p k = true then k else lk8 p n (k + 1)
theorem bitOf_ok {k : Nat} {M : Mm} {K : Int32 → Mm → Prop} (hk : k < 8) (hK : K (nI (bt7 k)) M) : T_X8_bitOf (nI k) M K := by
  rw [T_X8_bitOf]
  unfold bt7 at hK
  refine ⟨fun h => ?_, fun h => ?_⟩
  · have : k = 0 := by
      rcases Nat.eq_zero_or_pos k with z | z
      · exact z
      · exact absurd h (nI_nle z (by omega))
    rw [if_pos this] at hK
    exact hK
  · have hk0 : k ≠ 0 := fun z => h (by rw [z]; decide)
    obtain ⟨j, rfl⟩ : ∃ j, k = j + 1 := ⟨k - 1, by omega⟩
    rw [if_neg hk0] at hK
    rw [nI_pred, shl_c (by omega)]
    exact hK
/-- the rows_v of the table_v that stand -/
def WX (W : Nat → Nat) (n b : Nat) (X : Mm) : Prop := ∀ c, b ≤ c → c ≤ n → ∀ s, s < 128 → X 156 (128 * c + s) = nI (vrw W n (n - c) s)
def WY (W : Nat → Nat) (n b : Nat) (Y : Mm) : Prop := ∀ c, b ≤ c → c ≤ n → ∀ s, s < 128 → Y 192 (128 * c + s) = nI (vrw W n (n - c) s)
theorem wanted_ok {W : Nat → Nat} {n b s k : Nat} {M : Mm} {K : Int32 → Mm → Prop} (hW : ∀ i, W i ≤ 99) (hn : n ≤ 8) (hb : b < n) (hs : s < 128) (hk : k < 8) (hx : M 25 (8 * b + k) = nI (W (8 * b + k))) (hM : ∀ t, t < 128 → M 156 (128 * (b + 1) + t) = nI (vrw W n (n - (b + 1)) t)) (hK : K (nI (wvl W (vrw W n (n - (b + 1))) b s k)) M) : T_X8_wanted 23 (nI b) (nI k) (nI s) M K := by
  have r25 : rf 23 1 = 25 := by decide
  have e1 : nI b * 8 + nI k = nI (8 * b + k) := by rw [show (8 : Int32) = nI 8 from rfl, pk_mul, nI_add]; congr 1; omega
  have ho := or_128 hs hk
  have e2 : (nI b + 1) * 128 + nI (s ||| bt7 k) = nI (128 * (b + 1) + (s ||| bt7 k)) := by
    rw [nI_1, show (128 : Int32) = nI 128 from rfl, pk_mul, nI_add]; congr 1; omega
  rw [T_X8_wanted, r25, e1, nI_clamp (n := 8 * b + k) (by omega)]
  refine ⟨vp_in_nI (by omega) (by decide), bitOf_ok hk ?_⟩
  rw [nx_or, e2, nI_clamp (n := 128 * (b + 1) + (s ||| bt7 k)) (by omega), hM _ ho, hx, nI_add]
  exact ⟨vp_in_nI (by omega) (by decide), hK⟩
theorem best_lp {W : Nat → Nat} {n b s : Nat} {M : Mm} {K : Int32 → Mm → Prop} (hW : ∀ i, W i ≤ 99) (hn : n ≤ 8) (hb : b < n) (hs : s < 128) (hx : ∀ i, i < 64 → M 25 i = nI (W i)) (hM : ∀ t, t < 128 → M 156 (128 * (b + 1) + t) = nI (vrw W n (n - (b + 1)) t)) (hK : K (nI (bst W (vrw W n (n - (b + 1))) b s 8)) M) : ∀ f k, k ≤ 8 → 8 - k < f → T_X8_bestFor_6 23 f (nI b) (nI s) (nI (bst W (vrw W n (n - (b + 1))) b s k)) (nI k) M K := by
  intro f
  induction f with
  | zero => intro i _ h; exact absurd h (Nat.not_lt_zero _)
  | succ f ih =>
    intro k hk hf
    have hv := vrw_le (n := n) hW (n - (b + 1))
    have hbl := bst_le (b := b) (s := s) hW hv k
    rw [T_X8_bestFor_6]
    refine pk_lt 7 k (fun h => ?_) (fun h => ?_)
    · have e : k = 8 := by omega
      subst e; exact hK
    · have hk8 : k < 8 := by omega
      have := ih (k + 1) (by omega) (by omega)
      rw [bst] at this
      refine bitOf_ok hk8 ?_
      rw [nx_and]
      have hbt := bt7_lt hk8
      have hle : s &&& bt7 k ≤ s := Nat.and_le_left
      refine pk_eq (s &&& bt7 k) 0 (fun c => ?_) (fun c => ?_)
      · refine wanted_ok hW hn hb hs hk8 (hx _ (by omega)) hM (fun y10 e10 => ?_)
        rw [if_pos c] at this
        have hw : wvl W (vrw W n (n - (b + 1))) b s k ≤ 99 + 99 * (n - (b + 1)) := by
          unfold wvl
          have h1 := hW (8 * b + k)
          have h2 := hv (s ||| bt7 k)
          omega
        have e : (if nI (bst W (vrw W n (n - (b + 1))) b s k) < nI (wvl W (vrw W n (n - (b + 1))) b s k) then nI (wvl W (vrw W n (n - (b + 1))) b s k) else nI (bst W (vrw W n (n - (b + 1))) b s k)) = nI (max (bst W (vrw W n (n - (b + 1))) b s k) (wvl W (vrw W n (n - (b + 1))) b s k)) := by
          by_cases c2 : bst W (vrw W n (n - (b + 1))) b s k < wvl W (vrw W n (n - (b + 1))) b s k
          · rw [if_pos (nI_lt c2 (by omega)), Nat.max_eq_right (by omega)]
          · rw [if_neg (nI_nlt (by omega) (by omega)), Nat.max_eq_left (by omega)]
        rw [e] at e10
        rw [T_X8_bestFor_40]
        intro y1 ey
        rw [ey, e10, nI_1]
        exact this
      · rw [if_neg c] at this
        rw [T_X8_bestFor_40]
        intro y1 ey
        rw [ey, nI_1]
        exact this
theorem canHave_ok {s k : Nat} {M : Mm} {K : Int32 → Mm → Prop} (hs : s < 128) (hk : k < 8) (h1 : s &&& bt7 k = 0 → K 1 M) (h0 : ¬ s &&& bt7 k = 0 → K 0 M) : T_X12_canHave (nI k) (nI s) M K := by
  rw [T_X12_canHave]
  refine pk_eq k 0 (fun c => ?_) (fun c => ?_)
  · rw [T_X12_canHave_15]
    refine h1 ?_
    subst c
    unfold bt7
    rw [if_pos rfl, Nat.and_zero]
  · obtain ⟨j, rfl⟩ : ∃ j, k = j + 1 := ⟨k - 1, by omega⟩
    rw [nI_pred]
    refine hasM (by omega) (by omega) (fun z => ⟨fun w => absurd w (by decide), fun _ => h0 (fun w => (and_bt c).mp w z)⟩) (fun z => ⟨fun _ => ?_, fun w => absurd rfl w⟩)
    rw [T_X12_canHave_15]
    exact h1 ((and_bt c).mpr z)
theorem wished_ok {W : Nat → Nat} {n b s k : Nat} {M : Mm} {K : Int32 → Mm → Prop} (hW : ∀ i, W i ≤ 99) (hW0 : W (8 * b) = 0) (hn : n ≤ 8) (hb : b < n) (hs : s < 128) (hk : k < 8) (hx : M 181 (8 * b + k) = nI (W (8 * b + k))) (hM : ∀ t, t < 128 → M 192 (128 * (b + 1) + t) = nI (vrw W n (n - (b + 1)) t)) (hK : K (nI (wvl W (vrw W n (n - (b + 1))) b s k)) M) : T_X12_wishedBy (nI b) (nI k) (nI s) M K := by
  rw [T_X12_wishedBy]
  unfold wvl at hK
  refine pk_eq k 0 (fun c => ?_) (fun c => ?_)
  · subst c
    have e2 : (128 : Int32) * (nI b + 1) + nI s = nI (128 * (b + 1) + s) := by rw [nI_1, show (128 : Int32) = nI 128 from rfl, pk_mul, nI_add]
    have eb : bt7 0 = 0 := rfl
    rw [eb, Nat.or_zero, Nat.add_zero, hW0, Nat.zero_add] at hK
    rw [e2, nI_clamp (n := 128 * (b + 1) + s) (by omega), hM s hs]
    exact ⟨vp_in_nI (by omega) (by decide), hK⟩
  · have ho := or_128 hs hk
    obtain ⟨j, rfl⟩ : ∃ j, k = j + 1 := ⟨k - 1, by omega⟩
    have eb : bt7 (j + 1) = 2 ^ j := by unfold bt7; rw [if_neg c]; rfl
    rw [eb] at hK ho
    have e1 : (8 : Int32) * nI b + nI (j + 1) = nI (8 * b + (j + 1)) := by rw [show (8 : Int32) = nI 8 from rfl, pk_mul, nI_add]
    have e2 : (128 : Int32) * (nI b + 1) + nI (s ||| 2 ^ j) = nI (128 * (b + 1) + (s ||| 2 ^ j)) := by rw [nI_1, show (128 : Int32) = nI 128 from rfl, pk_mul, nI_add]
    rw [nI_pred, shl_c (by omega), nx_or, e1, e2, nI_clamp (n := 8 * b + (j + 1)) (by omega), nI_clamp (n := 128 * (b + 1) + (s ||| 2 ^ j)) (by omega), hM _ ho, hx, nI_add]
    exact ⟨vp_in_nI (by omega) (by decide), vp_in_nI (by omega) (by decide), hK⟩
theorem wish23_lp {W : Nat → Nat} {n b s : Nat} {M : Mm} {K : Mm → Prop} {B5 : Int32 → Mm → Prop} {B11 : Int32 → Int32 → Mm → Prop} (hW : ∀ i, W i ≤ 99) (hW0 : W (8 * b) = 0) (hn : n ≤ 8) (hb : b < n) (hs : s < 128) (en : M 159 7 = nI n) (hx : ∀ i, i < 64 → M 181 i = nI (W i)) (hM : ∀ t, t < 128 → M 192 (128 * (b + 1) + t) = nI (vrw W n (n - (b + 1)) t)) (hK : T_X12_findsWishes_68 B5 B11 (nI b) (nI s) (nI (bst W (vrw W n (n - (b + 1))) b s 8)) M K) : ∀ f k, k ≤ 8 → 8 - k < f → T_X12_findsWishes_23 B5 B11 f (nI b) (nI s) (nI (bst W (vrw W n (n - (b + 1))) b s k)) (nI k) M K := by
  intro f
  induction f with
  | zero => intro i _ h; exact absurd h (Nat.not_lt_zero _)
  | succ f ih =>
    intro k hk hf
    have hv := vrw_le (n := n) hW (n - (b + 1))
    have hbl := bst_le (b := b) (s := s) hW hv k
    rw [T_X12_findsWishes_23, en]
    refine pk_le 8 k (fun h => ?_) (fun h => pk_le n b (fun z => absurd z (by omega)) (fun _ => ?_))
    · have e : k = 8 := by omega
      subst e; exact hK
    · have := ih (k + 1) (by omega) (by omega)
      rw [bst] at this
      refine canHave_ok hs h (fun c => ⟨fun z => absurd z (by decide), fun _ => ?_⟩) (fun c => ⟨fun _ => ?_, fun z => absurd rfl z⟩)
      · refine wished_ok hW hW0 hn hb hs h (hx _ (by omega)) hM (greaterM_ok ?_)
        rw [if_pos c] at this
        have hw : wvl W (vrw W n (n - (b + 1))) b s k ≤ 99 + 99 * (n - (b + 1)) := by
          unfold wvl
          have h1 := hW (8 * b + k)
          have h2 := hv (s ||| bt7 k)
          omega
        have e : (if nI (wvl W (vrw W n (n - (b + 1))) b s k) < nI (bst W (vrw W n (n - (b + 1))) b s k) then nI (bst W (vrw W n (n - (b + 1))) b s k) else nI (wvl W (vrw W n (n - (b + 1))) b s k)) = nI (max (bst W (vrw W n (n - (b + 1))) b s k) (wvl W (vrw W n (n - (b + 1))) b s k)) := by
          by_cases c2 : wvl W (vrw W n (n - (b + 1))) b s k < bst W (vrw W n (n - (b + 1))) b s k
          · rw [if_pos (nI_lt c2 (by omega)), Nat.max_eq_left (by omega)]
          · rw [if_neg (nI_nlt (by omega) (by omega)), Nat.max_eq_right (by omega)]
        rw [e, T_X12_findsWishes_62]
        intro y4 e4
        rw [e4, nI_1]
        exact this
      · rw [if_neg c] at this
        rw [T_X12_findsWishes_62]
        intro y4 e4
        rw [e4, nI_1]
        exact this
theorem vrw_s {W : Nat → Nat} {n b s : Nat} (hb : b < n) : vrw W n (n - b) s = bst W (vrw W n (n - (b + 1))) b s 8 := by
  obtain ⟨d, hd⟩ : ∃ d, n - b = d + 1 := ⟨n - b - 1, by omega⟩
  rw [hd, vrw, show n - (d + 1) = b by omega, show n - (b + 1) = d by omega]
set_option maxHeartbeats 1000000 in
/-- one row_v of the table_v, class -/
theorem row_C {W : Nat → Nat} {n b : Nat} {Z : Mm} {K : Int32 → Mm → Prop} {B : Int32 → Int32 → Mm → Prop} (hW : ∀ i, W i ≤ 99) (hn : n ≤ 8) (hb : b < n) : ∀ m s X f, s + m = 128 → m < f → (∀ i, i < 64 → X 25 i = nI (W i)) → WX W n (b + 1) X → (∀ t, t < s → X 156 (128 * b + t) = nI (vrw W n (n - b) t)) → (∀ X', (∀ a, a ≠ 156 → X' a = X a) → WX W n b X' → B (nI n) (nI b + -1) (jn X' Z)) → T_X8_shareOut_51 B 23 f (nI n) (nI b) (nI s) (jn X Z) K := by
  intro m
  induction m with
  | zero =>
    intro s X f hsm hf hx hR hr hB
    obtain ⟨f, rfl⟩ : ∃ g, f = g + 1 := ⟨f - 1, by omega⟩
    have e : s = 128 := by omega
    subst e
    rw [T_X8_shareOut_51]
    refine pk_le 128 128 (fun _ y14 e14 => ?_) (fun z => absurd z (by omega))
    rw [e14]
    refine hB X (fun _ _ => rfl) (fun c c1 c2 t ht => ?_)
    by_cases cc : c = b
    · rw [cc]; exact hr t ht
    · exact hR c (by omega) c2 t ht
  | succ m ih =>
    intro s X f hsm hf hx hR hr hB
    obtain ⟨f, rfl⟩ : ∃ g, f = g + 1 := ⟨f - 1, by omega⟩
    have e1 : nI b * 128 + nI s = nI (128 * b + s) := by rw [show (128 : Int32) = nI 128 from rfl, pk_mul, nI_add]; congr 1; omega
    rw [T_X8_shareOut_51, e1, nI_clamp (n := 128 * b + s) (by omega)]
    refine pk_le 128 s (fun z => absurd z (by omega)) (fun _ => ?_)
    rw [T_X8_bestFor]
    refine best_lp (W := W) (n := n) hW hn hb (by omega) (fun i hi => by rw [jl _ (by omega)]; exact hx i hi) (fun t ht => by rw [jl _ (by omega)]; exact hR (b + 1) (by omega) (by omega) t ht) ⟨vp_in_nI (by omega) (by decide), fun M18 e18 y20 e20 => ?_⟩ 5000 0 (by omega) (by omega)
    rw [e18, e20, nI_1, jn_upl (by omega), ← vrw_s hb]
    refine ih (s + 1) _ f (by omega) (by omega) (fun i hi => by rw [m_up_ne (by omega)]; exact hx i hi) (fun c c1 c2 t ht => by rw [mu, if_neg (by omega)]; exact hR c c1 c2 t ht) (fun t ht => ?_) (fun X' h1 h2 => hB X' (fun a ha => by rw [h1 a ha, m_up_ne ha]) h2)
    by_cases ct : t = s
    · rw [ct, mu, if_pos ⟨rfl, rfl⟩]
    · rw [mu, if_neg (by omega)]; exact hr t (by omega)
set_option maxHeartbeats 1000000 in
/-- one row_v of the table_v, model -/
theorem row_M {W : Nat → Nat} {n b : Nat} {Z : Mm} {K : Mm → Prop} {B : Int32 → Mm → Prop} (hW : ∀ i, W i ≤ 99) (hW0 : W (8 * b) = 0) (hn : n ≤ 8) (hb : b < n) : ∀ m s Y f, s + m = 128 → m < f → Y 159 7 = nI n → (∀ i, i < 64 → Y 181 i = nI (W i)) → WY W n (b + 1) Y → (∀ t, t < s → Y 192 (128 * b + t) = nI (vrw W n (n - b) t)) → (∀ Y', (∀ a, a ≠ 192 → Y' a = Y a) → WY W n b Y' → B (nI b + -1) (jn Z Y')) → T_X12_findsWishes_11 B f (nI b) (nI s) (jn Z Y) K := by
  intro m
  induction m with
  | zero =>
    intro s Y f hsm hf en hx hR hr hB
    obtain ⟨f, rfl⟩ : ∃ g, f = g + 1 := ⟨f - 1, by omega⟩
    have e : s = 128 := by omega
    subst e
    rw [T_X12_findsWishes_11]
    refine pk_le 128 128 (fun _ y14 e14 => ?_) (fun z => absurd z (by omega))
    rw [e14]
    refine hB Y (fun _ _ => rfl) (fun c c1 c2 t ht => ?_)
    by_cases cc : c = b
    · rw [cc]; exact hr t ht
    · exact hR c (by omega) c2 t ht
  | succ m ih =>
    intro s Y f hsm hf en hx hR hr hB
    obtain ⟨f, rfl⟩ : ∃ g, f = g + 1 := ⟨f - 1, by omega⟩
    rw [T_X12_findsWishes_11]
    refine pk_le 128 s (fun z => absurd z (by omega)) (fun _ => ?_)
    have e1 : (128 : Int32) * nI b + nI s = nI (128 * b + s) := by rw [show (128 : Int32) = nI 128 from rfl, pk_mul, nI_add]
    refine wish23_lp (W := W) (n := n) hW hW0 hn hb (by omega) (by rw [jh _ (by omega)]; exact en) (fun i hi => by rw [jh _ (by omega)]; exact hx i hi) (fun t ht => by rw [jh _ (by omega)]; exact hR (b + 1) (by omega) (by omega) t ht) ?_ 5000 0 (by omega) (by omega)
    rw [T_X12_findsWishes_68, e1, nI_clamp (n := 128 * b + s) (by omega)]
    refine ⟨vp_in_nI (by omega) (by decide), fun M1 f1 y3 e3 => ?_⟩
    rw [f1, e3, nI_1, jn_uph (by omega), ← vrw_s hb]
    refine ih (s + 1) _ f (by omega) (by omega) (by rw [m_up_ne (by omega)]; exact en) (fun i hi => by rw [m_up_ne (by omega)]; exact hx i hi) (fun c c1 c2 t ht => by rw [mu, if_neg (by omega)]; exact hR c c1 c2 t ht) (fun t ht => ?_) (fun Y' h1 h2 => hB Y' (fun a ha => by rw [h1 a ha, m_up_ne ha]) h2)
    by_cases ct : t = s
    · rw [ct, mu, if_pos ⟨rfl, rfl⟩]
    · rw [mu, if_neg (by omega)]; exact hr t (by omega)
/-- class and model agree on a call_v, whatever the memories are -/
def Ay (T1 T2 : Mm → (Int32 → Mm → Prop) → Prop) (N : Nat) (M : Mm) : Prop := ∀ K1 : Int32 → Mm → Prop, (∀ r M1, (∀ K2 : Int32 → Mm → Prop, (∀ M2, Inv (N + 1000) M2 → K2 r M2) → T2 M1 K2) → K1 r M1) → T1 M K1
theorem Ah.ay {T1 T2 : Mm → (Int32 → Mm → Prop) → Prop} {N : Nat} {M : Mm} (h : Ah T1 T2 N M) : Ay T1 T2 N M := by
  obtain ⟨r, M1, M2, h1, h2, h3⟩ := h
  exact fun K1 k => h1 K1 (k r M1 (fun K2 k2 => h2 K2 (k2 M2 h3)))
/-- the kind that b has, if those of s are gone -/
def kdw (W : Nat → Nat) (n b s : Nat) : Nat := lk8 (fun k => decide (s &&& bt7 k = 0 ∧ wvl W (vrw W n (n - (b + 1))) b s k = vrw W n (n - b) s)) 8 0
def stw (W : Nat → Nat) (n : Nat) : Nat → Nat
  | 0 => 0
  | b + 1 => stw W n b ||| bt7 (kdw W n b (stw W n b))
theorem lk8_ok {p : Nat → Bool} : ∀ m k, (∃ j, k ≤ j ∧ j < k + m ∧ p j = true) → p (lk8 p m k) = true ∧ k ≤ lk8 p m k ∧ lk8 p m k < k + m
  | 0, k, h => by
    obtain ⟨j, h1, h2, -⟩ := h
    omega
  | m + 1, k, h => by
    rw [lk8]
    by_cases c : p k = true
    · rw [if_pos c]
      exact ⟨c, Nat.le_refl _, by omega⟩
    · rw [if_neg c]
      obtain ⟨j, h1, h2, h3⟩ := h
      have hj : j ≠ k := fun z => by rw [z] at h3; exact c h3
      obtain ⟨a1, a2, a3⟩ := lk8_ok m (k + 1) ⟨j, by omega, by omega, h3⟩
      exact ⟨a1, by omega, by omega⟩
theorem kd_ex {W : Nat → Nat} {n b s : Nat} (hb : b < n) : ∃ j, 0 ≤ j ∧ j < 0 + 8 ∧ (fun k => decide (s &&& bt7 k = 0 ∧ wvl W (vrw W n (n - (b + 1))) b s k = vrw W n (n - b) s)) j = true := by
  obtain ⟨k, h1, h2, h3⟩ := bst_at (W := W) (V := vrw W n (n - (b + 1))) (b := b) (s := s) 8 (by omega)
  exact ⟨k, by omega, by omega, decide_eq_true ⟨h2, by rw [h3, vrw_s hb]⟩⟩
theorem kd_lt {W : Nat → Nat} {n b s : Nat} (hb : b < n) : kdw W n b s < 8 := by
  have := (lk8_ok 8 0 (kd_ex (W := W) (s := s) hb)).2.2
  unfold kdw
  omega
theorem st_lt {W : Nat → Nat} {n : Nat} : ∀ b, b ≤ n → stw W n b < 128
  | 0, _ => by rw [stw]; omega
  | b + 1, hb => by
    rw [stw]
    exact or_128 (st_lt b (by omega)) (kd_lt (by omega))
theorem least_lp {W : Nat → Nat} {n b s : Nat} {M : Mm} {K : Int32 → Mm → Prop} (hW : ∀ i, W i ≤ 99) (hn : n ≤ 8) (hb : b < n) (hs : s < 128) (hx : ∀ i, i < 64 → M 25 i = nI (W i)) (hM : WX W n 0 M) (hK : K (nI (kdw W n b s)) M) : ∀ m k f, k + m = 8 → m < f → (∃ j, k ≤ j ∧ j < k + m ∧ (fun k => decide (s &&& bt7 k = 0 ∧ wvl W (vrw W n (n - (b + 1))) b s k = vrw W n (n - b) s)) j = true) → lk8 (fun k => decide (s &&& bt7 k = 0 ∧ wvl W (vrw W n (n - (b + 1))) b s k = vrw W n (n - b) s)) m k = kdw W n b s → T_X8_leastKind_3 23 f (nI b) (nI s) (nI k) M K := by
  intro m
  induction m with
  | zero =>
    intro k f hkm hf hex_v _
    obtain ⟨j, h1, h2, -⟩ := hex_v
    omega
  | succ m ih =>
    intro k f hkm hf hex_v hl
    obtain ⟨f, rfl⟩ : ∃ g, f = g + 1 := ⟨f - 1, by omega⟩
    have hk8 : k < 8 := by omega
    have hv1 := vrw_le (n := n) hW (n - (b + 1))
    have hv := vrw_le (n := n) hW (n - b)
    have nx : ¬ (s &&& bt7 k = 0 ∧ wvl W (vrw W n (n - (b + 1))) b s k = vrw W n (n - b) s) → T_X8_leastKind_3 23 f (nI b) (nI s) (nI (k + 1)) M K := by
      intro hc
      rw [lk8, if_neg (by rw [decide_eq_true_iff]; exact hc)] at hl
      obtain ⟨j, h1, h2, h3⟩ := hex_v
      have hj : j ≠ k := fun z => by rw [z] at h3; exact hc (of_decide_eq_true h3)
      exact ih (k + 1) f (by omega) (by omega) ⟨j, by omega, by omega, h3⟩ hl
    have e1 : nI b * 128 + nI s = nI (128 * b + s) := by rw [show (128 : Int32) = nI 128 from rfl, pk_mul, nI_add]; congr 1; omega
    rw [T_X8_leastKind_3]
    refine pk_lt 7 k (fun z => absurd z (by omega)) (fun _ => bitOf_ok hk8 ?_)
    rw [nx_and, e1, nI_clamp (n := 128 * b + s) (by omega)]
    have hle : s &&& bt7 k ≤ s := Nat.and_le_left
    simp only [T_X8_leastKind_48, forall_eq, nI_1]
    refine pk_eq (s &&& bt7 k) 0 (fun c => ?_) (fun c => nx (fun z => c z.1))
    refine wanted_ok hW hn hb hs hk8 (hx _ (by omega)) (fun t ht => hM (b + 1) (by omega) (by omega) t ht) ⟨vp_in_nI (by omega) (by decide), ?_⟩
    rw [hM b (by omega) (by omega) s hs]
    have hw : wvl W (vrw W n (n - (b + 1))) b s k ≤ 99 + 99 * (n - (b + 1)) := by
      unfold wvl
      have h1 := hW (8 * b + k)
      have h2 := hv1 (s ||| bt7 k)
      omega
    have h3 := hv s
    refine pk_eq (wvl W (vrw W n (n - (b + 1))) b s k) (vrw W n (n - b) s) (fun c2 => ?_) (fun c2 => nx (fun z => c2 z.2))
    rw [lk8, if_pos (decide_eq_true ⟨c, c2⟩)] at hl
    rw [hl]
    exact hK
theorem share100_lp {W : Nat → Nat} {n : Nat} {Z : Mm} {K : Int32 → Mm → Prop} (hW : ∀ i, W i ≤ 99) (hn : n ≤ 8) : ∀ m b X f, b + m = n → m < f → (∀ i, i < 64 → X 25 i = nI (W i)) → WX W n 0 X → (∀ c, c < b → X 154 c = nI (kdw W n c (stw W n c))) → (∀ X', (∀ a, a ≠ 154 → X' a = X a) → (∀ c, c < n → X' 154 c = nI (kdw W n c (stw W n c))) → K (nI (vrw W n n 0)) (jn X' Z)) → T_X8_shareOut_100 23 f (nI n) (nI (stw W n b)) (nI b) (jn X Z) K := by
  intro m
  induction m with
  | zero =>
    intro b X f hbm hf hx hR hg hK
    obtain ⟨f, rfl⟩ : ∃ g, f = g + 1 := ⟨f - 1, by omega⟩
    have e : b = n := by omega
    subst e
    have h0 : jn X Z 156 0 = nI (vrw W b b 0) := by
      rw [jl 0 (by omega)]
      have := hR 0 (by omega) (by omega) 0 (by omega)
      simpa using this
    rw [T_X8_shareOut_100, h0]
    exact pk_le b b (fun _ => hK X (fun _ _ => rfl) hg) (fun z => absurd z (by omega))
  | succ m ih =>
    intro b X f hbm hf hx hR hg hK
    obtain ⟨f, rfl⟩ : ∃ g, f = g + 1 := ⟨f - 1, by omega⟩
    have hb : b < n := by omega
    have hkd := kd_lt (W := W) (s := stw W n b) hb
    rw [T_X8_shareOut_100, nI_clamp (n := b) (by omega)]
    refine pk_le n b (fun z => absurd z (by omega)) (fun _ => ?_)
    rw [T_X8_leastKind]
    refine least_lp (W := W) (n := n) (b := b) (s := stw W n b) hW hn hb (st_lt b (by omega)) (fun i hi => by rw [jl _ (by omega)]; exact hx i hi) (fun c c1 c2 t ht => by rw [jl _ (by omega)]; exact hR c c1 c2 t ht) ⟨vp_in_nI (by omega) (by decide), fun M5 e5 => ⟨vp_in_nI (by omega) (by decide), ?_⟩⟩ 8 0 5000 (by omega) (by omega) (kd_ex hb) rfl
    have w5 : M5 154 b = nI (kdw W n b (stw W n b)) := by rw [e5, mu, if_pos ⟨rfl, rfl⟩]
    rw [w5]
    refine bitOf_ok hkd (fun y11 e11 y12 e12 => ?_)
    rw [nx_or] at e11
    rw [e11, e12, nI_1, e5, jn_upl (by omega)]
    refine ih (b + 1) _ f (by omega) (by omega) (fun i hi => by rw [m_up_ne (by omega)]; exact hx i hi) (fun c c1 c2 t ht => by rw [m_up_ne (by omega)]; exact hR c c1 c2 t ht) (fun c hc => ?_) (fun X' z1 z2 => hK X' (fun a ha => by rw [z1 a ha, m_up_ne ha]) z2)
    by_cases cc : c = b
    · rw [cc, mu, if_pos ⟨rfl, rfl⟩]
    · rw [mu, if_neg (by omega)]; exact hg c (by omega)
theorem share43_lp {W : Nat → Nat} {n : Nat} {Z : Mm} {K : Int32 → Mm → Prop} (hW : ∀ i, W i ≤ 99) (hn : n ≤ 8) : ∀ b X f, b ≤ n → b < f → (∀ i, i < 64 → X 25 i = nI (W i)) → WX W n b X → (∀ X', (∀ a, a ≠ 154 → a ≠ 156 → X' a = X a) → (∀ c, c < n → X' 154 c = nI (kdw W n c (stw W n c))) → K (nI (vrw W n n 0)) (jn X' Z)) → T_X8_shareOut_43 23 f (nI n) (nI b + -1) (jn X Z) K := by
  intro b
  induction b with
  | zero =>
    intro X f hb hf hx hR hK
    obtain ⟨f, rfl⟩ : ∃ g, f = g + 1 := ⟨f - 1, by omega⟩
    rw [show nI 0 + -1 = (-1 : Int32) from by decide, T_X8_shareOut_43]
    refine ⟨fun _ => ?_, fun z => absurd (by decide) z⟩
    exact share100_lp (W := W) hW hn n 0 X 5000 (by omega) (by omega) hx hR (fun c hc => absurd hc (by omega)) (fun X' z1 z2 => hK X' (fun a h1 _ => z1 a h1) z2)
  | succ b ih =>
    intro X f hb hf hx hR hK
    obtain ⟨f, rfl⟩ : ∃ g, f = g + 1 := ⟨f - 1, by omega⟩
    rw [pk_m1, T_X8_shareOut_43]
    refine ⟨fun z => absurd z (nI_pos (by omega)), fun _ => ?_⟩
    exact row_C (W := W) hW hn (by omega) 128 0 X 5000 (by omega) (by omega) hx hR (fun t ht => absurd ht (by omega)) (fun X' z1 z2 => ih X' f (by omega) (by omega) (fun i hi => by rw [z1 25 (by omega)]; exact hx i hi) z2 (fun X'' w1 w2 => hK X'' (fun a h1 h2 => by rw [w1 a h1 h2, z1 a h2]) w2))
theorem share_ok {W : Nat → Nat} {n : Nat} {X Z : Mm} {K : Int32 → Mm → Prop} (hW : ∀ i, W i ≤ 99) (hn : n ≤ 8) (hx : ∀ i, i < 64 → X 25 i = nI (W i)) (hK : ∀ X', (∀ a, a ≠ 154 → a ≠ 156 → X' a = X a) → (∀ c, c < n → X' 154 c = nI (kdw W n c (stw W n c))) → K (nI (vrw W n n 0)) (jn X' Z)) : T_X8_shareOut 23 (nI n) (jn X Z) K := by
  have L : ∀ m s X1 f, s + m = 128 → m < f → (∀ a, a ≠ 156 → X1 a = X a) → (∀ t, t < s → X1 156 (128 * n + t) = 0) → T_X8_shareOut_10 23 f (nI n) (nI s) (jn X1 Z) K := by
    intro m
    induction m with
    | zero =>
      intro s X1 f hsm hf h1 h2
      obtain ⟨f, rfl⟩ : ∃ g, f = g + 1 := ⟨f - 1, by omega⟩
      have e : s = 128 := by omega
      subst e
      rw [T_X8_shareOut_10]
      refine pk_le 128 128 (fun _ y23 e23 => ?_) (fun z => absurd z (by omega))
      rw [e23, Int32.sub_eq_add_neg]
      refine share43_lp (W := W) hW hn n X1 5000 (Nat.le_refl _) (by omega) (fun i hi => by rw [h1 25 (by omega)]; exact hx i hi) (fun c c1 c2 t ht => ?_) (fun X' z1 z2 => hK X' (fun a w1 w2 => by rw [z1 a w1 w2, h1 a w2]) z2)
      have : c = n := by omega
      rw [this, h2 t ht, Nat.sub_self, vrw]
      rfl
    | succ m ih =>
      intro s X1 f hsm hf h1 h2
      obtain ⟨f, rfl⟩ : ∃ g, f = g + 1 := ⟨f - 1, by omega⟩
      have e1 : nI n * 128 + nI s = nI (128 * n + s) := by rw [show (128 : Int32) = nI 128 from rfl, pk_mul, nI_add]; congr 1; omega
      rw [T_X8_shareOut_10, e1, nI_clamp (n := 128 * n + s) (by omega)]
      refine pk_le 128 s (fun z => absurd z (by omega)) (fun _ => ⟨vp_in_nI (by omega) (by decide), fun M24 e24 y26 e26 => ?_⟩)
      rw [e24, e26, nI_1, jn_upl (by omega)]
      refine ih (s + 1) _ f (by omega) (by omega) (fun a ha => by rw [m_up_ne ha, h1 a ha]) (fun t ht => ?_)
      by_cases ct : t = s
      · rw [ct, mu, if_pos ⟨rfl, rfl⟩]
      · rw [mu, if_neg (by omega)]; exact h2 t (by omega)
  rw [T_X8_shareOut, if_neg (show ¬ (8 : Int32) < nI n from nI_nlt (a := 8) hn (by decide))]
  intro y27 e27
  rw [e27]
  exact L 128 0 X 5000 (by omega) (by omega) (fun _ _ => rfl) (fun t ht => absurd ht (by omega))
theorem wish5_lp {W : Nat → Nat} {n : Nat} {Z : Mm} {K : Mm → Prop} (hW : ∀ i, W i ≤ 99) (hW0 : ∀ b, b < 8 → W (8 * b) = 0) (hn : n ≤ 8) : ∀ b Y f, b ≤ n → b < f → Y 159 7 = nI n → (∀ i, i < 64 → Y 181 i = nI (W i)) → WY W n b Y → (∀ Y', (∀ a, a ≠ 192 → Y' a = Y a) → WY W n 0 Y' → K (jn Z Y')) → T_X12_findsWishes_5 f (nI b + -1) (jn Z Y) K := by
  intro b
  induction b with
  | zero =>
    intro Y f hb hf en hx hR hK
    obtain ⟨f, rfl⟩ : ∃ g, f = g + 1 := ⟨f - 1, by omega⟩
    rw [show nI 0 + -1 = (-1 : Int32) from by decide, T_X12_findsWishes_5]
    exact ⟨fun _ => hK Y (fun _ _ => rfl) hR, fun z => absurd (by decide) z⟩
  | succ b ih =>
    intro Y f hb hf en hx hR hK
    obtain ⟨f, rfl⟩ : ∃ g, f = g + 1 := ⟨f - 1, by omega⟩
    rw [pk_m1, T_X12_findsWishes_5]
    refine ⟨fun z => absurd z (nI_pos (by omega)), fun _ => ?_⟩
    exact row_M (W := W) hW (hW0 b (by omega)) hn (by omega) 128 0 Y 5000 (by omega) (by omega) en hx hR (fun t ht => absurd ht (by omega)) (fun Y' z1 z2 => ih Y' f (by omega) (by omega) (by rw [z1 159 (by omega)]; exact en) (fun i hi => by rw [z1 181 (by omega)]; exact hx i hi) z2 (fun Y'' w1 w2 => hK Y'' (fun a h1 => by rw [w1 a h1, z1 a h1]) w2))
theorem finds_ok {W : Nat → Nat} {n : Nat} {Y Z : Mm} {K : Mm → Prop} (hW : ∀ i, W i ≤ 99) (hW0 : ∀ b, b < 8 → W (8 * b) = 0) (hn : n ≤ 8) (en : Y 159 7 = nI n) (hx : ∀ i, i < 64 → Y 181 i = nI (W i)) (hK : ∀ Y', (∀ a, a ≠ 192 → Y' a = Y a) → WY W n 0 Y' → K (jn Z Y')) : T_X12_findsWishes (jn Z Y) K := by
  have L : ∀ m s Y1 f, s + m = 128 → m < f → (∀ a, a ≠ 192 → Y1 a = Y a) → (∀ t, t < s → Y1 192 (128 * n + t) = 0) → T_X12_findsWishes_11 (fun x1 M => T_X12_findsWishes_5 4999 x1 M K) f (nI n) (nI s) (jn Z Y1) K := by
    intro m
    induction m with
    | zero =>
      intro s Y1 f hsm hf h1 h2
      obtain ⟨f, rfl⟩ : ∃ g, f = g + 1 := ⟨f - 1, by omega⟩
      have e : s = 128 := by omega
      subst e
      rw [T_X12_findsWishes_11]
      refine pk_le 128 128 (fun _ y18 e18 => ?_) (fun z => absurd z (by omega))
      rw [e18]
      refine wish5_lp (W := W) hW hW0 hn n Y1 4999 (Nat.le_refl _) (by omega) (by rw [h1 159 (by omega)]; exact en) (fun i hi => by rw [h1 181 (by omega)]; exact hx i hi) (fun c c1 c2 t ht => ?_) (fun Y' z1 z2 => hK Y' (fun a w1 => by rw [z1 a w1, h1 a w1]) z2)
      have : c = n := by omega
      rw [this, h2 t ht, Nat.sub_self, vrw]
      rfl
    | succ m ih =>
      intro s Y1 f hsm hf h1 h2
      obtain ⟨f, rfl⟩ : ∃ g, f = g + 1 := ⟨f - 1, by omega⟩
      have e1 : (128 : Int32) * nI n + nI s = nI (128 * n + s) := by rw [show (128 : Int32) = nI 128 from rfl, pk_mul, nI_add]
      have en' : jn Z Y1 159 7 = nI n := by rw [jh _ (by omega), h1 159 (by omega)]; exact en
      rw [T_X12_findsWishes_11]
      refine pk_le 128 s (fun z => absurd z (by omega)) (fun _ => ?_)
      rw [T_X12_findsWishes_23, en']
      refine ⟨fun z => absurd z (by decide), fun _ => pk_le n n (fun _ => ?_) (fun z => absurd z (by omega))⟩
      rw [T_X12_findsWishes_68, e1, nI_clamp (n := 128 * n + s) (by omega)]
      refine ⟨vp_in_nI (by omega) (by decide), fun M1 f1 y3 e3 => ?_⟩
      rw [f1, e3, nI_1, jn_uph (by omega)]
      refine ih (s + 1) _ f (by omega) (by omega) (fun a ha => by rw [m_up_ne ha, h1 a ha]) (fun t ht => ?_)
      by_cases ct : t = s
      · rw [ct, mu, if_pos ⟨rfl, rfl⟩]
      · rw [mu, if_neg (by omega)]; exact h2 t (by omega)
  rw [T_X12_findsWishes, jh 7 (by omega), en]
  intro y20 e20
  rw [e20, T_X12_findsWishes_5]
  exact ⟨fun z => absurd z (nI_pos (by omega)), fun _ => L 128 0 Y 5000 (by omega) (by omega) (fun _ _ => rfl) (fun t ht => absurd ht (by omega))⟩
/-- the model's way_v to the kind of bidder e -/
theorem wish61_lp {W : Nat → Nat} {n b s e : Nat} {M : Mm} {K : Int32 → Mm → Prop} {B : Int32 → Int32 → Int32 → Int32 → Mm → Prop} (hW : ∀ i, W i ≤ 99) (hW0 : ∀ b, b < 8 → W (8 * b) = 0) (hn : n ≤ 8) (hb : b < n) (hs : s < 128) (hx : ∀ i, i < 64 → M 181 i = nI (W i)) (hM : WY W n 0 M) (hB : B (nI e) (nI (s ||| bt7 (kdw W n b s))) (nI (kdw W n b s)) (nI (b + 1)) M) : ∀ m k f, k + m = 8 → m < f → (∃ j, k ≤ j ∧ j < k + m ∧ (fun k => decide (s &&& bt7 k = 0 ∧ wvl W (vrw W n (n - (b + 1))) b s k = vrw W n (n - b) s)) j = true) → lk8 (fun k => decide (s &&& bt7 k = 0 ∧ wvl W (vrw W n (n - (b + 1))) b s k = vrw W n (n - b) s)) m k = kdw W n b s → T_X12_wishes_61 B f (nI e) (nI s) (nI k) (nI b) M K := by
  intro m
  induction m with
  | zero =>
    intro k f hkm hf hex_v _
    obtain ⟨j, h1, h2, -⟩ := hex_v
    omega
  | succ m ih =>
    intro k f hkm hf hex_v hl
    obtain ⟨f, rfl⟩ : ∃ g, f = g + 1 := ⟨f - 1, by omega⟩
    have hk8 : k < 8 := by omega
    have hv1 := vrw_le (n := n) hW (n - (b + 1))
    have hv := vrw_le (n := n) hW (n - b)
    have nx : ¬ (s &&& bt7 k = 0 ∧ wvl W (vrw W n (n - (b + 1))) b s k = vrw W n (n - b) s) → T_X12_wishes_61 B f (nI e) (nI s) (nI (k + 1)) (nI b) M K := by
      intro hc
      rw [lk8, if_neg (by rw [decide_eq_true_iff]; exact hc)] at hl
      obtain ⟨j, h1, h2, h3⟩ := hex_v
      have hj : j ≠ k := fun z => by rw [z] at h3; exact hc (of_decide_eq_true h3)
      exact ih (k + 1) f (by omega) (by omega) ⟨j, by omega, by omega, h3⟩ hl
    have e1 : (128 : Int32) * nI b + nI s = nI (128 * b + s) := by rw [show (128 : Int32) = nI 128 from rfl, pk_mul, nI_add]
    rw [T_X12_wishes_61]
    simp only [T_X12_wishes_94, forall_eq, nI_1]
    refine canHave_ok hs hk8 (fun c => ⟨fun z => absurd z (by decide), fun _ => ?_⟩) (fun c => ⟨fun _ => nx (fun z => c z.1), fun z => absurd rfl z⟩)
    refine wished_ok hW (hW0 b (by omega)) hn hb hs hk8 (hx _ (by omega)) (fun t ht => hM (b + 1) (by omega) (by omega) t ht) ?_
    rw [e1, nI_clamp (n := 128 * b + s) (by omega), hM b (by omega) (by omega) s hs]
    have hw : wvl W (vrw W n (n - (b + 1))) b s k ≤ 99 + 99 * (n - (b + 1)) := by
      unfold wvl
      have h1 := hW (8 * b + k)
      have h2 := hv1 (s ||| bt7 k)
      omega
    have h3 := hv s
    refine ⟨vp_in_nI (by omega) (by decide), pk_eq (wvl W (vrw W n (n - (b + 1))) b s k) (vrw W n (n - b) s) (fun c2 => ?_) (fun c2 => nx (fun z => c2 z.2))⟩
    rw [lk8, if_pos (decide_eq_true ⟨c, c2⟩)] at hl
    rw [← hl] at hB
    simp only [T_X12_wishes_113, forall_eq, nI_1]
    refine ⟨fun z => ?_, fun z => ?_⟩
    · have : k = 0 := by
        rcases Nat.eq_zero_or_pos k with w | w
        · exact w
        · exact absurd z (nI_nle w (by omega))
      subst this
      have eb : bt7 0 = 0 := rfl
      rw [eb, Nat.or_zero] at hB
      exact hB
    · have hk0 : k ≠ 0 := fun w => z (by rw [w]; decide)
      obtain ⟨j, rfl⟩ : ∃ j, k = j + 1 := ⟨k - 1, by omega⟩
      have eb : bt7 (j + 1) = 2 ^ j := by unfold bt7; rw [if_neg hk0]; rfl
      rw [eb] at hB
      rw [nI_pred, shl_c (by omega), nx_or]
      exact hB
theorem wish50_lp {W : Nat → Nat} {n e : Nat} {M : Mm} {K : Int32 → Mm → Prop} (hW : ∀ i, W i ≤ 99) (hW0 : ∀ b, b < 8 → W (8 * b) = 0) (hn : n ≤ 8) (he : e < n) (hx : ∀ i, i < 64 → M 181 i = nI (W i)) (hM : WY W n 0 M) (hK : K (nI (kdw W n e (stw W n e))) M) : ∀ m b f x3, b + m = e + 1 → m < f → (b = e + 1 → x3 = nI (kdw W n e (stw W n e))) → T_X12_wishes_50 f (nI (10 + e)) (nI (stw W n b)) x3 (nI b) M K := by
  have e10 : nI (10 + e) - 10 = nI e := by
    rw [show (10 : Int32) = nI 10 from rfl, pk_sub (by omega), Nat.add_sub_cancel_left]
  intro m
  induction m with
  | zero =>
    intro b f x3 hbm hf h3
    obtain ⟨f, rfl⟩ : ∃ g, f = g + 1 := ⟨f - 1, by omega⟩
    rw [T_X12_wishes_50, e10, h3 (by omega)]
    exact pk_lt e b (fun _ => hK) (fun z => absurd z (by omega))
  | succ m ih =>
    intro b f x3 hbm hf h3
    obtain ⟨f, rfl⟩ : ∃ g, f = g + 1 := ⟨f - 1, by omega⟩
    rw [T_X12_wishes_50, e10]
    refine pk_lt e b (fun z => absurd z (by omega)) (fun _ => ?_)
    have hb : b < n := by omega
    refine wish61_lp (W := W) (n := n) (b := b) (s := stw W n b) (e := 10 + e) hW hW0 hn hb (st_lt b (by omega)) hx hM ?_ 8 0 5000 (by omega) (by omega) (kd_ex hb) rfl
    exact ih (b + 1) f (nI (kdw W n b (stw W n b))) (by omega) (by omega) (fun z => by rw [show b = e by omega])
set_option maxHeartbeats 1000000 in
theorem ay_wishes {N : Nat} {M : Mm} (h : Inv N M) (x : Int32) : Ay (T_X11_wishes x) (T_X12_wishes x) N M := by
  have hf := h.t0 (x := 0)
  obtain ⟨np, nb, ⟨hC, -, -, -, hP, -⟩, -, -⟩ := id h
  have en : M 2 1 = nI nb := hC.1.2.2.2.1
  have hn : nb ≤ 8 := hC.1.2.2.2.2.2
  have en2 : M 159 7 = nI nb := hC.1.2.1.trans en
  have en3 : m_up M 159 0 0 159 7 = nI nb := by simpa [mu] using en2
  by_cases cx : x = 0 ∨ ∃ k, k < nb ∧ x = nI (10 + k)
  rotate_left
  · have c0 : ¬ x = 0 := fun z => cx (Or.inl z)
    have c1 : ¬ ∃ k, k < nb ∧ x - 10 = nI k := fun ⟨k, k1, k2⟩ => cx (Or.inr ⟨k, k1, by
      have : x - 10 + 10 = nI k + 10 := by rw [k2]
      rw [Int32.sub_add_cancel] at this
      rw [this, show (10 : Int32) = nI 10 from rfl, nI_add, Nat.add_comm]⟩)
    have e9 : (9 : Int32) + nI nb = nI (9 + nb) := nI_add 9 nb
    have c2 : ¬ ((10 : Int32) ≤ x ∧ x ≤ nI (9 + nb)) := fun z => by
      obtain ⟨k, h1, h2, h3⟩ := rng (a := 10) (b := 9 + nb) (by decide) (by omega) z
      exact cx (Or.inr ⟨k - 10, by omega, by rw [h3]; congr 1; omega⟩)
    refine Ah.ay (Ag.ah ⟨-1, M, m_up M 159 0 0, fun K q => ?_, fun K q => ?_, hf⟩)
    · rw [T_X11_wishes]
      refine ⟨fun z => absurd z c0, fun _ => ?_⟩
      rw [hb_neg c1 hn en]
      exact ⟨fun _ => q, fun z => absurd rfl z⟩
    · rw [T_X12_wishes]
      intro M1 e1
      subst e1
      rw [en3, e9]
      refine ⟨fun z => absurd z c0, fun _ => ?_⟩
      rw [ii_neg c2]
      exact ⟨fun _ => q, fun z => absurd rfl z⟩
  obtain ⟨W, eW⟩ : ∃ W : Nat → Nat, W = fun i => if i < 64 then (M 25 i).toNatClampNeg else 0 := ⟨_, rfl⟩
  have hWx : ∀ i, i < 64 → M 25 i = nI (W i) ∧ W i ≤ 99 := fun i hi => by
    obtain ⟨v, hv, ev⟩ := (hP.2.2.1 i hi).2
    have ev : M 25 i = nI v := ev
    have : W i = v := by rw [eW]; show (if i < 64 then (M 25 i).toNatClampNeg else 0) = v; rw [if_pos hi, ev, nI_clamp (by omega)]
    rw [this]
    exact ⟨ev, hv⟩
  have hW : ∀ i, W i ≤ 99 := fun i => by
    by_cases c : i < 64
    · exact (hWx i c).2
    · rw [eW]; show (if i < 64 then (M 25 i).toNatClampNeg else 0) ≤ 99; rw [if_neg c]; omega
  have hW0 : ∀ b, b < 8 → W (8 * b) = 0 := fun b hb => by
    have h1 : M 25 (8 * b) = 0 := hP.2.2.2.1 b hb
    have h2 := (hWx (8 * b) (by omega)).1
    rw [h1, show (0 : Int32) = nI 0 from rfl] at h2
    have := (nI_eq (a := 0) (b := W (8 * b)) (by decide) (by have := hW (8 * b); omega)).mp h2
    omega
  have hWy : ∀ i, i < 64 → m_up M 159 0 0 181 i = nI (W i) := fun i hi => by
    rw [m_up_ne (by omega)]
    exact ((hP.2.2.1 i hi).1).trans (hWx i hi).1
  intro K1 k
  have fin_v : ∀ (X' Y' : Mm), (∀ a, a ≠ 154 → a ≠ 156 → X' a = M a) → (∀ a, a ≠ 192 → Y' a = m_up M 159 0 0 a) → Inv (N + 1000) (jn X' Y') := by
    intro X' Y' h1 h2
    refine (h.fr (fun a j hfa => ?_)).mono (by omega)
    have z1 : a ≠ 154 := fun w => by rw [w] at hfa; cases hfa
    have z2 : a ≠ 156 := fun w => by rw [w] at hfa; cases hfa
    have z3 : a ≠ 192 := fun w => by rw [w] at hfa; cases hfa
    by_cases ha : a < 159
    · rw [jl j ha, h1 a z1 z2]
    · rw [jh j (by omega), h2 a z3, mu, if_neg (fun w => by rw [w.1, w.2] at hfa; cases hfa)]
  have mdl : ∀ (X' : Mm) (K2 : Int32 → Mm → Prop), (∀ Y', (∀ a, a ≠ 192 → Y' a = m_up M 159 0 0 a) → WY W nb 0 Y' → ((x = 0 → K2 (Y' 192 0) (jn X' Y')) ∧ (¬ x = 0 → T_X12_wishes_50 5000 x 0 0 0 (jn X' Y') K2))) → T_X12_wishes x (jn X' M) K2 := by
    intro X' K2 k2
    rw [T_X12_wishes]
    intro M1 e1
    rw [jn_uph (by omega)] at e1
    subst e1
    have go : T_X12_wishes_28 x (jn X' (m_up M 159 0 0)) K2 := by
      rw [T_X12_wishes_28]
      refine finds_ok (W := W) (n := nb) hW hW0 hn en3 hWy (fun Y' z1 z2 => ?_)
      rw [jh _ (by omega)]
      exact k2 Y' z1 z2
    refine ⟨fun _ => go, fun c0 => ?_⟩
    obtain ⟨b, hb, e⟩ := cx.resolve_left c0
    have e9 : (9 : Int32) + nI nb = nI (9 + nb) := nI_add 9 nb
    have ci : (10 : Int32) ≤ x ∧ x ≤ nI (9 + nb) := by
      rw [e]
      exact ⟨nI_le (a := 10) (by omega) (by omega), nI_le (by omega) (by omega)⟩
    rw [jh 7 (by omega), en3, e9, ii_pos ci]
    exact ⟨fun z => absurd z (by decide), fun _ => go⟩
  have cls : T_X11_wishes x (jn M M) K1 := by
    have go : T_X11_wishes_23 x (jn M M) K1 := by
      rw [T_X11_wishes_23, jl 1 (by omega), en]
      refine share_ok (W := W) (n := nb) hW hn (fun i hi => (hWx i hi).1) (fun X' z1 z2 => ⟨fun c0 => ?_, fun c0 => ?_⟩)
      · refine k _ _ (fun K2 k2 => mdl X' K2 (fun Y' w1 w2 => ⟨fun _ => ?_, fun z => absurd c0 z⟩))
        have := w2 0 (by omega) (by omega) 0 (by omega)
        rw [Nat.mul_zero, Nat.zero_add, Nat.sub_zero] at this
        rw [this]
        exact k2 _ (fin_v X' Y' z1 w1)
      · obtain ⟨b, hb, e⟩ := cx.resolve_left c0
        have e10 : x - 10 = nI b := by
          rw [e, show (10 : Int32) = nI 10 from rfl, pk_sub (by omega), Nat.add_sub_cancel_left]
        rw [e10, nI_clamp (n := b) (by omega), jl _ (by omega), z2 b hb]
        refine ⟨vp_in_nI (by omega) (by decide), k _ _ (fun K2 k2 => mdl X' K2 (fun Y' w1 w2 => ⟨fun z => absurd z c0, fun _ => ?_⟩))⟩
        rw [e]
        exact wish50_lp (W := W) (n := nb) (e := b) hW hW0 hn hb (fun i hi => by rw [jh _ (by omega), w1 181 (by omega)]; exact hWy i hi) (fun c c1 c2 t ht => by rw [jh _ (by omega)]; exact w2 c c1 c2 t ht) (k2 _ (fin_v X' Y' z1 w1)) (b + 1) 0 5000 0 (by omega) (by omega) (fun z => absurd z (by omega))
    rw [T_X11_wishes]
    refine ⟨fun _ => go, fun c0 => ?_⟩
    obtain ⟨b, hb, e⟩ := cx.resolve_left c0
    have e10 : x - 10 = nI b := by
      rw [e, show (10 : Int32) = nI 10 from rfl, pk_sub (by omega), Nat.add_sub_cancel_left]
    rw [e10, hb_pos rfl hb hn (by rw [jn_self]; exact en)]
    exact ⟨fun z => absurd z (by decide), fun _ => go⟩
  rw [jn_self] at cls
  exact cls
