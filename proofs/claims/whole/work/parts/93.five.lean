/-- how likely a shill he is behind_v one_v bid -/
def sg1 (q s o : Nat) : Nat := q * s * 1000000 / (q * s + (1000000 - q) * o)
theorem sg1_pos {q s o : Nat} (hq : q ≤ 1000000) (hs1 : 1 ≤ s) (ho1 : 1 ≤ o) : 0 < q * s + (1000000 - q) * o := by
  rcases Nat.eq_zero_or_pos q with h | h
  · subst h
    rw [Nat.zero_mul, Nat.zero_add]
    exact Nat.mul_pos (by omega) ho1
  · have := Nat.mul_pos h hs1
    omega
theorem sg1_le {q s o : Nat} (hq : q ≤ 1000000) (hs1 : 1 ≤ s) (ho1 : 1 ≤ o) : sg1 q s o ≤ 1000000 := by
  unfold sg1
  refine Nat.div_le_of_le_mul ?_
  rw [Nat.mul_comm (q * s + (1000000 - q) * o) 1000000, Nat.mul_comm (q * s) 1000000]
  exact Nat.mul_le_mul_left _ (by omega)
theorem weighed_ok {q s o : Nat} (hq : q ≤ 1000000) (hs : s ≤ 7) (ho : o ≤ 7) (hs1 : 1 ≤ s) (ho1 : 1 ≤ o) {M : Mm} {K : Int32 → Mm → Prop} (hK : K (nI (sg1 q s o)) M) : T_X8_weighed (nI q) (nI s) (nI o) M K := by
  have b1 : q * s ≤ 1000000 * 7 := Nat.mul_le_mul hq hs
  have b2 : (1000000 - q) * o ≤ 1000000 * 7 := Nat.mul_le_mul (by omega) ho
  have b3 := sg1_pos hq hs1 ho1
  have e1 : (nI q).toInt64 * (nI s).toInt64 = lN (q * s) := by rw [nI_l (by omega), nI_l (by omega), lN_mul]
  have e2 : lN (q * s) + ((1000000 - nI q)).toInt64 * (nI o).toInt64 = lN (q * s + (1000000 - q) * o) := by
    rw [show (1000000 : Int32) = nI 1000000 from rfl, pk_sub hq, nI_l (by omega), nI_l (by omega), lN_mul, lN_add]
  rw [T_X8_weighed]
  intro y1 h1 y2 h2
  rw [e1] at h1
  subst h1
  rw [e2] at h2
  subst h2
  refine ⟨fun _ => ⟨fun z => ?_, ?_⟩, fun z => absurd ?_ z⟩
  · have := (pk_lEQ (a := q * s + (1000000 - q) * o) (b := 0) (by omega) (by omega)).mp z
    omega
  · rw [show (1000000 : Int64) = lN 1000000 from rfl, lN_mul, pk_lDiv (by omega) b3 (by omega), lN_i]
    exact hK
  · rw [lg_cmp_gt]
    exact (pk_lLT (a := 0) (by omega) (by omega)).mpr b3
theorem partOf_lp {a d : Nat} (hd : 0 < d) (hd2 : d ≤ 20000000) (had : a ≤ d) {M : Mm} {K : Int32 → Mm → Prop} (hK : K (nI (a * 1000000 / d)) M) : ∀ f k, k ≤ 6 → 6 - k < f → T_X12_partOf_12 f (nI d) (nI (a * 10 ^ k / d)) (nI (a * 10 ^ k % d)) (nI k) M K := by
  intro f
  induction f with
  | zero => intro k _ h; exact absurd h (Nat.not_lt_zero _)
  | succ f ih =>
    intro k hk hf
    have hr : a * 10 ^ k % d < d := Nat.mod_lt _ hd
    have hv : a * 10 ^ k / d ≤ 10 ^ k := Nat.div_le_of_le_mul (Nat.mul_le_mul_right _ had)
    rw [T_X12_partOf_12]
    refine pk_le 6 k (fun h => ?_) (fun h => ?_)
    · have e : k = 6 := by omega
      subst e
      exact hK
    · have h10 : 10 ^ k ≤ 10 ^ 5 := Nat.pow_le_pow_right (by omega) (by omega)
      have e0 : nI (a * 10 ^ k % d) * 10 = nI (a * 10 ^ k % d * 10) := pk_mul _ 10
      have hne : ¬ nI d = 0 := nI_ne0 hd (by omega)
      have e4 : 10 * nI (a * 10 ^ k / d) + nI (a * 10 ^ k % d * 10) / nI d = nI (a * 10 ^ (k + 1) / d) := by
        rw [show (10 : Int32) = nI 10 from rfl, pk_mul, pk_div (by omega) hd (by omega), nI_add]
        congr 1
        have hh : a * 10 ^ (k + 1) = d * (10 * (a * 10 ^ k / d)) + a * 10 ^ k % d * 10 := by
          have h0 := Nat.div_add_mod (a * 10 ^ k) d
          rw [Nat.pow_succ, ← Nat.mul_assoc]
          generalize a * 10 ^ k = X at h0 ⊢
          generalize X / d = Q at h0 ⊢
          generalize X % d = R at h0 ⊢
          rw [← h0, Nat.add_mul, Nat.mul_assoc, Nat.mul_comm Q 10]
        rw [hh, Nat.mul_add_div hd]
      have e6 : nI (a * 10 ^ k % d * 10) - nI (a * 10 ^ k % d * 10) / nI d * nI d = nI (a * 10 ^ (k + 1) % d) := by
        rw [pk_rem (by omega) hd (by omega)]
        congr 1
        rw [Nat.pow_succ, ← Nat.mul_assoc, Nat.mul_mod, Nat.mod_mod, ← Nat.mul_mod]
      intro y2 h2
      rw [e0] at h2
      subst h2
      refine ⟨hne, fun y4 h4 => ⟨hne, fun y6 h6 y7 h7 => ?_⟩⟩
      rw [e4] at h4
      rw [e6] at h6
      rw [nI_1] at h7
      rw [h4, h6, h7]
      exact ih (k + 1) (by omega) (by omega)
theorem guessed_ok {q s o : Nat} (hq : q ≤ 1000000) (hs : s ≤ 7) (ho : o ≤ 7) (hs1 : 1 ≤ s) (ho1 : 1 ≤ o) {M : Mm} {K : Int32 → Mm → Prop} (hK : K (nI (sg1 q s o)) M) : T_X12_guessed (nI q) (nI s) (nI o) M K := by
  have b1 : q * s ≤ 1000000 * 7 := Nat.mul_le_mul hq hs
  have b2 : (1000000 - q) * o ≤ 1000000 * 7 := Nat.mul_le_mul (by omega) ho
  have b3 := sg1_pos hq hs1 ho1
  have e2 : nI (q * s) + (1000000 - nI q) * nI o = nI (q * s + (1000000 - q) * o) := by
    rw [show (1000000 : Int32) = nI 1000000 from rfl, pk_sub hq, pk_mul, nI_add]
  have hne : ¬ nI (q * s + (1000000 - q) * o) = 0 := nI_ne0 b3 (by omega)
  rw [T_X12_guessed, pk_mul, e2, T_X12_partOf]
  refine ⟨hne, fun y9 h9 => ⟨hne, fun y11 h11 => ?_⟩⟩
  have := partOf_lp (a := q * s) (d := q * s + (1000000 - q) * o) b3 (by omega) (by omega) (M := M) (K := K) hK 5000 0 (by omega) (by omega)
  rw [Nat.pow_zero, Nat.mul_one] at this
  rw [h9, h11, pk_rem (by omega) b3 (by omega), pk_div (by omega) b3 (by omega)]
  exact this
/-- and behind_v i of them -/
def sgs (p n : Nat) : Nat → Nat
  | 0 => 1000 * p
  | i + 1 => if i < n then sg1 (sgs p n i) 6 3 else sg1 (sgs p n i) 4 7
theorem sgs_le {p n : Nat} (hp : p ≤ 1000) : ∀ i, sgs p n i ≤ 1000000
  | 0 => by rw [sgs]; omega
  | i + 1 => by
    rw [sgs]
    split
    · exact sg1_le (sgs_le hp i) (by omega) (by omega)
    · exact sg1_le (sgs_le hp i) (by omega) (by omega)
theorem susp_lp {p n m : Nat} (hp : p ≤ 1000) (hn : n ≤ 20) (hm : m ≤ 40) {M : Mm} {K : Int32 → Mm → Prop} (hK : K (nI (sgs p n m)) M) : ∀ f i, i ≤ m → m - i < f → T_X8_suspicion_10 f (nI n) (nI m) (nI (sgs p n i)) (nI i) M K := by
  intro f
  induction f with
  | zero => intro k _ h; exact absurd h (Nat.not_lt_zero _)
  | succ f ih =>
    intro i hi hf
    rw [T_X8_suspicion_10]
    refine pk_le m i (fun h => ?_) (fun h => pk_le 40 i (fun h2 => absurd h2 (by omega)) (fun h2 => pk_le n i (fun h3 => ?_) (fun h3 => ?_)))
    · have e : i = m := by omega
      rw [e]; exact hK
    · refine weighed_ok (q := sgs p n i) (s := 4) (o := 7) (sgs_le hp i) (by omega) (by omega) (by omega) (by omega) ?_
      rw [T_X8_suspicion_50]
      intro y1 h1
      rw [h1, nI_1]
      have := ih (i + 1) (by omega) (by omega)
      rw [sgs, if_neg (by omega)] at this
      exact this
    · refine weighed_ok (q := sgs p n i) (s := 6) (o := 3) (sgs_le hp i) (by omega) (by omega) (by omega) (by omega) ?_
      rw [T_X8_suspicion_50]
      intro y1 h1
      rw [h1, nI_1]
      have := ih (i + 1) (by omega) (by omega)
      rw [sgs, if_pos (by omega)] at this
      exact this
theorem shill_lp {p n m : Nat} (hp : p ≤ 1000) (hn : n ≤ 20) (hm : m ≤ 40) {M : Mm} {K : Int32 → Mm → Prop} (hK : K (nI (sgs p n m)) M) : ∀ f i, i ≤ m → m - i < f → T_X12_shill_51 f (nI n) (nI m) (nI (sgs p n i)) (nI i) M K := by
  intro f
  induction f with
  | zero => intro k _ h; exact absurd h (Nat.not_lt_zero _)
  | succ f ih =>
    intro i hi hf
    rw [T_X12_shill_51]
    refine pk_le m i (fun h => ?_) (fun h => pk_le n i (fun h3 => ?_) (fun h3 => ?_))
    · have e : i = m := by omega
      rw [e]; exact hK
    · refine guessed_ok (q := sgs p n i) (s := 4) (o := 7) (sgs_le hp i) (by omega) (by omega) (by omega) (by omega) ?_
      rw [T_X12_shill_84]
      intro y1 h1
      rw [h1, nI_1]
      have := ih (i + 1) (by omega) (by omega)
      rw [sgs, if_neg (by omega)] at this
      exact this
    · refine guessed_ok (q := sgs p n i) (s := 6) (o := 3) (sgs_le hp i) (by omega) (by omega) (by omega) (by omega) ?_
      rw [T_X12_shill_84]
      intro y1 h1
      rw [h1, nI_1]
      have := ih (i + 1) (by omega) (by omega)
      rw [sgs, if_pos (by omega)] at this
      exact this
set_option maxHeartbeats 1000000 in
theorem ag_shill {N : Nat} {M : Mm} (h : Inv N M) (x y z : Int32) : Ag (T_X11_shill x y z) (T_X12_shill x y z) N M := by
  have hf := h.t0 (x := 0)
  by_cases c1 : (0 : Int32) ≤ x ∧ x ≤ 1000
  rotate_left
  · exact ⟨-1, M, _, fun K q => by simpa [T_X11_shill, iw_neg c1] using q, fun K q => by simpa [T_X12_shill, ii_neg c1] using q, hf⟩
  by_cases c2 : (0 : Int32) ≤ y ∧ y ≤ 20
  rotate_left
  · exact ⟨-1, M, _, fun K q => by simpa [T_X11_shill, iw_pos c1, iw_neg c2] using q, fun K q => by simpa [T_X12_shill, ii_pos c1, ii_neg c2] using q, hf⟩
  by_cases c3 : y ≤ z ∧ z ≤ 40
  rotate_left
  · exact ⟨-1, M, _, fun K q => by simpa [T_X11_shill, iw_pos c1, iw_pos c2, iw_neg c3] using q, fun K q => by simpa [T_X12_shill, ii_pos c1, ii_pos c2, ii_neg c3] using q, hf⟩
  obtain ⟨p, -, hp, rfl⟩ := rng (a := 0) (b := 1000) (by decide) (by decide) c1
  obtain ⟨n, -, hn, rfl⟩ := rng (a := 0) (b := 20) (by decide) (by decide) c2
  obtain ⟨m, -, hm, rfl⟩ := rng (a := n) (b := 40) (by omega) (by decide) c3
  have e0 : (1000 : Int32) * nI p = nI (sgs p n 0) := pk_mul 1000 p
  refine ⟨nI (sgs p n m), M, m_up M 159 0 0, fun K q => ?_, fun K q => ?_, hf⟩
  · have := susp_lp (M := M) hp hn hm q 5000 0 (by omega) (by omega)
    simp only [T_X11_shill, iw_pos c1, iw_pos c2, iw_pos c3, T_X8_suspicion, forall_eq, e0]
    exact ⟨fun z => absurd z (by decide), fun _ => ⟨fun z => absurd z (by decide), fun _ => ⟨fun z => absurd z (by decide), fun _ => this⟩⟩⟩
  · have := shill_lp (M := m_up M 159 0 0) hp hn hm q 5000 0 (by omega) (by omega)
    simp only [T_X12_shill, ii_pos c1, ii_pos c2, ii_pos c3, forall_eq, e0]
    exact ⟨fun z => absurd z (by decide), fun _ => ⟨fun z => absurd z (by decide), fun _ => ⟨fun z => absurd z (by decide), fun _ => this⟩⟩⟩
theorem sm_v {x : Int32} {n : Nat} (h : sm x n) (hn : n < 2 ^ 31) : x = nI x.toNatClampNeg ∧ x.toNatClampNeg ≤ n := by
  obtain ⟨k, hk, rfl⟩ := h
  rw [nI_clamp (by omega)]
  exact ⟨rfl, hk⟩
theorem gcd_st (a b : Nat) : Nat.gcd b (a % b) = Nat.gcd a b := by
  rw [Nat.gcd_comm a b, Nat.gcd_rec b a, Nat.gcd_comm]
theorem half_st {a b : Nat} (hb : 0 < b) (h : b ≤ a) : 2 * (a % b) ≤ a := by
  have h1 := Nat.div_add_mod a b
  have h2 : 1 ≤ a / b := (Nat.le_div_iff_mul_le hb).mpr (by omega)
  have h3 : b * 1 ≤ b * (a / b) := Nat.mul_le_mul_left _ h2
  have h4 := Nat.mod_lt a hb
  omega
theorem div_lp {g : Nat} {M : Mm} {K : Int32 → Mm → Prop} (hK : K (nI g) M) : ∀ f i a b, i ≤ 64 → 64 - i < f → a ≤ 999 → b ≤ 999 → Nat.gcd a b = g → (i = 0 ∨ (b ≤ a ∧ a * b * 2 ^ (i - 1) ≤ 998001)) → T_X8_divisor_8 f (nI a) (nI b) (nI i) M K := by
  intro f
  induction f with
  | zero => intro i a b _ h; exact absurd h (Nat.not_lt_zero _)
  | succ f ih =>
    intro i a b hi hf ha hb hg hm
    rw [T_X8_divisor_8]
    refine pk_le 64 i (fun h => ?_) (fun h => pk_eq b 0 (fun h2 => ?_) (fun h2 => ⟨nI_ne0 (by omega) (by omega), fun y4 h4 y5 h5 => ?_⟩))
    · have e : i = 64 := by omega
      subst e
      have hb0 : b = 0 := by
        rcases hm with hm | ⟨h1, h3⟩
        · exact absurd hm (by omega)
        · rcases Nat.eq_zero_or_pos b with hb0 | hb0
          · exact hb0
          · exfalso
            have h4 : 1 ≤ a * b := Nat.mul_pos (by omega) hb0
            have h5 : 1 * 2 ^ (64 - 1) ≤ a * b * 2 ^ (64 - 1) := Nat.mul_le_mul_right _ h4
            have h6 : (998001 : Nat) < 1 * 2 ^ (64 - 1) := by decide
            omega
      subst hb0
      rw [Nat.gcd_zero_right] at hg
      rw [hg]; exact hK
    · subst h2
      rw [Nat.gcd_zero_right] at hg
      rw [hg]; exact hK
    · have hb0 : 0 < b := by omega
      have hr := Nat.mod_lt a hb0
      rw [pk_rem (by omega) hb0 (by omega)] at h4
      rw [h4, h5, nI_1]
      refine ih (i + 1) b (a % b) (by omega) (by omega) hb (by omega) (by rw [gcd_st]; exact hg) (Or.inr ⟨by omega, ?_⟩)
      rw [Nat.add_sub_cancel]
      rcases hm with hm | ⟨h1, h3⟩
      · subst hm
        have h7 : b * (a % b) ≤ 999 * 999 := Nat.mul_le_mul hb (by omega)
        rw [Nat.pow_zero, Nat.mul_one]
        omega
      · have h8 := half_st hb0 h1
        rcases Nat.eq_zero_or_pos i with hi0 | hi0
        · subst hi0
          have h7 : b * (a % b) ≤ 999 * 999 := Nat.mul_le_mul hb (by omega)
          rw [Nat.pow_zero, Nat.mul_one]
          omega
        · obtain ⟨j, rfl⟩ : ∃ j, i = j + 1 := ⟨i - 1, by omega⟩
          rw [Nat.add_sub_cancel] at h3
          have h9 : b * (a % b) * 2 ^ (j + 1) ≤ a * b * 2 ^ j := by
            rw [Nat.pow_succ, Nat.mul_comm (2 ^ j) 2, ← Nat.mul_assoc]
            refine Nat.mul_le_mul_right _ ?_
            rw [Nat.mul_comm a b, Nat.mul_assoc, Nat.mul_comm (a % b) 2]
            exact Nat.mul_le_mul_left _ h8
          omega
theorem com_lp {g : Nat} {M : Mm} {K : Int32 → Mm → Prop} (hK : K (nI g) M) : ∀ f a b, b < f → a ≤ 999 → b ≤ 999 → Nat.gcd a b = g → T_X12_common_5 f (nI a) (nI b) M K := by
  intro f
  induction f with
  | zero => intro a b h; exact absurd h (Nat.not_lt_zero _)
  | succ f ih =>
    intro a b hf ha hb hg
    rw [T_X12_common_5]
    refine pk_eq b 0 (fun h2 => ?_) (fun h2 => ⟨nI_ne0 (by omega) (by omega), fun y4 h4 => ?_⟩)
    · subst h2
      rw [Nat.gcd_zero_right] at hg
      rw [hg]; exact hK
    · have hb0 : 0 < b := by omega
      have hr := Nat.mod_lt a hb0
      rw [pk_rem (by omega) hb0 (by omega)] at h4
      rw [h4]
      exact ih b (a % b) (by omega) hb (by omega) (by rw [gcd_st]; exact hg)
/-- how far_v apart_v two_v days are -/
def dst (a b : Nat) : Nat := if b ≤ a then a - b else b - a
/-- the greatest common_v part_v of the days' distances from the first, up to day i -/
def evg (R : Nat → Nat) : Nat → Nat
  | 0 => 0
  | i + 1 => if i = 0 then 0 else Nat.gcd (evg R i) (dst (R i) (R 0))
theorem dst_le {a b : Nat} (ha : a ≤ 999) (hb : b ≤ 999) : dst a b ≤ 999 := by
  unfold dst
  split <;> omega
theorem evg_le {R : Nat → Nat} (hR : ∀ i, i < 20 → R i ≤ 999) : ∀ i, i ≤ 20 → evg R i ≤ 999
  | 0, _ => by rw [evg]; omega
  | i + 1, hi => by
    rw [evg]
    split
    · omega
    · have h1 := evg_le hR i (by omega)
      have h2 := dst_le (hR i (by omega)) (hR 0 (by omega))
      rcases Nat.eq_zero_or_pos (evg R i) with h | h
      · rw [h, Nat.gcd_zero_left]; exact h2
      · exact Nat.le_trans (Nat.gcd_le_left _ h) h1
theorem dst_c {a b : Nat} (ha : a ≤ 999) (hb : b ≤ 999) : (if 0 ≤ (nI a - nI b) then (nI a - nI b) else 0 - (nI a - nI b)) = nI (dst a b) := by
  unfold dst
  by_cases h : b ≤ a
  · rw [if_pos h, pk_sub h, if_pos (nI_pos' (by omega))]
  · rw [if_neg h, if_neg (Int32.not_le.mpr (pk_sneg (by omega) (by omega))), Int32.zero_sub, Int32.neg_sub, pk_sub (by omega)]
theorem raids_lp {R : Nat → Nat} {c : Nat} {M : Mm} {K : Int32 → Mm → Prop} (hc : c ≤ 20) (ec : M 30 13 = nI c) (hR : ∀ i, i < 20 → R i ≤ 999 ∧ M 39 i = nI (R i)) (hK : K (nI (evg R (max c 1))) M) : ∀ f i, 1 ≤ i → i ≤ max c 1 → max c 1 - i < f → T_X8_raidsApart_4 30 f (nI (evg R i)) (nI i) M K := by
  intro f
  induction f with
  | zero => intro i _ _ h; exact absurd h (Nat.not_lt_zero _)
  | succ f ih =>
    intro i h1 hi hf
    have e39 : rf 30 8 = 39 := by decide
    rw [T_X8_raidsApart_4, ec, e39, nI_clamp (by omega)]
    refine pk_le c i (fun h => ?_) (fun h => pk_le 20 i (fun h2 => absurd h2 (by omega)) (fun h2 => ⟨vp_in_nI (by omega) (by decide), ?_⟩))
    · have e : i = max c 1 := by omega
      rw [e]; exact hK
    · rw [(hR i (by omega)).2, (hR 0 (by omega)).2, dst_c (hR i (by omega)).1 (hR 0 (by omega)).1, T_X8_divisor]
      refine div_lp (g := evg R (i + 1)) ?_ 5000 0 _ _ (by omega) (by omega) (evg_le (fun j hj => (hR j hj).1) i (by omega)) (dst_le (hR i (by omega)).1 (hR 0 (by omega)).1) (by rw [evg, if_neg (by omega)]) (Or.inl rfl)
      intro y7 h7
      rw [h7, nI_1]
      exact ih (i + 1) (by omega) (by omega) (by omega)
theorem greater_ok {a b : Nat} {M : Mm} {K : Int32 → Mm → Prop} (ha : a < 2 ^ 31) (hb : b < 2 ^ 31) (hK : K (nI (max a b)) M) : T_X12_greater (nI a) (nI b) M K := by
  rw [T_X12_greater]
  refine pk_le a b (fun h => ?_) (fun h => ?_)
  · rw [Nat.max_eq_right h] at hK; exact hK
  · rw [Nat.max_eq_left (by omega)] at hK; exact hK
theorem lesser_ok {a b : Nat} {M : Mm} {K : Int32 → Mm → Prop} (ha : a < 2 ^ 31) (hb : b < 2 ^ 31) (hK : K (nI (min a b)) M) : T_X12_lesser (nI a) (nI b) M K := by
  have h : (nI b ≤ nI a → K (nI b) M) ∧ (¬ nI b ≤ nI a → K (nI a) M) := by
    refine pk_le b a (fun h => ?_) (fun h => ?_)
    · rw [Nat.min_eq_right h] at hK; exact hK
    · rw [Nat.min_eq_left (by omega)] at hK; exact hK
  rw [T_X12_lesser]
  exact h
theorem everyDay_lp {R : Nat → Nat} {c : Nat} {M : Mm} {K : Int32 → Mm → Prop} (hc : c ≤ 20) (ec : M 159 65 = nI c) (hR : ∀ i, i < 20 → R i ≤ 999 ∧ M 197 i = nI (R i)) (hK : K (nI (evg R (max c 1))) M) : ∀ f i, 1 ≤ i → i ≤ max c 1 → max c 1 - i < f → T_X12_everyDay_4 f (nI (evg R i)) (nI i) M K := by
  intro f
  induction f with
  | zero => intro i _ _ h; exact absurd h (Nat.not_lt_zero _)
  | succ f ih =>
    intro i h1 hi hf
    rw [T_X12_everyDay_4, ec, nI_clamp (by omega)]
    refine pk_le c i (fun h => ?_) (fun h => ⟨vp_in_nI (by omega) (by decide), ?_⟩)
    · have e : i = max c 1 := by omega
      rw [e]; exact hK
    · have r1 := hR i (by omega)
      have r0 := hR 0 (by omega)
      rw [r1.2, r0.2]
      refine greater_ok (by omega) (by omega) ⟨vp_in_nI (by omega) (by decide), ?_⟩
      rw [r1.2, r0.2]
      refine lesser_ok (by omega) (by omega) ?_
      have e : nI (max (R i) (R 0)) - nI (min (R i) (R 0)) = nI (dst (R i) (R 0)) := by
        rw [pk_sub (by omega)]
        congr 1
        unfold dst
        split <;> omega
      rw [e, T_X12_common]
      have hd := dst_le r1.1 r0.1
      refine com_lp (g := evg R (i + 1)) ?_ 5000 _ _ (by omega) (evg_le (fun j hj => (hR j hj).1) i (by omega)) hd (by rw [evg, if_neg (by omega)])
      intro y7 h7
      rw [h7, nI_1]
      exact ih (i + 1) (by omega) (by omega) (by omega)
theorem neg_T {n : Nat} (h : n < 2 ^ 31) : (-(nI n)).toInt = -(n : Int) := by
  rw [Int32.toInt_neg, nI_toInt h]
  exact Int.bmod_eq_of_le (by omega) (by omega)
theorem sgn_b (x : Int32) : bt x 31 = decide (x.toInt < 0) := by
  have h := BitVec.msb_eq_toInt (x := x.toBitVec)
  rw [BitVec.msb_eq_getLsbD_last] at h
  exact h
theorem neg_div_c {n v : Nat} (hn : n < 2 ^ 30) (hv : 0 < v) (hv2 : v < 2 ^ 30) : -(nI n) / nI v = -(nI (n / v)) := by
  have h1 : n / v ≤ n := Nat.div_le_self _ _
  have hne : nI v ≠ -1 := fun q => by
    have := congrArg Int32.toInt q
    rw [nI_toInt (by omega), show (-1 : Int32).toInt = -1 from by decide] at this
    omega
  apply Int32.toInt_inj.mp
  rw [Int32.toInt_div_of_ne_right _ _ hne, neg_T (by omega), neg_T (by omega), nI_toInt (by omega), Int.neg_tdiv, Int.ofNat_tdiv]
theorem floor_pos {a v : Nat} {M : Mm} {K : Int32 → Mm → Prop} (ha : a < 2 ^ 30) (hv : 0 < v) (hv2 : v < 2 ^ 30) (hK : K (nI (a % v)) M) : T_J9_floorMod_7cf53 (nI a) (nI v) M K := by
  have hx : 0 ≤ nI a ^^^ nI v := by
    rw [nx_xor]
    exact nI_pos' (Nat.xor_lt_two_pow (by omega) (by omega))
  rw [T_J9_floorMod_7cf53, pk_rem (by omega) hv (by omega)]
  refine ⟨nI_ne0 hv (by omega), fun y2 h2 => ⟨fun _ => ?_, fun z => absurd hx z⟩⟩
  rw [h2]; exact hK
theorem floor_neg {n v : Nat} {M : Mm} {K : Int32 → Mm → Prop} (hn0 : 0 < n) (hn : n < 2 ^ 30) (hv : 0 < v) (hv2 : v < 2 ^ 30) (hK : K (nI (if n % v = 0 then 0 else v - n % v)) M) : T_J9_floorMod_7cf53 (-(nI n)) (nI v) M K := by
  have hx : ¬ 0 ≤ -(nI n) ^^^ nI v := by
    rw [le_I]
    have hb := sgn_b (-(nI n) ^^^ nI v)
    rw [b_xor, sgn_b, sgn_b, neg_T (by omega), nI_toInt (by omega), decide_eq_true (by omega), decide_eq_false (by omega)] at hb
    have h0 : (0 : Int32).toInt = 0 := by decide
    have := of_decide_eq_true hb.symm
    omega
  have hr := Nat.mod_lt n hv
  have e : -(nI n) - -(nI n) / nI v * nI v = -(nI (n % v)) := by
    rw [neg_div_c hn hv hv2, Int32.neg_mul, Int32.sub_neg, Int32.add_comm, ← pk_rem (by omega) hv (by omega), Int32.neg_sub, Int32.sub_eq_add_neg, pk_div (by omega) hv (by omega)]
  rw [T_J9_floorMod_7cf53, e]
  refine ⟨nI_ne0 hv (by omega), fun y2 h2 => ⟨fun z => absurd z hx, fun _ => ⟨fun h3 => ?_, fun h3 => ?_⟩⟩⟩
  · have h4 : n % v = 0 := by
      rcases Nat.eq_zero_or_pos (n % v) with q | q
      · exact q
      · exfalso
        rw [h2] at h3
        have h5 := Int32.neg_ne_zero.mpr (nI_ne0 q (by omega))
        exact h5 h3
    rw [if_pos h4] at hK
    rw [h3]; exact hK
  · have h4 : ¬ n % v = 0 := fun q => h3 (by rw [h2, q]; decide)
    rw [if_neg h4] at hK
    rw [h2, Int32.add_comm, ← Int32.sub_eq_add_neg, pk_sub (by omega)]
    exact hK
theorem ev_n1 {R d v : Nat} (hv : 0 < v) (h : d + 1 ≤ R) (hf : R % v ≤ d) : d + 1 + (R - d - 1) % v = d - (d - R % v) % v + v := by
  have h1 := Nat.div_add_mod R v
  have h2 := Nat.div_add_mod (d - R % v) v
  have h3 := Nat.mod_lt (d - R % v) hv
  generalize R % v = r at *
  generalize R / v = a at *
  generalize (d - r) % v = e at *
  generalize (d - r) / v = b at *
  have hab : b < a := by
    refine Nat.not_le.mp fun z => ?_
    have := Nat.mul_le_mul_left v z
    omega
  obtain ⟨c, rfl⟩ : ∃ c, a = b + 1 + c := ⟨a - b - 1, by omega⟩
  rw [Nat.mul_add, Nat.mul_add, Nat.mul_one] at h1
  have h4 : R - d - 1 = v * c + (v - 1 - e) := by omega
  rw [h4, Nat.mul_add_mod, Nat.mod_eq_of_lt (by omega)]
  omega
theorem ev_n2 {R d v : Nat} (hv : 0 < v) (h : d + 1 ≤ R) (hf : d < R % v) : d + 1 + (R - d - 1) % v = R % v := by
  have h1 := Nat.div_add_mod R v
  have h2 := Nat.mod_lt R hv
  generalize R % v = r at *
  generalize R / v = a at *
  have h4 : R - d - 1 = v * a + (r - d - 1) := by omega
  rw [h4, Nat.mul_add_mod, Nat.mod_eq_of_lt (by omega)]
  omega
theorem ev_n3 {R d v : Nat} (hv : 0 < v) (h : R ≤ d) (hf : R % v ≤ d) : d + 1 + (if (d + 1 - R) % v = 0 then 0 else v - (d + 1 - R) % v) = d - (d - R % v) % v + v := by
  have h1 := Nat.div_add_mod R v
  have h2 := Nat.div_add_mod (d - R % v) v
  have h3 := Nat.mod_lt (d - R % v) hv
  generalize R % v = r at *
  generalize R / v = a at *
  generalize (d - r) % v = e at *
  generalize (d - r) / v = b at *
  have hab : a ≤ b := by
    refine Nat.not_lt.mp fun z => ?_
    have := Nat.mul_le_mul_left v (show b + 1 ≤ a from z)
    rw [Nat.mul_add, Nat.mul_one] at this
    omega
  obtain ⟨c, rfl⟩ : ∃ c, b = a + c := ⟨b - a, by omega⟩
  rw [Nat.mul_add] at h2
  by_cases he : e + 1 = v
  · have h4 : d + 1 - R = v * (c + 1) + 0 := by rw [Nat.mul_add, Nat.mul_one]; omega
    have h5 : (d + 1 - R) % v = 0 := by rw [h4, Nat.mul_add_mod, Nat.mod_eq_of_lt (by omega)]
    rw [if_pos h5]
    omega
  · have h4 : d + 1 - R = v * c + (e + 1) := by omega
    have h5 : (d + 1 - R) % v = e + 1 := by rw [h4, Nat.mul_add_mod, Nat.mod_eq_of_lt (by omega)]
    rw [h5, if_neg (by omega)]
    omega
set_option maxHeartbeats 1000000 in
theorem ag_every {N : Nat} {M : Mm} (h : Inv N M) (x : Int32) : Ag (T_X11_every x) (T_X12_every x) N M := by
  have hf := h.t0 (x := 0)
  by_cases c1 : (-1 : Int32) ≤ x ∧ x ≤ 9999
  rotate_left
  · exact ⟨-1, M, _, fun K q => by simpa [T_X11_every, iw_neg c1] using q, fun K q => by simpa [T_X12_every, ii_neg c1] using q, hf⟩
  obtain ⟨np, nb, ⟨-, -, -, -, -, hT⟩, -, -⟩ := id h
  obtain ⟨-, -, -, -, -, -, -, e1, ⟨c, hc, ec⟩, t8⟩ := hT
  have ec : M 30 13 = nI c := ec
  have e1 : M 159 65 = nI c := e1.trans ec
  obtain ⟨R, eR⟩ : ∃ R : Nat → Nat, R = fun i => (M 39 i).toNatClampNeg := ⟨_, rfl⟩
  have hR : ∀ i, i < 20 → R i ≤ 999 ∧ M 39 i = nI (R i) := fun i hi => by
    obtain ⟨a1, a2⟩ := sm_v (t8 i hi).2 (by omega)
    rw [eR]
    exact ⟨a2, a1⟩
  have hR2 : ∀ i, i < 20 → R i ≤ 999 ∧ m_up M 159 0 0 197 i = nI (R i) := fun i hi => by
    rw [mu, if_neg (by omega)]
    exact ⟨(hR i hi).1, ((t8 i hi).1).trans (hR i hi).2⟩
  have ec2 : m_up M 159 0 0 159 65 = nI c := by rw [mu, if_neg (by omega)]; exact e1
  have hv := evg_le (fun j hj => (hR j hj).1) (max c 1) (by omega)
  generalize hg : evg R (max c 1) = v at hv
  have A : ∀ K : Int32 → Mm → Prop, K (nI v) M → T_X8_raidsApart 30 M K := fun K q => by
    rw [T_X8_raidsApart]
    exact raids_lp (R := R) hc ec hR (by rw [hg]; exact q) 5000 1 (by omega) (by omega) (by omega)
  have B : ∀ K : Int32 → Mm → Prop, K (nI v) (m_up M 159 0 0) → T_X12_everyDay (m_up M 159 0 0) K := fun K q => by
    rw [T_X12_everyDay]
    exact everyDay_lp (R := R) hc ec2 hR2 (by rw [hg]; exact q) 5000 1 (by omega) (by omega) (by omega)
  by_cases c2 : x = -1
  · subst c2
    refine ⟨nI v, M, m_up M 159 0 0, fun K q => ?_, fun K q => ?_, hf⟩
    · simp only [T_X11_every, iw_pos c1]
      exact ⟨fun z => absurd z (by decide), fun _ => A _ ⟨fun _ => q, fun z => absurd trivial z⟩⟩
    · simp only [T_X12_every, ii_pos c1, forall_eq]
      exact ⟨fun z => absurd z (by decide), fun _ => B _ ⟨fun _ => q, fun z => absurd trivial z⟩⟩
  have c3 : ¬ x < 0 := fun z => c2 (by
    have h1 := c1.1
    rw [le_I, show (-1 : Int32).toInt = -1 from by decide] at h1
    rw [lt_I, show (0 : Int32).toInt = 0 from by decide] at z
    apply Int32.toInt_inj.mp
    rw [show (-1 : Int32).toInt = -1 from by decide]
    omega)
  obtain ⟨d, hd0, rfl⟩ := nI_of c3
  have hd : d ≤ 9999 := (nI_leI (b := 9999) hd0 (by decide)).mp c1.2
  by_cases v0 : v = 0
  · subst v0
    refine ⟨-1, M, m_up M 159 0 0, fun K q => ?_, fun K q => ?_, hf⟩
    · simp only [T_X11_every, iw_pos c1]
      exact ⟨fun z => absurd z (by decide), fun _ => A _ ⟨fun z => absurd z c2, fun _ => ⟨fun z => absurd z (by decide), fun _ => q⟩⟩⟩
    · simp only [T_X12_every, ii_pos c1, forall_eq]
      exact ⟨fun z => absurd z (by decide), fun _ => B _ ⟨fun z => absurd z c2, fun _ => ⟨fun _ => q, fun z => absurd (by decide) z⟩⟩⟩
  have hv0 : 0 < v := by omega
  have hR0 := (hR 0 (by omega)).1
  have hmod := Nat.mod_lt (R 0) hv0
  have hmle := Nat.mod_le (R 0) v
  refine ⟨nI (if R 0 % v ≤ d then d - (d - R 0 % v) % v + v else R 0 % v), M, m_up M 159 0 0, fun K q => ?_, fun K q => ?_, hf⟩
  · simp only [T_X11_every, iw_pos c1]
    refine ⟨fun z => absurd z (by decide), fun _ => A _ ⟨fun z => absurd z c2, fun _ => ⟨fun _ => ?_, fun z => absurd (show (0 : Int32) < nI v from nI_lt (a := 0) hv0 (by omega)) z⟩⟩⟩
    have q : ∀ t, d + 1 + t = (if R 0 % v ≤ d then d - (d - R 0 % v) % v + v else R 0 % v) → K (nI d + 1 + nI t) M := fun t ht => by
      rw [nI_1, nI_add, ht]; exact q
    rw [(hR 0 (by omega)).2]
    by_cases hcmp : d + 1 ≤ R 0
    · have e : nI (R 0) - nI d - 1 = nI (R 0 - d - 1) := by
        rw [pk_sub (by omega), show (1 : Int32) = nI 1 from rfl, pk_sub (by omega)]
      rw [e]
      refine floor_pos (by omega) hv0 (by omega) (q _ ?_)
      split
      · exact ev_n1 hv0 hcmp (by assumption)
      · exact ev_n2 hv0 hcmp (by omega)
    · have e : nI (R 0) - nI d - 1 = -(nI (d + 1 - R 0)) := by
        rw [Int32.sub_sub, nI_1, ← pk_sub (show R 0 ≤ d + 1 by omega), Int32.neg_sub]
      rw [e]
      refine floor_neg (by omega) (by omega) hv0 (by omega) (q _ ?_)
      rw [if_pos (show R 0 % v ≤ d by omega)]
      exact ev_n3 hv0 (by omega) (by omega)
  · simp only [T_X12_every, ii_pos c1, forall_eq]
    refine ⟨fun z => absurd z (by decide), fun _ => B _ ⟨fun z => absurd z c2, fun _ => ⟨fun z => absurd z (nI_ne0 hv0 (by omega)), fun _ => ⟨nI_ne0 hv0 (by omega), ?_⟩⟩⟩⟩
    rw [(hR2 0 (by omega)).2, pk_rem (by omega) hv0 (by omega)]
    refine pk_le (R 0 % v) d (fun h1 => ⟨nI_ne0 hv0 (by omega), ?_⟩) (fun h1 => ?_)
    · have hm2 := Nat.mod_le (d - R 0 % v) v
      rw [pk_sub h1, pk_rem (by omega) hv0 (by omega), pk_sub (by omega), nI_add]
      rw [if_pos h1] at q
      exact q
    · rw [if_neg (by omega)] at q
      exact q
/-- the purses of a side_v less_v the others', of the first i -/
def gpa (P : Nat → Int32) (s : Nat) : Nat → Int32
  | 0 => 0
  | i + 1 => gpa P s i + (if s / 2 ^ i % 2 = 1 then P i else -(P i))
def gab (x : Int32) : Int32 := if 0 ≤ x then x else -x
theorem gap_lp {P : Nat → Int32} {n s : Nat} {M : Mm} {K : Int32 → Mm → Prop} (hn : n ≤ 8) (hs : s < 2 ^ 31) (hP : ∀ i, i < 8 → M 12 i = P i) (hK : K (gab (gpa P s n)) M) : ∀ f i, i ≤ n → n - i < f → T_X8_gap_6 12 f (nI n) (nI s) (gpa P s i) (nI i) M K := by
  intro f
  induction f with
  | zero => intro i _ h; exact absurd h (Nat.not_lt_zero _)
  | succ f ih =>
    intro i hi hf
    have e8 : ln 12 = 8 := by decide
    rw [T_X8_gap_6, e8, nI_clamp (by omega), bit_c hs (by omega)]
    refine pk_le n i (fun h => ?_) (fun h => pk_le 8 i (fun h2 => absurd h2 (by omega)) (fun h2 => ?_))
    · have e : i = n := by omega
      subst e
      rw [T_X8_gap_52, Int32.zero_sub]
      exact hK
    · have hb := mod2c (s / 2 ^ i)
      have := ih (i + 1) (by omega) (by omega)
      rw [gpa] at this
      refine pk_eq (s / 2 ^ i % 2) 1 (fun h3 => ⟨vp_in_nI (by omega) (by decide), ?_⟩) (fun h3 => ⟨vp_in_nI (by omega) (by decide), ?_⟩)
      · rw [T_X8_gap_43, hP i (by omega)]
        intro y1 h1 y2 h2
        rw [if_pos h3] at this
        rw [h1, h2, nI_1]
        exact this
      · rw [T_X8_gap_43, hP i (by omega)]
        intro y1 h1 y2 h2
        rw [if_neg h3] at this
        rw [h1, h2, nI_1]
        exact this
theorem apart_lp {P : Nat → Int32} {n s : Nat} {M : Mm} {K : Int32 → Mm → Prop} (hn : n ≤ 8) (en : M 159 7 = nI n) (hs : s < 2 ^ 31) (hP : ∀ i, i < 8 → M 160 (55 + i) = P i) (hK : K (gab (gpa P s n)) M) : ∀ f i, i ≤ n → n - i < f → T_X12_apartBy_4 f (nI s) (gpa P s i) (nI i) M K := by
  intro f
  induction f with
  | zero => intro i _ h; exact absurd h (Nat.not_lt_zero _)
  | succ f ih =>
    intro i hi hf
    have e55 : (55 : Int32) + nI i = nI (55 + i) := nI_add 55 i
    rw [T_X12_apartBy_4, en]
    refine pk_le n i (fun h => ?_) (fun h => ?_)
    · have e : i = n := by omega
      subst e
      unfold gab at hK
      refine ⟨fun h0 => ?_, fun h0 => ?_⟩
      · rw [if_pos h0] at hK; exact hK
      · rw [if_neg h0] at hK; exact hK
    · have hb := mod2c (s / 2 ^ i)
      have := ih (i + 1) (by omega) (by omega)
      rw [gpa] at this
      rw [T_X12_has, bit_c hs (by omega), e55, nI_clamp (by omega)]
      refine pk_eq (s / 2 ^ i % 2) 1 (fun h3 => ?_) (fun h3 => ?_)
      · refine ⟨fun z => absurd z (by decide), fun _ => ⟨vp_in_nI (by omega) (by decide), ?_⟩⟩
        rw [T_X12_apartBy_44, hP i (by omega)]
        intro y1 h1 y2 h2
        rw [if_pos h3] at this
        rw [h1, h2, nI_1]
        exact this
      · refine ⟨fun _ => ⟨vp_in_nI (by omega) (by decide), ?_⟩, fun z => absurd rfl z⟩
        rw [T_X12_apartBy_44, hP i (by omega)]
        intro y1 h1 y2 h2
        rw [if_neg h3] at this
        rw [h1, h2, nI_1]
        exact this
/-- the best_v side_v of the first k odd_v sets behind_v 1 -/
def nsd (P : Nat → Int32) (n : Nat) : Nat → Nat
  | 0 => 1
  | k + 1 => if gab (gpa P (nsd P n k) n) ≤ gab (gpa P (3 + 2 * k) n) then nsd P n k else 3 + 2 * k
theorem nsd_le {P : Nat → Int32} {n : Nat} : ∀ k, nsd P n k ≤ 3 + 2 * k
  | 0 => by rw [nsd]; omega
  | k + 1 => by
    rw [nsd]
    have := nsd_le (P := P) (n := n) k
    split <;> omega
theorem pw_n : ∀ n, n < 9 → 2 ≤ n → 4 ≤ 2 ^ n ∧ 2 ^ n % 2 = 0 ∧ 2 ^ n ≤ 256 := by decide
theorem near_lp {P : Nat → Int32} {n : Nat} {M : Mm} {K : Int32 → Mm → Prop} (hn : n ≤ 8) (hn2 : 2 ≤ n) (hP : ∀ i, i < 8 → M 12 i = P i) (hK : K (nI (nsd P n ((2 ^ n - 4) / 2))) M) : ∀ f k, k ≤ (2 ^ n - 4) / 2 → (2 ^ n - 4) / 2 - k < f → T_X8_nearestSide_13 12 f (nI n) (nI (nsd P n k)) (nI (3 + 2 * k)) M K := by
  obtain ⟨p1, p2, p3⟩ := pw_n n (by omega) hn2
  intro f
  induction f with
  | zero => intro i _ h; exact absurd h (Nat.not_lt_zero _)
  | succ f ih =>
    intro k hk hf
    have hl := nsd_le (P := P) (n := n) k
    have e1 : ((1 : Int32) <<< (nI n &&& 31)) - 1 = nI (2 ^ n - 1) := by
      rw [shl_c (by omega), show (1 : Int32) = nI 1 from rfl, pk_sub (by omega)]
    rw [T_X8_nearestSide_13, e1]
    refine pk_le (2 ^ n - 1) (3 + 2 * k) (fun h => ?_) (fun h => ?_)
    · have e : k = (2 ^ n - 4) / 2 := by omega
      rw [e]; exact hK
    · have := ih (k + 1) (by omega) (by omega)
      rw [nsd] at this
      rw [T_X8_gap]
      refine gap_lp (P := P) (s := 3 + 2 * k) hn (by omega) hP ?_ 5000 0 (by omega) (by omega)
      rw [T_X8_gap]
      refine gap_lp (P := P) (s := nsd P n k) hn (by omega) hP ?_ 5000 0 (by omega) (by omega)
      have e2 : nI (3 + 2 * k) + 2 = nI (3 + 2 * (k + 1)) := nI_add _ 2
      refine ⟨fun h3 => ?_, fun h3 => ?_⟩
      · rw [if_pos h3] at this
        rw [T_X8_nearestSide_46, e2]
        intro y1 h1
        rw [h1]; exact this
      · rw [if_neg h3] at this
        rw [T_X8_nearestSide_46, e2]
        intro y1 h1
        rw [h1]; exact this
theorem halves_lp {P : Nat → Int32} {n : Nat} {x : Int32} {M : Mm} {K : Int32 → Mm → Prop} (hn : n ≤ 8) (hn2 : 2 ≤ n) (en : M 159 7 = nI n) (hP : ∀ i, i < 8 → M 160 (55 + i) = P i) (hK : K (if x = 0 then gab (gpa P (nsd P n ((2 ^ n - 4) / 2)) n) else nI (nsd P n ((2 ^ n - 4) / 2))) M) : ∀ f k, k ≤ (2 ^ n - 4) / 2 → (2 ^ n - 4) / 2 - k < f → T_X12_halves_29 f x (nI (nsd P n k)) (nI (3 + 2 * k)) M K := by
  obtain ⟨p1, p2, p3⟩ := pw_n n (by omega) hn2
  intro f
  induction f with
  | zero => intro i _ h; exact absurd h (Nat.not_lt_zero _)
  | succ f ih =>
    intro k hk hf
    have hl := nsd_le (P := P) (n := n) k
    have e1 : ((1 : Int32) <<< (nI n &&& 31)) - 1 = nI (2 ^ n - 1) := by
      rw [shl_c (by omega), show (1 : Int32) = nI 1 from rfl, pk_sub (by omega)]
    rw [T_X12_halves_29, en, e1]
    refine pk_le (2 ^ n - 1) (3 + 2 * k) (fun h => ?_) (fun h => ?_)
    · have e : k = (2 ^ n - 4) / 2 := by omega
      subst e
      refine ⟨fun h0 => ?_, fun h0 => ?_⟩
      · rw [if_pos h0] at hK
        rw [T_X12_apartBy]
        exact apart_lp (P := P) (s := nsd P n ((2 ^ n - 4) / 2)) hn en (by omega) hP hK 5000 0 (by omega) (by omega)
      · rw [if_neg h0] at hK
        exact hK
    · have := ih (k + 1) (by omega) (by omega)
      rw [nsd] at this
      rw [T_X12_apartBy]
      refine apart_lp (P := P) (s := 3 + 2 * k) hn en (by omega) hP ?_ 5000 0 (by omega) (by omega)
      rw [T_X12_apartBy]
      refine apart_lp (P := P) (s := nsd P n k) hn en (by omega) hP ?_ 5000 0 (by omega) (by omega)
      have e2 : nI (3 + 2 * k) + 2 = nI (3 + 2 * (k + 1)) := nI_add _ 2
      refine ⟨fun h3 => ?_, fun h3 => ?_⟩
      · rw [if_pos h3] at this
        rw [T_X12_halves_56, e2]
        intro y1 h1
        rw [h1]; exact this
      · rw [if_neg h3] at this
        rw [T_X12_halves_56, e2]
        intro y1 h1
        rw [h1]; exact this
set_option maxHeartbeats 1000000 in
theorem ag_halves {N : Nat} {M : Mm} (h : Inv N M) (x : Int32) : Ag (T_X11_halves x) (T_X12_halves x) N M := by
  have hf := h.t0 (x := 0)
  obtain ⟨np, nb, ⟨hC, ⟨hQ, hW⟩, -⟩, -, -⟩ := id h
  have en : M 2 1 = nI nb := hC.1.2.2.2.1
  have hn : nb ≤ 8 := hC.1.2.2.2.2.2
  have en3 : m_up M 159 0 0 159 7 = nI nb := by rw [mu, if_neg (by omega)]; exact hC.1.2.1.trans en
  by_cases c1 : (0 : Int32) ≤ x ∧ x ≤ 1
  rotate_left
  · refine ⟨-1, M, m_up M 159 0 0, fun K q => by simpa [T_X11_halves, iw_neg c1] using q, fun K q => ?_, hf⟩
    simp only [T_X12_halves, ii_neg c1, forall_eq]
    exact ⟨fun _ => q, fun _ => ⟨fun _ => q, fun z => absurd trivial z⟩⟩
  by_cases c2 : 2 ≤ nb
  rotate_left
  · refine ⟨-1, M, m_up M 159 0 0, fun K q => ?_, fun K q => ?_, hf⟩
    · simp only [T_X11_halves, iw_pos c1, en]
      exact ⟨fun z => absurd z (by decide), fun _ => pk_le 2 nb (fun z => absurd z c2) (fun _ => q)⟩
    · simp only [T_X12_halves, forall_eq, en3]
      exact pk_lt nb 2 (fun _ => q) (fun z => absurd z c2)
  obtain ⟨P, eP⟩ : ∃ P : Nat → Int32, P = M 12 := ⟨_, rfl⟩
  have hP : ∀ i, i < 8 → M 12 i = P i := fun i _ => by rw [eP]
  have hP2 : ∀ i, i < 8 → m_up M 159 0 0 160 (55 + i) = P i := fun i hi => by
    rw [mu, if_neg (by omega), eP]
    exact (hQ.2.2.1 i hi).1
  obtain ⟨p1, p2, p3⟩ := pw_n nb (by omega) c2
  have hl := nsd_le (P := P) (n := nb) ((2 ^ nb - 4) / 2)
  have A : ∀ K : Int32 → Mm → Prop, K (nI (nsd P nb ((2 ^ nb - 4) / 2))) M → T_X8_nearestSide 12 (nI nb) M K := fun K q => by
    have := near_lp (P := P) (K := K) hn c2 hP q 5000 0 (by omega) (by omega)
    rw [T_X8_nearestSide]
    intro y h1
    rw [h1, if_neg (show ¬ (8 : Int32) < nI nb from nI_nlt (a := 8) hn (by omega))]
    exact this
  refine ⟨if x = 0 then gab (gpa P (nsd P nb ((2 ^ nb - 4) / 2)) nb) else nI (nsd P nb ((2 ^ nb - 4) / 2)), M, m_up M 159 0 0, fun K q => ?_, fun K q => ?_, hf⟩
  · simp only [T_X11_halves, iw_pos c1, en]
    refine ⟨fun z => absurd z (by decide), fun _ => pk_le 2 nb (fun _ => A _ ⟨fun z => ?_, fun z => ?_⟩) (fun z => absurd z (by omega))⟩
    · rw [if_neg (by rw [z]; decide)] at q
      exact q
    · have x0 : x = 0 := by
        obtain ⟨k, -, hk, rfl⟩ := rng (a := 0) (b := 1) (by decide) (by decide) c1
        rcases (show k = 0 ∨ k = 1 by omega) with rfl | rfl
        · rfl
        · exact absurd rfl z
      rw [if_pos x0] at q
      rw [T_X8_gap, en]
      exact gap_lp (P := P) hn (by omega) hP q 5000 0 (by omega) (by omega)
  · have := halves_lp (P := P) (x := x) (M := m_up M 159 0 0) (K := K) hn c2 en3 hP2 q 5000 0 (by omega) (by omega)
    simp only [T_X12_halves, forall_eq, en3, ii_pos c1]
    exact pk_lt nb 2 (fun z => absurd z (by omega)) (fun _ => ⟨fun z => absurd z (by decide), fun _ => this⟩)
/-- the Nim heap that so many_v knots are like_v -/
def wo (k : Nat) : Nat := if k = 0 then 0 else (k - 1) % 3 + 1
theorem wo_lt (k : Nat) : wo k < 2 ^ 2 := by
  unfold wo
  split <;> omega
theorem worth_ok {k : Nat} {M : Mm} {K : Int32 → Mm → Prop} (hk : k ≤ 9) (hK : K (nI (wo k)) M) : T_X8_worth (nI k) M K := by
  unfold wo at hK
  rw [T_X8_worth]
  refine pk_lt 0 k (fun h => ?_) (fun h => ?_)
  · rw [if_neg (by omega)] at hK
    rw [show (1 : Int32) = nI 1 from rfl, pk_sub (by omega), show (3 : Int32) = nI 3 from rfl, pk_rem (by omega) (by omega) (by omega), nI_add]
    exact hK
  · rw [if_pos (by omega)] at hK
    exact hK
/-- all_v that is not sold, together -/
def wal (S : Nat → Bool) (kn : Nat → Nat) : Nat → Nat
  | 0 => 0
  | i + 1 => if S i = true then wal S kn i ^^^ wo (kn i) else wal S kn i
theorem wal_lt {S : Nat → Bool} {kn : Nat → Nat} : ∀ i, wal S kn i < 2 ^ 2
  | 0 => by rw [wal]; decide
  | i + 1 => by
    rw [wal]
    split
    · exact Nat.xor_lt_two_pow (wal_lt i) (wo_lt _)
    · exact wal_lt i
/-- the fewest knots that leave_v the other_v one_v losing, or 0 -/
def wkn (rest kn : Nat) : Nat → Nat
  | 0 => 0
  | m + 1 => if (kn - m ≤ 2 ∨ kn - m = kn) ∧ rest = wo m then kn - m else wkn rest kn m
theorem wkn_le (rest kn : Nat) : ∀ m, m ≤ kn → wkn rest kn m ≤ kn
  | 0, _ => by rw [wkn]; omega
  | m + 1, h => by
    rw [wkn]
    split
    · omega
    · exact wkn_le rest kn m (by omega)
/-- the first parcel that wins -/
def wpp (S : Nat → Bool) (kn : Nat → Nat) (A np : Nat) : Nat → Option Nat
  | 0 => none
  | m + 1 => if S (np - (m + 1)) = true ∧ ¬ wkn (A ^^^ wo (kn (np - (m + 1)))) (kn (np - (m + 1))) (kn (np - (m + 1))) = 0 then some (np - (m + 1)) else wpp S kn A np m
def wre (w : Nat) : Int32 := if w = 0 then -1 else nI w
theorem wknC_lp {rest kn : Nat} {M : Mm} {K : Int32 → Mm → Prop} (hr : rest < 2 ^ 2) (hk : kn ≤ 9) : ∀ f m, m ≤ kn → m < f → K (wre (wkn rest kn m)) M → T_X8_winningKnots_36 2 8 f (nI kn) (nI rest) (nI (kn + 1 - m)) M K := by
  intro f
  induction f with
  | zero => intro m _ h; exact absurd h (Nat.not_lt_zero _)
  | succ f ih =>
    intro m hm hf hK
    rw [T_X8_winningKnots_36]
    refine pk_lt kn (kn + 1 - m) (fun h => ?_) (fun h => ?_)
    · have e : m = 0 := by omega
      subst e
      exact hK
    · obtain ⟨j, rfl⟩ : ∃ j, m = j + 1 := ⟨m - 1, by omega⟩
      have e1 : kn + 1 - (j + 1) = kn - j := by omega
      rw [e1]
      rw [wkn] at hK
      have G : (¬ ((kn - j ≤ 2 ∨ kn - j = kn) ∧ rest = wo j)) → T_X8_winningKnots_73 (fun x4 x5 x6 M => T_X8_winningKnots_36 2 8 f x4 x5 x6 M K) 2 8 (nI kn) (nI rest) (nI (kn - j)) M K := fun hn => by
        rw [if_neg hn] at hK
        rw [T_X8_winningKnots_73]
        intro y1 h1
        have := ih j (by omega) (by omega) hK
        rw [h1, nI_1, show kn - j + 1 = kn + 1 - j by omega]
        exact this
      have H : (kn - j ≤ 2 ∨ kn - j = kn) → T_X8_winningKnots_56 (fun x4 x5 x6 M => T_X8_winningKnots_36 2 8 f x4 x5 x6 M K) 2 8 (nI kn) (nI rest) (nI (kn - j)) M K := fun hc => by
        rw [T_X8_winningKnots_56, pk_sub (by omega), show kn - (kn - j) = j by omega]
        refine worth_ok (by omega) ?_
        have := wo_lt j
        refine pk_eq rest (wo j) (fun h3 => ?_) (fun h3 => G (fun q => h3 q.2))
        rw [if_pos ⟨hc, h3⟩, wre, if_neg (by omega)] at hK
        exact hK
      refine pk_le (kn - j) 2 (fun h2 => H (Or.inl h2)) (fun h2 => pk_eq (kn - j) kn (fun h3 => H (Or.inr h3)) (fun h3 => G (fun q => by omega)))
theorem walC_lp {S : Nat → Bool} {kn : Nat → Nat} {np : Nat} {M : Mm} {K : Int32 → Mm → Prop} (hn : np ≤ 16) (en : M 2 0 = nI np) (hS : ∀ i, i < 16 → (M 9 i = -1 ↔ S i = true)) (hk : ∀ i, i < 16 → M 5 i = nI (kn i) ∧ kn i ≤ 9) (hK : K (nI (wal S kn np)) M) : ∀ f i, i ≤ np → np - i < f → T_X8_worthOfAll_5 2 8 f (nI (wal S kn i)) (nI i) M K := by
  intro f
  induction f with
  | zero => intro i _ h; exact absurd h (Nat.not_lt_zero _)
  | succ f ih =>
    intro i hi hf
    have e9 : rf 8 0 = 9 := by decide
    have e5 : rf 2 4 = 5 := by decide
    rw [T_X8_worthOfAll_5, en, e9, e5, nI_clamp (by omega)]
    refine pk_le np i (fun h => ?_) (fun h => pk_le 16 i (fun h2 => absurd h2 (by omega)) (fun h2 => ⟨vp_in_nI (by omega) (by decide), fun h3 => ?_, fun h3 => ?_⟩))
    · have e : i = np := by omega
      rw [e]; exact hK
    · have := ih (i + 1) (by omega) (by omega)
      rw [wal, if_pos ((hS i (by omega)).mp h3)] at this
      refine ⟨vp_in_nI (by omega) (by decide), ?_⟩
      rw [(hk i (by omega)).1]
      refine worth_ok (hk i (by omega)).2 ?_
      intro y h4
      rw [T_X8_worthOfAll_46]
      intro y1 h1
      rw [h1, h4, nI_1, nx_xor]
      exact this
    · have := ih (i + 1) (by omega) (by omega)
      rw [wal, if_neg (fun q => h3 ((hS i (by omega)).mpr q))] at this
      rw [T_X8_worthOfAll_46]
      intro y1 h1
      rw [h1, nI_1]
      exact this
theorem wknC_ok {S : Nat → Bool} {kn : Nat → Nat} {np p : Nat} {M : Mm} {K : Int32 → Mm → Prop} (hn : np ≤ 16) (en : M 2 0 = nI np) (hS : ∀ i, i < 16 → (M 9 i = -1 ↔ S i = true)) (hk : ∀ i, i < 16 → M 5 i = nI (kn i) ∧ kn i ≤ 9) (hp : p < np) (hK : K (wre (wkn (wal S kn np ^^^ wo (kn p)) (kn p) (kn p))) M) : T_X8_winningKnots 2 8 (nI p) M K := by
  have e5 : rf 2 4 = 5 := by decide
  rw [T_X8_winningKnots, hp_pos rfl hp hn en, e5, nI_clamp (by omega), (hk p (by omega)).1]
  refine ⟨fun z => absurd z (by decide), fun _ => ⟨vp_in_nI (by omega) (by decide), fun y h14 => ?_⟩⟩
  rw [T_X8_worthOfAll]
  refine walC_lp hn en hS hk ?_ 5000 0 (by omega) (by omega)
  rw [h14]
  refine worth_ok (hk p (by omega)).2 ?_
  intro y2 h2
  rw [h2, nx_xor]
  have := wknC_lp (rest := wal S kn np ^^^ wo (kn p)) (kn := kn p) (M := M) (K := K) (Nat.xor_lt_two_pow (wal_lt _) (wo_lt _)) (hk p (by omega)).2 5000 (kn p) (Nat.le_refl _) (by have := (hk p (by omega)).2; omega) hK
  rw [show kn p + 1 - kn p = 1 by omega] at this
  exact this
def wro (o : Option Nat) : Int32 := match o with | none => -1 | some p => nI p
theorem wre_m1 {w : Nat} (h : w ≤ 9) : wre w = -1 ↔ w = 0 := by
  unfold wre
  split
  · simp [*]
  · refine ⟨fun q => ?_, fun q => absurd q (by assumption)⟩
    have := congrArg Int32.toInt q
    rw [nI_toInt (by omega), show (-1 : Int32).toInt = -1 from by decide] at this
    omega
theorem wppC_lp {S : Nat → Bool} {kn : Nat → Nat} {np : Nat} {M : Mm} {K : Int32 → Mm → Prop} (hn : np ≤ 16) (en : M 2 0 = nI np) (hS : ∀ i, i < 16 → (M 9 i = -1 ↔ S i = true)) (hk : ∀ i, i < 16 → M 5 i = nI (kn i) ∧ kn i ≤ 9) : ∀ f m, m ≤ np → m < f → K (wro (wpp S kn (wal S kn np) np m)) M → T_X8_winningParcel_2 2 8 f (nI (np - m)) M K := by
  intro f
  induction f with
  | zero => intro i _ h; exact absurd h (Nat.not_lt_zero _)
  | succ f ih =>
    intro m hm hf hK
    have e9 : rf 8 0 = 9 := by decide
    rw [T_X8_winningParcel_2, en, e9, nI_clamp (by omega)]
    refine pk_le np (np - m) (fun h => ?_) (fun h => pk_le 16 (np - m) (fun h2 => absurd h2 (by omega)) (fun h2 => ⟨vp_in_nI (by omega) (by decide), ?_⟩))
    · have e : m = 0 := by omega
      subst e
      exact hK
    · obtain ⟨j, rfl⟩ : ∃ j, m = j + 1 := ⟨m - 1, by omega⟩
      rw [wpp] at hK
      have hw := wkn_le (wal S kn np ^^^ wo (kn (np - (j + 1)))) (kn (np - (j + 1))) (kn (np - (j + 1))) (Nat.le_refl _)
      have hk9 := (hk (np - (j + 1)) (by omega)).2
      have G : ¬ (S (np - (j + 1)) = true ∧ ¬ wkn (wal S kn np ^^^ wo (kn (np - (j + 1)))) (kn (np - (j + 1))) (kn (np - (j + 1))) = 0) → T_X8_winningParcel_39 (fun x3 M => T_X8_winningParcel_2 2 8 f x3 M K) 2 8 (nI (np - (j + 1))) M K := fun hn => by
        rw [if_neg hn] at hK
        rw [T_X8_winningParcel_39]
        intro y1 h1
        rw [h1, nI_1, show np - (j + 1) + 1 = np - j by omega]
        exact ih j (by omega) (by omega) hK
      refine ⟨fun h3 => ?_, fun h3 => G (fun q => h3 ((hS _ (by omega)).mpr q.1))⟩
      refine wknC_ok hn en hS hk (by omega) ⟨fun h4 => G (fun q => q.2 ((wre_m1 (by omega)).mp h4)), fun h4 => ?_⟩
      rw [if_pos ⟨(hS _ (by omega)).mp h3, fun q => h4 ((wre_m1 (by omega)).mpr q)⟩] at hK
      exact hK
theorem nim48_lp {B : Int32 → Mm → Prop} {n s w : Nat} {M : Mm} {K : Mm → Prop} (hn : n < 10) (hs : s < 2 ^ 31) (hw : w < 16) (h1 : ∀ v, v < w → s / 2 ^ v % 2 = 1) (h0 : s / 2 ^ w % 2 = 0) (hB : B (nI (n + 1)) (m_up M 198 n (nI w))) : ∀ f v, v ≤ w → w - v < f → T_X12_findsNimbers_48 B f (nI n) (nI s) (nI v) M K := by
  intro f
  induction f with
  | zero => intro i _ h; exact absurd h (Nat.not_lt_zero _)
  | succ f ih =>
    intro v hv hf
    rw [T_X12_findsNimbers_48, T_X12_has, bit_c hs (by omega), nI_clamp (by omega)]
    refine pk_eq (s / 2 ^ v % 2) 1 (fun h => ⟨fun z => absurd z (by decide), fun _ => ?_⟩) (fun h => ⟨fun _ => ⟨vp_in_nI hn (by decide), ?_⟩, fun z => absurd rfl z⟩)
    · intro y h8
      have hlt : v < w := by
        refine Nat.lt_of_le_of_ne hv (fun e => ?_)
        rw [e] at h
        omega
      rw [h8, nI_1]
      exact ih (v + 1) (by omega) (by omega)
    · have e : v = w := by
        refine Nat.le_antisymm hv (Nat.not_lt.mp fun z => h (h1 v z))
      subst e
      intro M5 h5 y7 h7
      rw [h5, h7, nI_1]
      exact hB
/-- the set_v of those that can_v be left -/
def nst (n : Nat) : Nat := if n ≤ 1 then 1 ||| 2 ^ wo (n - 1) else 1 ||| 2 ^ wo (n - 1) ||| 2 ^ wo (n - 2)
theorem nst_ok : ∀ n, n < 10 → 1 ≤ n → nst n < 2 ^ 31 ∧ (∀ v, v < wo n → nst n / 2 ^ v % 2 = 1) ∧ nst n / 2 ^ wo n % 2 = 0 := by decide
theorem nim_lp : ∀ f n M, 1 ≤ n → n ≤ 10 → 10 - n < f → (∀ j, j < n → M 198 j = nI (wo j)) → ∃ M' : Mm, (∀ j, j < 10 → M' 198 j = nI (wo j)) ∧ (∀ a, a ≠ 198 → M' a = M a) ∧ ∀ K : Mm → Prop, K M' → T_X12_findsNimbers_9 f (nI n) M K := by
  intro f
  induction f with
  | zero => intro n M _ _ h; exact absurd h (Nat.not_lt_zero _)
  | succ f ih =>
    intro n M h1 hn hf hM
    by_cases e : n = 10
    · subst e
      refine ⟨M, hM, fun _ _ => rfl, fun K q => ?_⟩
      rw [T_X12_findsNimbers_9]
      exact pk_le 10 10 (fun _ => q) (fun z => absurd z (by omega))
    · obtain ⟨s1, s2, s3⟩ := nst_ok n (by omega) h1
      have hwn := wo_lt n
      have hw1 := wo_lt (n - 1)
      have hw2 := wo_lt (n - 2)
      obtain ⟨M', a1, a2, a3⟩ := ih (n + 1) (m_up M 198 n (nI (wo n))) (by omega) (by omega) (by omega) (fun j hj => by
        rw [mu]
        by_cases e2 : j = n
        · rw [if_pos ⟨rfl, e2⟩, e2]
        · rw [if_neg (fun q => e2 q.2)]; exact hM j (by omega))
      refine ⟨M', a1, fun a ha => (a2 a ha).trans (m_up_ne ha), fun K q => ?_⟩
      have q2 := a3 K q
      have e1 : nI n - 1 = nI (n - 1) := pk_sub (b := 1) h1
      rw [T_X12_findsNimbers_9, e1, nI_clamp (by omega), hM (n - 1) (by omega), shl_c (by omega)]
      refine pk_le 10 n (fun z => absurd z (by omega)) (fun _ => ⟨vp_in_nI (by omega) (by decide), fun y11 h11 => pk_le n 1 (fun h4 => ?_) (fun h4 => ?_)⟩)
      · rw [T_X12_findsNimbers_46, h11]
        have := nim48_lp (B := fun x1 M => T_X12_findsNimbers_9 f x1 M K) (M := M) (K := K) (n := n) (s := nst n) (w := wo n) (by omega) s1 (by omega) s2 s3 q2 5000 0 (by omega) (by omega)
        unfold nst at this
        rw [if_pos h4, ← nx_or] at this
        exact this
      · have e2 : nI n - 2 = nI (n - 2) := pk_sub (b := 2) (by omega)
        rw [e2, nI_clamp (by omega), hM (n - 2) (by omega), shl_c (by omega)]
        refine ⟨vp_in_nI (by omega) (by decide), fun y14 h14 => ?_⟩
        rw [T_X12_findsNimbers_46, h14, h11]
        have := nim48_lp (B := fun x1 M => T_X12_findsNimbers_9 f x1 M K) (M := M) (K := K) (n := n) (s := nst n) (w := wo n) (by omega) s1 (by omega) s2 s3 q2 5000 0 (by omega) (by omega)
        unfold nst at this
        rw [if_neg (by omega), ← nx_or, ← nx_or] at this
        exact this
theorem heap_ok {S : Nat → Bool} {kn : Nat → Nat} {p : Nat} {M : Mm} {K : Int32 → Mm → Prop} (hp : p < 16) (hS : ∀ i, i < 16 → (M 160 (7 + i) ≤ 0 ↔ S i = true)) (hk : ∀ i, i < 16 → M 165 i = nI (kn i) ∧ kn i ≤ 9) (hK : K (nI (if S p = true then kn p else 0)) M) : T_X12_heapOf (nI p) M K := by
  have e7 : (7 : Int32) + nI p = nI (7 + p) := nI_add 7 p
  rw [T_X12_heapOf, e7, nI_clamp (by omega), nI_clamp (by omega), (hk p hp).1]
  refine ⟨vp_in_nI (by omega) (by decide), fun h => ⟨vp_in_nI (by omega) (by decide), ?_⟩, fun h => ?_⟩
  · rw [if_pos ((hS p hp).mp h)] at hK; exact hK
  · rw [if_neg (fun q => h ((hS p hp).mpr q))] at hK; exact hK
theorem g83_lp {B : Int32 → Int32 → Int32 → Mm → Prop} {x1 x2 : Int32} {p kn due : Nat} {M : Mm} {K : Int32 → Mm → Prop} (hk : kn ≤ 9) (hd : due < 2 ^ 2) (hM : ∀ j, j < 10 → M 198 j = nI (wo j)) : ∀ f m, m ≤ kn → m < f → (¬ wkn due kn m = 0 → K (if x1 = 0 then nI p else nI (wkn due kn m)) M) → (wkn due kn m = 0 → B x1 x2 (nI (p + 1)) M) → T_X12_game_83 B f x1 x2 (nI p) (nI kn) (nI due) (nI (kn + 1 - m)) M K := by
  intro f
  induction f with
  | zero => intro i _ h; exact absurd h (Nat.not_lt_zero _)
  | succ f ih =>
    intro m hm hf hK hB
    rw [T_X12_game_83]
    refine pk_lt kn (kn + 1 - m) (fun h => ?_) (fun h => ?_)
    · have e : m = 0 := by omega
      subst e
      intro y h1
      rw [h1, nI_1]
      exact hB rfl
    · obtain ⟨j, rfl⟩ : ∃ j, m = j + 1 := ⟨m - 1, by omega⟩
      have e1 : kn + 1 - (j + 1) = kn - j := by omega
      rw [e1]
      rw [wkn] at hK hB
      have G : (¬ ((kn - j ≤ 2 ∨ kn - j = kn) ∧ due = wo j)) → T_X12_game_129 B (fun x1 x2 x3 x4 x5 x6 M => T_X12_game_83 B f x1 x2 x3 x4 x5 x6 M K) x1 x2 (nI p) (nI kn) (nI due) (nI (kn - j)) M K := fun hn => by
        rw [if_neg hn] at hK hB
        rw [T_X12_game_129]
        intro y1 h1
        have := ih j (by omega) (by omega) hK hB
        rw [h1, nI_1, show kn - j + 1 = kn + 1 - j by omega]
        exact this
      have H : (kn - j ≤ 2 ∨ kn - j = kn) → T_X12_game_103 B (fun x1 x2 x3 x4 x5 x6 M => T_X12_game_83 B f x1 x2 x3 x4 x5 x6 M K) x1 x2 (nI p) (nI kn) (nI due) (nI (kn - j)) M K := fun hc => by
        rw [T_X12_game_103, pk_sub (by omega), show kn - (kn - j) = j by omega, nI_clamp (by omega), hM j (by omega)]
        have := wo_lt j
        refine ⟨vp_in_nI (by omega) (by decide), pk_eq (wo j) due (fun h3 => ?_) (fun h3 => G (fun q => h3 q.2.symm))⟩
        rw [if_pos ⟨hc, h3.symm⟩] at hK
        have hK := hK (by omega)
        refine ⟨fun h5 => ?_, fun h5 => ?_⟩
        · rw [if_pos h5] at hK; exact hK
        · rw [if_neg h5] at hK; exact hK
      refine pk_lt (kn - j) 3 (fun h2 => H (Or.inl (by omega))) (fun h2 => pk_eq (kn - j) kn (fun h3 => H (Or.inr h3)) (fun h3 => G (fun q => by omega)))
def wrg (x : Int32) (S : Nat → Bool) (kn : Nat → Nat) (np : Nat) (o : Option Nat) : Int32 := match o with | none => -1 | some p => if x = 0 then nI p else nI (wkn (wal S kn np ^^^ wo (kn p)) (kn p) (kn p))
theorem g54_lp {S : Nat → Bool} {kn : Nat → Nat} {np : Nat} {x : Int32} {M : Mm} {K : Int32 → Mm → Prop} (hn : np ≤ 16) (en : M 159 6 = nI np) (hS : ∀ i, i < 16 → (M 160 (7 + i) ≤ 0 ↔ S i = true)) (hk : ∀ i, i < 16 → M 165 i = nI (kn i) ∧ kn i ≤ 9) (hM : ∀ j, j < 10 → M 198 j = nI (wo j)) : ∀ f m, m ≤ np → m < f → K (wrg x S kn np (wpp S kn (wal S kn np) np m)) M → T_X12_game_54 f x (nI (wal S kn np)) (nI (np - m)) M K := by
  intro f
  induction f with
  | zero => intro i _ h; exact absurd h (Nat.not_lt_zero _)
  | succ f ih =>
    intro m hm hf hK
    rw [T_X12_game_54, en]
    refine pk_le np (np - m) (fun h => ?_) (fun h => ?_)
    · have e : m = 0 := by omega
      subst e
      exact hK
    · obtain ⟨j, rfl⟩ : ∃ j, m = j + 1 := ⟨m - 1, by omega⟩
      rw [wpp] at hK
      refine heap_ok (by omega) hS hk ?_
      have hk9 := (hk (np - (j + 1)) (by omega)).2
      have hwl := wal_lt (S := S) (kn := kn) np
      by_cases hs : S (np - (j + 1)) = true
      · rw [if_pos hs, nI_clamp (by omega), hM _ (by omega)]
        refine ⟨vp_in_nI (by omega) (by decide), fun y h14 => ?_⟩
        rw [h14, nx_xor]
        have := g83_lp (B := fun x1 x2 x3 M => T_X12_game_54 f x1 x2 x3 M K) (x1 := x) (x2 := nI (wal S kn np)) (p := np - (j + 1)) (kn := kn (np - (j + 1))) (due := wal S kn np ^^^ wo (kn (np - (j + 1)))) (M := M) (K := K) hk9 (Nat.xor_lt_two_pow hwl (wo_lt _)) hM 5000 (kn (np - (j + 1))) (Nat.le_refl _) (by omega) (fun hw => by
          rw [if_pos ⟨hs, hw⟩] at hK
          exact hK) (fun hw => by
          rw [if_neg (fun q => q.2 hw)] at hK
          rw [show np - (j + 1) + 1 = np - j by omega]
          exact ih j (by omega) (by omega) hK)
        rw [show kn (np - (j + 1)) + 1 - kn (np - (j + 1)) = 1 by omega] at this
        exact this
      · rw [if_neg hs, nI_clamp (by omega), hM _ (by omega)]
        refine ⟨vp_in_nI (by omega) (by decide), fun y h14 => ?_⟩
        rw [h14, nx_xor]
        rw [if_neg (fun q => hs q.1)] at hK
        exact g83_lp (B := fun x1 x2 x3 M => T_X12_game_54 f x1 x2 x3 M K) (x1 := x) (x2 := nI (wal S kn np)) (p := np - (j + 1)) (kn := 0) (due := wal S kn np ^^^ wo 0) (M := M) (K := K) (by omega) (Nat.xor_lt_two_pow hwl (wo_lt _)) hM 5000 0 (Nat.le_refl _) (by omega) (fun hw => absurd rfl hw) (fun _ => by
          rw [show np - (j + 1) + 1 = np - j by omega]
          exact ih j (by omega) (by omega) hK)
theorem g25_lp {S : Nat → Bool} {kn : Nat → Nat} {np : Nat} {x : Int32} {M : Mm} {K : Int32 → Mm → Prop} (hn : np ≤ 16) (en : M 159 6 = nI np) (hS : ∀ i, i < 16 → (M 160 (7 + i) ≤ 0 ↔ S i = true)) (hk : ∀ i, i < 16 → M 165 i = nI (kn i) ∧ kn i ≤ 9) (hM : ∀ j, j < 10 → M 198 j = nI (wo j)) (hK : K (wrg x S kn np (wpp S kn (wal S kn np) np np)) M) : ∀ f i, i ≤ np → np - i < f → T_X12_game_25 f x (nI (wal S kn i)) (nI i) M K := by
  intro f
  induction f with
  | zero => intro i _ h; exact absurd h (Nat.not_lt_zero _)
  | succ f ih =>
    intro i hi hf
    rw [T_X12_game_25, en]
    refine pk_le np i (fun h => ?_) (fun h => ?_)
    · have e : i = np := by omega
      subst e
      have := g54_lp (x := x) (K := K) hn en hS hk hM 5000 i (Nat.le_refl _) (by omega) hK
      rw [Nat.sub_self] at this
      exact this
    · refine heap_ok (by omega) hS hk ?_
      have := ih (i + 1) (by omega) (by omega)
      rw [wal] at this
      have hk9 := (hk i (by omega)).2
      by_cases hs : S i = true
      · rw [if_pos hs] at this ⊢
        rw [nI_clamp (by omega), hM _ (by omega)]
        refine ⟨vp_in_nI (by omega) (by decide), fun y h20 y1 h21 => ?_⟩
        rw [h20, h21, nI_1, nx_xor]
        exact this
      · rw [if_neg hs] at this ⊢
        rw [nI_clamp (by omega), hM _ (by omega)]
        refine ⟨vp_in_nI (by omega) (by decide), fun y h20 y1 h21 => ?_⟩
        rw [h20, h21, nI_1, nx_xor, show wo 0 = 0 from rfl, Nat.xor_zero]
        exact this
theorem sold_le {x : Int32} (h : sm (x + 1) 8) : x + 1 ≤ 0 ↔ x = -1 := by
  obtain ⟨k, hk, e⟩ := h
  rw [← p1_0, e]
  constructor
  · intro q
    have := (nI_leI (a := k) (b := 0) (by omega) (by omega)).mp q
    have : k = 0 := by omega
    rw [this]; rfl
  · intro q
    rw [q]; decide
set_option maxHeartbeats 1000000 in
theorem ag_game {N : Nat} {M : Mm} (h : Inv N M) (x : Int32) : Ag (T_X11_game x) (T_X12_game x) N M := by
  have hf := h.t0 (x := 0)
  obtain ⟨np, nb, ⟨hC, ⟨hQ, hW⟩, -⟩, -, -⟩ := id h
  have en : M 2 0 = nI np := hC.1.2.2.1
  have hn : np ≤ 16 := hC.1.2.2.2.2.1
  by_cases c1 : (0 : Int32) ≤ x ∧ x ≤ 1
  rotate_left
  · exact ⟨-1, M, _, fun K q => by simpa [T_X11_game, iw_neg c1] using q, fun K q => by simpa [T_X12_game, ii_neg c1] using q, hf⟩
  obtain ⟨S, eS⟩ : ∃ S : Nat → Bool, S = fun i => decide (M 9 i = -1) := ⟨_, rfl⟩
  obtain ⟨kn, ek⟩ : ∃ kn : Nat → Nat, kn = fun i => (M 5 i).toNatClampNeg := ⟨_, rfl⟩
  have hS : ∀ i, i < 16 → (M 9 i = -1 ↔ S i = true) := fun i _ => by rw [eS]; simp
  have hk : ∀ i, i < 16 → M 5 i = nI (kn i) ∧ kn i ≤ 9 := fun i hi => by
    rw [ek]
    exact sm_v (hC.2.1 i hi).2.2.2.2 (by omega)
  have A : ∀ K : Int32 → Mm → Prop, K (wro (wpp S kn (wal S kn np) np np)) M → T_X8_winningParcel 2 8 M K := fun K q => by
    have := wppC_lp hn en hS hk 5000 np (Nat.le_refl _) (by omega) q
    rw [Nat.sub_self] at this
    rw [T_X8_winningParcel]
    exact this
  refine ag_rd h (wrg x S kn np (wpp S kn (wal S kn np) np np)) (Rd.same fun K q => ?_) (fun M1 f1 => ?_)
  · simp only [T_X11_game, iw_pos c1]
    refine ⟨fun z => absurd z (by decide), fun _ => A _ ?_⟩
    have B : ∀ m o, m ≤ np → wpp S kn (wal S kn np) np m = some o → o < np ∧ ¬ wkn (wal S kn np ^^^ wo (kn o)) (kn o) (kn o) = 0 := by
      intro m
      induction m with
      | zero => intro o _ z; cases z
      | succ m ih =>
        intro o hm z
        rw [wpp] at z
        split at z
        · rename_i h5
          cases z
          exact ⟨by omega, h5.2⟩
        · exact ih o (by omega) z
    have B := B np
    revert q B
    cases wpp S kn (wal S kn np) np np with
    | none => intro q _; exact ⟨fun _ => q, fun z => absurd rfl z⟩
    | some p =>
      intro q B
      have hp := B p (Nat.le_refl _) rfl
      refine ⟨fun z => ?_, fun _ => ⟨fun z => ?_, fun z => ?_⟩⟩
      · have := congrArg Int32.toInt z
        rw [show wro (some p) = nI p from rfl, nI_toInt (by have := hp.1; omega), show (-1 : Int32).toInt = -1 from by decide] at this
        omega
      · have q : K (if x = 0 then nI p else nI (wkn (wal S kn np ^^^ wo (kn p)) (kn p) (kn p))) M := q
        rw [if_pos z] at q
        exact q
      · have q : K (if x = 0 then nI p else nI (wkn (wal S kn np ^^^ wo (kn p)) (kn p) (kn p))) M := q
        rw [if_neg z] at q
        refine wknC_ok (p := p) hn en hS hk hp.1 ?_
        rw [wre, if_neg hp.2]
        exact q
  · obtain ⟨M', a1, a2, a3⟩ := nim_lp 5000 1 (m_up (m_up M1 159 0 0) 198 0 0) (by omega) (by omega) (by omega) (fun j hj => by
      rw [show j = 0 by omega, mu, if_pos ⟨rfl, rfl⟩]; rfl)
    have fM : fr M1 M' := fun a j hj => by
      by_cases e : a = 198
      · subst e; cases hj
      · rw [a2 a e, mu, if_neg (fun q => e q.1), mu]
        by_cases e2 : a = 159 ∧ j = 0
        · rw [e2.1, e2.2] at hj; cases hj
        · rw [if_neg e2]
    have f2 := f1.tr fM
    have en2 : M' 159 6 = nI np := (f2 159 6 rfl).trans (hC.1.1.trans en)
    have hS2 : ∀ i, i < 16 → (M' 160 (7 + i) ≤ 0 ↔ S i = true) := fun i hi => by
      rw [f2 160 _ rfl, ← hS i hi]
      have e1 : M 160 (7 + i) = M 9 i + 1 := (hQ.2.1 i hi).1
      rw [e1]
      exact sold_le (hW.1.1.1 i hi).1
    have hk2 : ∀ i, i < 16 → M' 165 i = nI (kn i) ∧ kn i ≤ 9 := fun i hi => by
      rw [f2 165 _ rfl]
      exact ⟨((hC.2.1 i hi).2.2.1).trans (hk i hi).1, (hk i hi).2⟩
    refine ⟨M', fM, fun K q => ?_⟩
    simp only [T_X12_game, ii_pos c1, forall_eq, T_X12_findsNimbers]
    refine ⟨fun z => absurd z (by decide), fun _ => a3 _ ?_⟩
    exact g25_lp (x := x) hn en2 hS2 hk2 a1 q 5000 0 (by omega) (by omega)
/-- how many_v bits_v a set_v of at most sixteen has_v -/
def pcn (n : Nat) : Nat := n % 2 + n / 2 % 2 + n / 4 % 2 + n / 8 % 2 + n / 16 % 2 + n / 32 % 2 + n / 64 % 2 + n / 128 % 2 + n / 256 % 2 + n / 512 % 2 + n / 1024 % 2 + n / 2048 % 2 + n / 4096 % 2 + n / 8192 % 2 + n / 16384 % 2 + n / 32768 % 2
def bc1 (x : Int32) : Int32 := x - ((((x).toUInt32 >>> (((1 : Int32)).toUInt32 &&& Int32.toUInt32 31)).toInt32) &&& (1431655765 : Int32))
def bc2 (y : Int32) : Int32 := (y &&& (858993459 : Int32)) + ((((y).toUInt32 >>> (((2 : Int32)).toUInt32 &&& Int32.toUInt32 31)).toInt32) &&& (858993459 : Int32))
def bc3 (y : Int32) : Int32 := (y + (((y).toUInt32 >>> (((4 : Int32)).toUInt32 &&& Int32.toUInt32 31)).toInt32)) &&& (252645135 : Int32)
def bc4 (y : Int32) : Int32 := y + (((y).toUInt32 >>> (((8 : Int32)).toUInt32 &&& Int32.toUInt32 31)).toInt32)
def bc5 (y : Int32) : Int32 := y + (((y).toUInt32 >>> (((16 : Int32)).toUInt32 &&& Int32.toUInt32 31)).toInt32)
def bcf (x : Int32) : Int32 := bc5 (bc4 (bc3 (bc2 (bc1 x)))) &&& (63 : Int32)
theorem bcf_ok : ∀ n, n < 256 → bcf (nI n) = nI (pcn n) := by decide +kernel
theorem bitCount_ok {x : Int32} {M : Mm} {K : Int32 → Mm → Prop} (hK : K (bcf x) M) : T_J6_bitCount_0f7a4 x M K := by
  rw [T_J6_bitCount_0f7a4]
  intro y1 h1 y2 h2 y3 h3 y4 h4 y5 h5
  subst h1 h2 h3 h4 h5
  exact hK
theorem pcn_st : ∀ v, v < 256 → 0 < v → pcn (v &&& (v - 1)) + 1 = pcn v := by decide +kernel
theorem pcn_7 : ∀ v, v < 128 → pcn v ≤ 7 := by decide +kernel
theorem ones_lp {b : Nat} (hb : b ≤ 65536) (hs : ∀ v, v < b → 0 < v → pcn (v &&& (v - 1)) + 1 = pcn v) {r : Nat} {M : Mm} {K : Int32 → Mm → Prop} (hK : K (nI r) M) : ∀ f c v, v < b → pcn v < f → c + pcn v = r → T_X12_onesOf_4 f (nI c) (nI v) M K := by
  intro f
  induction f with
  | zero => intro c v _ h; exact absurd h (Nat.not_lt_zero _)
  | succ f ih =>
    intro c v hv hf hc
    rw [T_X12_onesOf_4]
    refine pk_eq v 0 (fun h => ?_) (fun h => ?_)
    · subst h
      rw [show pcn 0 = 0 from rfl, Nat.add_zero] at hc
      rw [hc]; exact hK
    · have h1 := hs v hv (by omega)
      have h2 : v &&& (v - 1) ≤ v := Nat.and_le_left
      intro y2 e2 y3 e3
      rw [e2, e3, nI_1, show (1 : Int32) = nI 1 from rfl, pk_sub (by omega), nx_and]
      exact ih (c + 1) (v &&& (v - 1)) (by omega) (by omega) (by omega)
theorem ones_ok {v : Nat} {M : Mm} {K : Int32 → Mm → Prop} (hv : v < 256) (hK : K (nI (pcn v)) M) : T_X12_onesOf (nI v) M K := by
  rw [T_X12_onesOf]
  have h : pcn v ≤ 16 := by unfold pcn; omega
  exact ones_lp (b := 256) (by omega) pcn_st hK 5000 0 v hv (by omega) (by omega)
/-- the prices of a set_v together -/
def ppr (P : Nat → Nat) (s : Nat) : Nat → Nat
  | 0 => 0
  | i + 1 => ppr P s i + s / 2 ^ i % 2 * P i
theorem ppr_le {P : Nat → Nat} {s : Nat} (hP : ∀ i, i < 7 → P i ≤ 99) : ∀ i, i ≤ 7 → ppr P s i ≤ 99 * i
  | 0, _ => by rw [ppr]; omega
  | i + 1, hi => by
    rw [ppr]
    have h1 := ppr_le (s := s) hP i (by omega)
    have h2 := hP i (by omega)
    rcases mod2c (s / 2 ^ i) with h | h
    · rw [h]; omega
    · rw [h]; omega
/-- how many_v of a set_v are due by a day -/
def pdu (D : Nat → Nat) (s d : Nat) : Nat → Nat
  | 0 => 0
  | i + 1 => pdu D s d i + (if s / 2 ^ i % 2 = 1 ∧ D i ≤ d then 1 else 0)
theorem pdu_le {D : Nat → Nat} {s d : Nat} : ∀ i, pdu D s d i ≤ i
  | 0 => by rw [pdu]; omega
  | i + 1 => by
    rw [pdu]
    have := pdu_le (D := D) (s := s) (d := d) i
    split <;> omega
/-- in time from day 10 - m on -/
def pok (D : Nat → Nat) (s c : Nat) : Nat → Bool
  | 0 => true
  | m + 1 => if pdu D s (10 - (m + 1)) c ≤ 10 - (m + 1) + 1 then pok D s c m else false
def b01 (b : Bool) : Int32 := if b = true then 1 else 0
theorem inT16_lp {D : Nat → Nat} {s c d : Nat} {B : Int32 → Int32 → Int32 → Mm → Prop} {M : Mm} {K : Int32 → Mm → Prop} (hc : c ≤ 7) (hs : s < 2 ^ 31) (hd : d < 10) (hD : ∀ i, i < 7 → M 36 i = nI (D i) ∧ D i ≤ 9) (h1 : pdu D s d c ≤ d + 1 → B (nI c) (nI s) (nI (d + 1)) M) (h0 : ¬ pdu D s d c ≤ d + 1 → K 0 M) : ∀ f i, i ≤ c → c - i < f → T_X8_isInTime_16 B 30 f (nI c) (nI s) (nI d) (nI (pdu D s d i)) (nI i) M K := by
  intro f
  induction f with
  | zero => intro i _ h; exact absurd h (Nat.not_lt_zero _)
  | succ f ih =>
    intro i hi hf
    have e36 : rf 30 5 = 36 := by decide
    have hl := pdu_le (D := D) (s := s) (d := d) i
    rw [T_X8_isInTime_16, e36, nI_clamp (by omega), bit_c hs (by omega), nI_1]
    refine pk_le c i (fun h => ?_) (fun h => ?_)
    · have e : i = c := by omega
      subst e
      refine pk_le (pdu D s d i) (d + 1) (fun h3 => ?_) (fun h3 => h0 (by omega))
      intro y hy
      rw [hy]; exact h1 h3
    · have := ih (i + 1) (by omega) (by omega)
      rw [pdu] at this
      have hb := mod2c (s / 2 ^ i)
      have G : ¬ (s / 2 ^ i % 2 = 1 ∧ D i ≤ d) → T_X8_isInTime_47 B (fun x2 x3 x4 x5 x6 M => T_X8_isInTime_16 B 30 f x2 x3 x4 x5 x6 M K) 30 (nI c) (nI s) (nI d) (nI (pdu D s d i)) (nI i) M K := fun hn => by
        rw [if_neg hn] at this
        rw [T_X8_isInTime_47]
        intro y hy
        rw [hy, nI_1]; exact this
      refine pk_eq (s / 2 ^ i % 2) 1 (fun h3 => ⟨vp_in_nI (by omega) (by decide), ?_⟩) (fun h3 => G (fun q => h3 q.1))
      rw [(hD i (by omega)).1]
      have hd9 := (hD i (by omega)).2
      refine pk_lt d (D i) (fun h4 => G (fun q => by omega)) (fun h4 => ?_)
      intro y hy
      rw [if_pos ⟨h3, h4⟩] at this
      rw [T_X8_isInTime_47, hy, nI_1]
      intro y hy
      rw [hy, nI_1]; exact this
theorem inT3_lp {D : Nat → Nat} {s c : Nat} {M : Mm} {K : Int32 → Mm → Prop} (hc : c ≤ 7) (hs : s < 2 ^ 31) (hD : ∀ i, i < 7 → M 36 i = nI (D i) ∧ D i ≤ 9) : ∀ f m, m ≤ 10 → m < f → K (b01 (pok D s c m)) M → T_X8_isInTime_3 30 f (nI c) (nI s) (nI (10 - m)) M K := by
  intro f
  induction f with
  | zero => intro i _ h; exact absurd h (Nat.not_lt_zero _)
  | succ f ih =>
    intro m hm hf hK
    rw [T_X8_isInTime_3]
    refine pk_lt 9 (10 - m) (fun h => ?_) (fun h => ?_)
    · have e : m = 0 := by omega
      subst e
      exact hK
    · obtain ⟨j, rfl⟩ : ∃ j, m = j + 1 := ⟨m - 1, by omega⟩
      rw [pok] at hK
      refine inT16_lp (D := D) hc hs (by omega) hD (fun h3 => ?_) (fun h3 => ?_) 5000 0 (by omega) (by omega)
      · rw [if_pos h3] at hK
        rw [show 10 - (j + 1) + 1 = 10 - j by omega]
        exact ih j (by omega) (by omega) hK
      · rw [if_neg h3] at hK
        exact hK
theorem canP13_lp {D : Nat → Nat} {s c d : Nat} {B : Int32 → Int32 → Mm → Prop} {M : Mm} {K : Int32 → Mm → Prop} (hc : c ≤ 7) (ec : M 159 59 = nI c) (hs : s < 2 ^ 31) (hd : d < 10) (hD : ∀ i, i < 7 → M 194 i = nI (D i) ∧ D i ≤ 9) (h1 : pdu D s d c ≤ d + 1 → B (nI s) (nI (d + 1)) M) (h0 : ¬ pdu D s d c ≤ d + 1 → K 0 M) : ∀ f i, i ≤ c → c - i < f → T_X12_canPut_13 B f (nI s) (nI d) (nI (pdu D s d i)) (nI i) M K := by
  intro f
  induction f with
  | zero => intro i _ h; exact absurd h (Nat.not_lt_zero _)
  | succ f ih =>
    intro i hi hf
    have hl := pdu_le (D := D) (s := s) (d := d) i
    rw [T_X12_canPut_13, ec, nI_clamp (by omega), nI_1, T_X12_has, bit_c hs (by omega)]
    refine pk_le c i (fun h => ?_) (fun h => ?_)
    · have e : i = c := by omega
      subst e
      refine pk_le (pdu D s d i) (d + 1) (fun h3 => ?_) (fun h3 => h0 (by omega))
      intro y hy
      rw [hy]; exact h1 h3
    · have := ih (i + 1) (by omega) (by omega)
      rw [pdu] at this
      have hb := mod2c (s / 2 ^ i)
      have G : ¬ (s / 2 ^ i % 2 = 1 ∧ D i ≤ d) → T_X12_canPut_47 B (fun x1 x2 x3 x4 M => T_X12_canPut_13 B f x1 x2 x3 x4 M K) (nI s) (nI d) (nI (pdu D s d i)) (nI i) M K := fun hn => by
        rw [if_neg hn] at this
        rw [T_X12_canPut_47]
        intro y hy
        rw [hy, nI_1]; exact this
      refine pk_eq (s / 2 ^ i % 2) 1 (fun h3 => ⟨fun z => absurd z (by decide), fun _ => ⟨vp_in_nI (by omega) (by decide), ?_⟩⟩) (fun h3 => ⟨fun _ => G (fun q => h3 q.1), fun z => absurd rfl z⟩)
      rw [(hD i (by omega)).1]
      have hd9 := (hD i (by omega)).2
      refine pk_lt d (D i) (fun h4 => G (fun q => by omega)) (fun h4 => ?_)
      intro y hy
      rw [if_pos ⟨h3, h4⟩] at this
      rw [T_X12_canPut_47, hy, nI_1]
      intro y hy
      rw [hy, nI_1]; exact this
theorem canP2_lp {D : Nat → Nat} {s c : Nat} {M : Mm} {K : Int32 → Mm → Prop} (hc : c ≤ 7) (ec : M 159 59 = nI c) (hs : s < 2 ^ 31) (hD : ∀ i, i < 7 → M 194 i = nI (D i) ∧ D i ≤ 9) : ∀ f m, m ≤ 10 → m < f → K (b01 (pok D s c m)) M → T_X12_canPut_2 f (nI s) (nI (10 - m)) M K := by
  intro f
  induction f with
  | zero => intro i _ h; exact absurd h (Nat.not_lt_zero _)
  | succ f ih =>
    intro m hm hf hK
    rw [T_X12_canPut_2]
    refine pk_le 10 (10 - m) (fun h => ?_) (fun h => ?_)
    · have e : m = 0 := by omega
      subst e
      exact hK
    · obtain ⟨j, rfl⟩ : ∃ j, m = j + 1 := ⟨m - 1, by omega⟩
      rw [pok] at hK
      refine canP13_lp (D := D) hc ec hs (by omega) hD (fun h3 => ?_) (fun h3 => ?_) 5000 0 (by omega) (by omega)
      · rw [if_pos h3] at hK
        rw [show 10 - (j + 1) + 1 = 10 - j by omega]
        exact ih j (by omega) (by omega) hK
      · rw [if_neg h3] at hK
        exact hK
theorem prices_lp {P : Nat → Nat} {s c : Nat} {M : Mm} {K : Int32 → Mm → Prop} (hc : c ≤ 7) (ec : M 159 59 = nI c) (hs : s < 2 ^ 31) (hP : ∀ i, i < 7 → M 193 i = nI (P i) ∧ P i ≤ 99) (hK : K (nI (ppr P s c)) M) : ∀ f i, i ≤ c → c - i < f → T_X12_pricesOf_4 f (nI s) (nI (ppr P s i)) (nI i) M K := by
  intro f
  induction f with
  | zero => intro i _ h; exact absurd h (Nat.not_lt_zero _)
  | succ f ih =>
    intro i hi hf
    rw [T_X12_pricesOf_4, ec, nI_clamp (by omega), T_X12_has, bit_c hs (by omega)]
    refine pk_le c i (fun h => ?_) (fun h => ?_)
    · have e : i = c := by omega
      subst e
      exact hK
    · have := ih (i + 1) (by omega) (by omega)
      rw [ppr] at this
      have hb := mod2c (s / 2 ^ i)
      refine pk_eq (s / 2 ^ i % 2) 1 (fun h3 => ⟨fun z => absurd z (by decide), fun _ => ⟨vp_in_nI (by omega) (by decide), fun y hy => ?_⟩⟩) (fun h3 => ⟨fun _ => ?_, fun z => absurd rfl z⟩)
      · rw [h3, Nat.one_mul] at this
        rw [T_X12_pricesOf_30, hy, (hP i (by omega)).1, nI_add]
        intro y hy
        rw [hy, nI_1]; exact this
      · rw [show s / 2 ^ i % 2 = 0 by omega, Nat.zero_mul, Nat.add_zero] at this
        rw [T_X12_pricesOf_30]
        intro y hy
        rw [hy, nI_1]; exact this
/-- the best_v of the first k sets -/
def bps (P D : Nat → Nat) (c : Nat) : Nat → Nat
  | 0 => 0
  | k + 1 => if (ppr P (bps P D c k) c < ppr P k c ∨ (ppr P k c = ppr P (bps P D c k) c ∧ pcn (bps P D c k) < pcn k)) ∧ pok D k c 10 = true then k else bps P D c k
theorem bps_le {P D : Nat → Nat} {c : Nat} : ∀ k, bps P D c k ≤ k
  | 0 => by rw [bps]; omega
  | k + 1 => by
    rw [bps]
    have := bps_le (P := P) (D := D) (c := c) k
    split <;> omega
def vps (P : Nat → Nat) (c s : Nat) : Nat := ppr P s c * 8 + pcn s
theorem bp40_lp {P : Nat → Nat} {s c z : Nat} {B : Int32 → Int32 → Int32 → Mm → Prop} {M : Mm} {K : Int32 → Mm → Prop} (hc : c ≤ 7) (hs : s < 128) (hz : z < 2 ^ 20) (hP : ∀ i, i < 7 → M 35 i = nI (P i) ∧ P i ≤ 99) (hB : B (nI c) (nI (if z < vps P c s then vps P c s else z)) (nI (s + 1)) M) : ∀ f i, i ≤ c → c - i < f → T_X8_bestPut_40 B 30 f (nI c) (nI z) (nI s) (nI (ppr P s i)) (nI i) M K := by
  intro f
  induction f with
  | zero => intro i _ h; exact absurd h (Nat.not_lt_zero _)
  | succ f ih =>
    intro i hi hf
    have e35 : rf 30 4 = 35 := by decide
    rw [T_X8_bestPut_40, e35, nI_clamp (by omega), bit_c (by omega) (by omega)]
    refine pk_le c i (fun h => ?_) (fun h => ⟨vp_in_nI (by omega) (by decide), fun y hy y9 h9 => ?_⟩)
    · have e : i = c := by omega
      subst e
      refine bitCount_ok ?_
      rw [bcf_ok s (by omega)]
      have hl := ppr_le (P := P) (s := s) (fun j hj => (hP j hj).2) i hc
      have h7 := pcn_7 s hs
      have e : nI (ppr P s i) * 8 + nI (pcn s) = nI (vps P i s) := by
        rw [show (8 : Int32) = nI 8 from rfl, pk_mul, nI_add]; rfl
      have hv : vps P i s < 2 ^ 20 := by unfold vps; omega
      rw [e]
      intro y6 h6
      have e2 : y6 = nI (if z < vps P i s then vps P i s else z) := by
        rw [h6]
        by_cases hlt : z < vps P i s
        · rw [if_pos (nI_lt hlt (by omega)), if_pos hlt]
        · rw [if_neg (nI_nlt (by omega) (by omega)), if_neg hlt]
      rw [T_X8_bestPut_88, e2]
      intro y1 h1
      rw [h1, nI_1]; exact hB
    · rw [hy, h9, (hP i (by omega)).1, pk_mul, nI_add, nI_1]
      exact ih (i + 1) (by omega) (by omega)
theorem p2c : ∀ c, c < 8 → 1 ≤ 2 ^ c ∧ 2 ^ c ≤ 128 := by decide
theorem bp15_lp {P D : Nat → Nat} {c : Nat} {M : Mm} {K : Int32 → Mm → Prop} (hc : c ≤ 7) (hP : ∀ i, i < 7 → M 35 i = nI (P i) ∧ P i ≤ 99) (hD : ∀ i, i < 7 → M 36 i = nI (D i) ∧ D i ≤ 9) (hK : K (nI (vps P c (bps P D c (2 ^ c)))) M) : ∀ f k, k ≤ 2 ^ c → 2 ^ c - k < f → T_X8_bestPut_15 30 f (nI c) (nI (vps P c (bps P D c k))) (nI k) M K := by
  obtain ⟨p1, p2⟩ := p2c c (by omega)
  intro f
  induction f with
  | zero => intro i _ h; exact absurd h (Nat.not_lt_zero _)
  | succ f ih =>
    intro k hk hf
    rw [T_X8_bestPut_15, shl_c (by omega)]
    refine pk_le (2 ^ c) k (fun h => ?_) (fun h => ?_)
    · have e : k = 2 ^ c := by omega
      rw [e]; exact hK
    · have := ih (k + 1) (by omega) (by omega)
      rw [bps] at this
      have hbl := bps_le (P := P) (D := D) (c := c) k
      have l1 := ppr_le (P := P) (s := k) (fun j hj => (hP j hj).2) c hc
      have l2 := ppr_le (P := P) (s := bps P D c k) (fun j hj => (hP j hj).2) c hc
      have s1 := pcn_7 k (by omega)
      have s2 := pcn_7 (bps P D c k) (by omega)
      rw [T_X8_isInTime]
      refine inT3_lp (D := D) (s := k) hc (by omega) hD 5000 10 (by omega) (by omega) ?_
      cases ho : pok D k c 10 with
      | false =>
        rw [if_neg (by rw [ho]; simp)] at this
        refine ⟨fun _ => ?_, fun z => absurd rfl z⟩
        rw [T_X8_bestPut_88]
        intro y1 h1
        rw [h1, nI_1]; exact this
      | true =>
        refine ⟨fun z => absurd z (by decide), fun _ => ?_⟩
        refine bp40_lp (P := P) hc (by omega) (by unfold vps; omega) hP ?_ 5000 0 (by omega) (by omega)
        by_cases hx : ppr P (bps P D c k) c < ppr P k c ∨ (ppr P k c = ppr P (bps P D c k) c ∧ pcn (bps P D c k) < pcn k)
        · rw [if_pos ⟨hx, ho⟩] at this
          rw [if_pos (by unfold vps; omega)]
          exact this
        · rw [if_neg (fun q => hx q.1)] at this
          rw [if_neg (by unfold vps; omega)]
          exact this
theorem puts_lp {P D : Nat → Nat} {c : Nat} {x : Int32} {M : Mm} {K : Int32 → Mm → Prop} (hc : c ≤ 7) (ec : M 159 59 = nI c) (hP : ∀ i, i < 7 → M 193 i = nI (P i) ∧ P i ≤ 99) (hD : ∀ i, i < 7 → M 194 i = nI (D i) ∧ D i ≤ 9) (hK : K (if x = 0 then nI (ppr P (bps P D c (2 ^ c)) c) else nI (pcn (bps P D c (2 ^ c)))) M) : ∀ f k, 1 ≤ k → k ≤ 2 ^ c → 2 ^ c - k < f → T_X12_puts_21 f x (nI (bps P D c k)) (nI k) M K := by
  obtain ⟨p1, p2⟩ := p2c c (by omega)
  intro f
  induction f with
  | zero => intro i _ _ h; exact absurd h (Nat.not_lt_zero _)
  | succ f ih =>
    intro k hk0 hk hf
    have hbl := bps_le (P := P) (D := D) (c := c) k
    rw [T_X12_puts_21, ec, shl_c (by omega)]
    refine pk_le (2 ^ c) k (fun h => ?_) (fun h => ?_)
    · have e : k = 2 ^ c := by omega
      rw [e] at hbl ⊢
      refine ⟨fun h0 => ?_, fun h0 => ?_⟩
      · rw [if_pos h0] at hK
        rw [T_X12_pricesOf]
        exact prices_lp (P := P) hc ec (by omega) hP hK 5000 0 (by omega) (by omega)
      · rw [if_neg h0] at hK
        exact ones_ok (by omega) hK
    · have := ih (k + 1) (by omega) (by omega) (by omega)
      rw [bps] at this
      have l1 := ppr_le (P := P) (s := k) (fun j hj => (hP j hj).2) c hc
      have l2 := ppr_le (P := P) (s := bps P D c k) (fun j hj => (hP j hj).2) c hc
      have s1 := pcn_7 k (by omega)
      have s2 := pcn_7 (bps P D c k) (by omega)
      rw [T_X12_pricesOf]
      refine prices_lp (P := P) hc ec (by omega) hP ?_ 5000 0 (by omega) (by omega)
      rw [T_X12_pricesOf]
      refine prices_lp (P := P) hc ec (by omega) hP ?_ 5000 0 (by omega) (by omega)
      intro y20 h20
      have G : ¬ ((ppr P (bps P D c k) c < ppr P k c ∨ (ppr P k c = ppr P (bps P D c k) c ∧ pcn (bps P D c k) < pcn k)) ∧ pok D k c 10 = true) → T_X12_puts_77 (fun x1 x2 x3 M => T_X12_puts_21 f x1 x2 x3 M K) x (nI (bps P D c k)) (nI k) M K := fun hn => by
        rw [if_neg hn] at this
        rw [T_X12_puts_77]
        intro y1 h1
        rw [h1, nI_1]; exact this
      have H : (ppr P (bps P D c k) c < ppr P k c ∨ (ppr P k c = ppr P (bps P D c k) c ∧ pcn (bps P D c k) < pcn k)) → T_X12_puts_67 (fun x1 x2 x3 M => T_X12_puts_21 f x1 x2 x3 M K) x (nI (bps P D c k)) (nI k) M K := fun hx => by
        rw [T_X12_puts_67, T_X12_canPut]
        refine canP2_lp (D := D) (s := k) hc ec (by omega) hD 5000 10 (by omega) (by omega) ?_
        cases ho : pok D k c 10 with
        | false => exact ⟨fun _ => G (fun q => by rw [ho] at q; exact absurd q.2 (by decide)), fun z => absurd rfl z⟩
        | true =>
          refine ⟨fun z => absurd z (by decide), fun _ => ?_⟩
          rw [if_pos ⟨hx, ho⟩] at this
          rw [T_X12_puts_77]
          intro y1 h1
          rw [h1, nI_1]; exact this
      have hsg : (nI (ppr P k c) - nI (ppr P (bps P D c k) c)).toInt = (ppr P k c : Int) - ppr P (bps P D c k) c := pk_sub_toInt (by omega) (by omega)
      rw [h20]
      refine ⟨fun h3 => H (Or.inl ?_), fun h3 => ⟨fun h4 => ?_, fun h4 => G (fun q => ?_)⟩⟩
      · rw [lt_I, hsg, show (0 : Int32).toInt = 0 from by decide] at h3
        omega
      · have h5 := congrArg Int32.toInt h4
        rw [hsg, show (0 : Int32).toInt = 0 from by decide] at h5
        refine ones_ok (by omega) (ones_ok (by omega) ?_)
        exact pk_le (pcn k) (pcn (bps P D c k)) (fun h6 => G (fun q => by omega)) (fun h6 => H (Or.inr ⟨by omega, h6⟩))
      · rw [lt_I, hsg, show (0 : Int32).toInt = 0 from by decide] at h3
        have h5 : ¬ ppr P k c = ppr P (bps P D c k) c := fun e => h4 (by rw [e, pk_sub (by omega), Nat.sub_self]; rfl)
        omega
set_option maxHeartbeats 1000000 in
theorem ag_puts {N : Nat} {M : Mm} (h : Inv N M) (x : Int32) : Ag (T_X11_puts x) (T_X12_puts x) N M := by
  have hf := h.t0 (x := 0)
  by_cases c1 : (0 : Int32) ≤ x ∧ x ≤ 1
  rotate_left
  · exact ⟨-1, M, _, fun K q => by simpa [T_X11_puts, iw_neg c1] using q, fun K q => by simpa [T_X12_puts, ii_neg c1] using q, hf⟩
  obtain ⟨np, nb, ⟨-, -, -, -, -, hT⟩, -, -⟩ := id h
  obtain ⟨-, -, -, -, -, ⟨e1, ⟨c, hc, ec⟩, t8⟩, -⟩ := hT
  have ec : M 30 11 = nI c := ec
  have e1 : m_up M 159 0 0 159 59 = nI c := by rw [mu, if_neg (by omega)]; exact e1.trans ec
  obtain ⟨P, eP⟩ : ∃ P : Nat → Nat, P = fun i => (M 35 i).toNatClampNeg := ⟨_, rfl⟩
  obtain ⟨D, eD⟩ : ∃ D : Nat → Nat, D = fun i => (M 36 i).toNatClampNeg := ⟨_, rfl⟩
  have hP : ∀ i, i < 7 → M 35 i = nI (P i) ∧ P i ≤ 99 := fun i hi => by
    rw [eP]; exact sm_v (t8 i hi).2.2.1 (by omega)
  have hD : ∀ i, i < 7 → M 36 i = nI (D i) ∧ D i ≤ 9 := fun i hi => by
    rw [eD]; exact sm_v (t8 i hi).2.2.2 (by omega)
  have hP2 : ∀ i, i < 7 → m_up M 159 0 0 193 i = nI (P i) ∧ P i ≤ 99 := fun i hi => by
    rw [mu, if_neg (by omega)]; exact ⟨((t8 i hi).1).trans (hP i hi).1, (hP i hi).2⟩
  have hD2 : ∀ i, i < 7 → m_up M 159 0 0 194 i = nI (D i) ∧ D i ≤ 9 := fun i hi => by
    rw [mu, if_neg (by omega)]; exact ⟨((t8 i hi).2.1).trans (hD i hi).1, (hD i hi).2⟩
  obtain ⟨p1, p2⟩ := p2c c (by omega)
  have A : ∀ K : Int32 → Mm → Prop, K (nI (vps P c (bps P D c (2 ^ c)))) M → T_X8_bestPut 30 M K := fun K q => by
    have := bp15_lp (P := P) (D := D) hc hP hD q 5000 0 (by omega) (by omega)
    rw [T_X8_bestPut, ec]
    intro y h1
    rw [h1, if_neg (show ¬ (7 : Int32) < nI c from nI_nlt (a := 7) hc (by omega))]
    have e0 : vps P c (bps P D c 0) = 0 := by
      have : ∀ i, ppr P 0 i = 0 := by
        intro i
        induction i with
        | zero => rfl
        | succ i ih => rw [ppr, ih, Nat.zero_div]
                       simp
      unfold vps
      rw [bps, this]
      rfl
    rw [e0] at this
    exact this
  have hbl := bps_le (P := P) (D := D) (c := c) (2 ^ c)
  have l2 := ppr_le (P := P) (s := bps P D c (2 ^ c)) (fun j hj => (hP j hj).2) c hc
  have s2 : pcn (bps P D c (2 ^ c)) ≤ 7 := by
    rcases Nat.lt_or_ge (bps P D c (2 ^ c)) 128 with g | g
    · exact pcn_7 _ g
    · rw [show bps P D c (2 ^ c) = 128 by omega]; decide
  refine ⟨if x = 0 then nI (ppr P (bps P D c (2 ^ c)) c) else nI (pcn (bps P D c (2 ^ c))), M, m_up M 159 0 0, fun K q => ?_, fun K q => ?_, hf⟩
  · simp only [T_X11_puts, iw_pos c1]
    refine ⟨fun z => absurd z (by decide), fun _ => A _ ⟨fun z => ?_, fun z => ?_⟩⟩
    · rw [if_pos z] at q
      rw [show (8 : Int32) = nI 8 from rfl, pk_div (by unfold vps; omega) (by omega) (by omega), show vps P c (bps P D c (2 ^ c)) / 8 = ppr P (bps P D c (2 ^ c)) c by unfold vps; omega]
      exact q
    · rw [if_neg z] at q
      rw [show (8 : Int32) = nI 8 from rfl, pk_rem (by unfold vps; omega) (by omega) (by omega), show vps P c (bps P D c (2 ^ c)) % 8 = pcn (bps P D c (2 ^ c)) by unfold vps; omega]
      exact q
  · have := puts_lp (P := P) (D := D) (x := x) (M := m_up M 159 0 0) (K := K) hc e1 hP2 hD2 q 5000 1 (by omega) (by omega) (by omega)
    rw [show bps P D c 1 = 0 by have := bps_le (P := P) (D := D) (c := c) 0; rw [bps]; split <;> omega] at this
    simp only [T_X12_puts, ii_pos c1, forall_eq]
    exact ⟨fun z => absurd z (by decide), fun _ => this⟩
