/-- how likely a shill he is behind one bid -/
def sg1 (q s o : Nat) : Nat := q * s * 1000000 / (q * s + (1000000 - q) * o)
theorem sg1_pos {q s o : Nat} (hq : q ≤ 1000000) (hs1 : 1 ≤ s) (ho1 : 1 ≤ o) : 0 < q * s + (1000000 - q) * o := by
  rcases Nat.eq_zero_or_pos q with h | h
  · subst h
    rw [Nat.zero_mul, Nat.zero_add]
    exact Nat.mul_pos (by omega) ho1
  · have := Nat.mul_pos h hs1
    omega
theorem sg1_le {q s o : Nat} (hq : q ≤ 1000000) (hs1 : 1 ≤ s) (ho1 : 1 ≤ o) : sg1 q s o ≤ 1000000 := by
  unfold sg1
  refine Nat.div_le_of_le_mul ?_
  rw [Nat.mul_comm (q * s + (1000000 - q) * o) 1000000, Nat.mul_comm (q * s) 1000000]
  exact Nat.mul_le_mul_left _ (by omega)
theorem weighed_ok {q s o : Nat} (hq : q ≤ 1000000) (hs : s ≤ 7) (ho : o ≤ 7) (hs1 : 1 ≤ s) (ho1 : 1 ≤ o) {M : Mm} {K : Int32 → Mm → Prop} (hK : K (nI (sg1 q s o)) M) : T_X8_weighed (nI q) (nI s) (nI o) M K := by
  have b1 : q * s ≤ 1000000 * 7 := Nat.mul_le_mul hq hs
  have b2 : (1000000 - q) * o ≤ 1000000 * 7 := Nat.mul_le_mul (by omega) ho
  have b3 := sg1_pos hq hs1 ho1
  have e1 : (nI q).toInt64 * (nI s).toInt64 = lN (q * s) := by rw [nI_l (by omega), nI_l (by omega), lN_mul]
  have e2 : lN (q * s) + ((1000000 - nI q)).toInt64 * (nI o).toInt64 = lN (q * s + (1000000 - q) * o) := by
    rw [show (1000000 : Int32) = nI 1000000 from rfl, pk_sub hq, nI_l (by omega), nI_l (by omega), lN_mul, lN_add]
  rw [T_X8_weighed]
  intro y1 h1 y2 h2
  rw [e1] at h1
  subst h1
  rw [e2] at h2
  subst h2
  refine ⟨fun _ => ⟨fun z => ?_, ?_⟩, fun z => absurd ?_ z⟩
  · have := (pk_lEQ (a := q * s + (1000000 - q) * o) (b := 0) (by omega) (by omega)).mp z
    omega
  · rw [show (1000000 : Int64) = lN 1000000 from rfl, lN_mul, pk_lDiv (by omega) b3 (by omega), lN_i]
    exact hK
  · rw [lg_cmp_gt]
    exact (pk_lLT (a := 0) (by omega) (by omega)).mpr b3
theorem partOf_lp {a d : Nat} (hd : 0 < d) (hd2 : d ≤ 20000000) (had : a ≤ d) {M : Mm} {K : Int32 → Mm → Prop} (hK : K (nI (a * 1000000 / d)) M) : ∀ f k, k ≤ 6 → 6 - k < f → T_X12_partOf_12 f (nI d) (nI (a * 10 ^ k / d)) (nI (a * 10 ^ k % d)) (nI k) M K := by
  intro f
  induction f with
  | zero => intro k _ h; exact absurd h (Nat.not_lt_zero _)
  | succ f ih =>
    intro k hk hf
    have hr : a * 10 ^ k % d < d := Nat.mod_lt _ hd
    have hv : a * 10 ^ k / d ≤ 10 ^ k := Nat.div_le_of_le_mul (Nat.mul_le_mul_right _ had)
    rw [T_X12_partOf_12]
    refine pk_le 6 k (fun h => ?_) (fun h => ?_)
    · have e : k = 6 := by omega
      subst e
      exact hK
    · have h10 : 10 ^ k ≤ 10 ^ 5 := Nat.pow_le_pow_right (by omega) (by omega)
      have e0 : nI (a * 10 ^ k % d) * 10 = nI (a * 10 ^ k % d * 10) := pk_mul _ 10
      have hne : ¬ nI d = 0 := nI_ne0 hd (by omega)
      have e4 : 10 * nI (a * 10 ^ k / d) + nI (a * 10 ^ k % d * 10) / nI d = nI (a * 10 ^ (k + 1) / d) := by
        rw [show (10 : Int32) = nI 10 from rfl, pk_mul, pk_div (by omega) hd (by omega), nI_add]
        congr 1
        have hh : a * 10 ^ (k + 1) = d * (10 * (a * 10 ^ k / d)) + a * 10 ^ k % d * 10 := by
          have h0 := Nat.div_add_mod (a * 10 ^ k) d
          rw [Nat.pow_succ, ← Nat.mul_assoc]
          generalize a * 10 ^ k = X at h0 ⊢
          generalize X / d = Q at h0 ⊢
          generalize X % d = R at h0 ⊢
          rw [← h0, Nat.add_mul, Nat.mul_assoc, Nat.mul_comm Q 10]
        rw [hh, Nat.mul_add_div hd]
      have e6 : nI (a * 10 ^ k % d * 10) - nI (a * 10 ^ k % d * 10) / nI d * nI d = nI (a * 10 ^ (k + 1) % d) := by
        rw [pk_rem (by omega) hd (by omega)]
        congr 1
        rw [Nat.pow_succ, ← Nat.mul_assoc, Nat.mul_mod, Nat.mod_mod, ← Nat.mul_mod]
      intro y2 h2
      rw [e0] at h2
      subst h2
      refine ⟨hne, fun y4 h4 => ⟨hne, fun y6 h6 y7 h7 => ?_⟩⟩
      rw [e4] at h4
      rw [e6] at h6
      rw [nI_1] at h7
      rw [h4, h6, h7]
      exact ih (k + 1) (by omega) (by omega)
theorem guessed_ok {q s o : Nat} (hq : q ≤ 1000000) (hs : s ≤ 7) (ho : o ≤ 7) (hs1 : 1 ≤ s) (ho1 : 1 ≤ o) {M : Mm} {K : Int32 → Mm → Prop} (hK : K (nI (sg1 q s o)) M) : T_X12_guessed (nI q) (nI s) (nI o) M K := by
  have b1 : q * s ≤ 1000000 * 7 := Nat.mul_le_mul hq hs
  have b2 : (1000000 - q) * o ≤ 1000000 * 7 := Nat.mul_le_mul (by omega) ho
  have b3 := sg1_pos hq hs1 ho1
  have e2 : nI (q * s) + (1000000 - nI q) * nI o = nI (q * s + (1000000 - q) * o) := by
    rw [show (1000000 : Int32) = nI 1000000 from rfl, pk_sub hq, pk_mul, nI_add]
  have hne : ¬ nI (q * s + (1000000 - q) * o) = 0 := nI_ne0 b3 (by omega)
  rw [T_X12_guessed, pk_mul, e2, T_X12_partOf]
  refine ⟨hne, fun y9 h9 => ⟨hne, fun y11 h11 => ?_⟩⟩
  have := partOf_lp (a := q * s) (d := q * s + (1000000 - q) * o) b3 (by omega) (by omega) (M := M) (K := K) hK 5000 0 (by omega) (by omega)
  rw [Nat.pow_zero, Nat.mul_one] at this
  rw [h9, h11, pk_div (by omega) b3 (by omega), pk_rem (by omega) b3 (by omega)]
  exact this
/-- and behind i of them -/
def sgs (p n : Nat) : Nat → Nat
  | 0 => 1000 * p
  | i + 1 => if i < n then sg1 (sgs p n i) 6 3 else sg1 (sgs p n i) 4 7
theorem sgs_le {p n : Nat} (hp : p ≤ 1000) : ∀ i, sgs p n i ≤ 1000000
  | 0 => by rw [sgs]; omega
  | i + 1 => by
    rw [sgs]
    split
    · exact sg1_le (sgs_le hp i) (by omega) (by omega)
    · exact sg1_le (sgs_le hp i) (by omega) (by omega)
theorem susp_lp {p n m : Nat} (hp : p ≤ 1000) (hn : n ≤ 20) (hm : m ≤ 40) {M : Mm} {K : Int32 → Mm → Prop} (hK : K (nI (sgs p n m)) M) : ∀ f i, i ≤ m → m - i < f → T_X8_suspicion_10 f (nI n) (nI m) (nI (sgs p n i)) (nI i) M K := by
  intro f
  induction f with
  | zero => intro k _ h; exact absurd h (Nat.not_lt_zero _)
  | succ f ih =>
    intro i hi hf
    rw [T_X8_suspicion_10]
    refine pk_le m i (fun h => ?_) (fun h => pk_le 40 i (fun h2 => absurd h2 (by omega)) (fun h2 => pk_le n i (fun h3 => ?_) (fun h3 => ?_)))
    · have e : i = m := by omega
      rw [e]; exact hK
    · refine weighed_ok (q := sgs p n i) (s := 4) (o := 7) (sgs_le hp i) (by omega) (by omega) (by omega) (by omega) ?_
      rw [T_X8_suspicion_50]
      intro y1 h1
      rw [h1, nI_1]
      have := ih (i + 1) (by omega) (by omega)
      rw [sgs, if_neg (by omega)] at this
      exact this
    · refine weighed_ok (q := sgs p n i) (s := 6) (o := 3) (sgs_le hp i) (by omega) (by omega) (by omega) (by omega) ?_
      rw [T_X8_suspicion_50]
      intro y1 h1
      rw [h1, nI_1]
      have := ih (i + 1) (by omega) (by omega)
      rw [sgs, if_pos (by omega)] at this
      exact this
theorem shill_lp {p n m : Nat} (hp : p ≤ 1000) (hn : n ≤ 20) (hm : m ≤ 40) {M : Mm} {K : Int32 → Mm → Prop} (hK : K (nI (sgs p n m)) M) : ∀ f i, i ≤ m → m - i < f → T_X12_shill_51 f (nI n) (nI m) (nI (sgs p n i)) (nI i) M K := by
  intro f
  induction f with
  | zero => intro k _ h; exact absurd h (Nat.not_lt_zero _)
  | succ f ih =>
    intro i hi hf
    rw [T_X12_shill_51]
    refine pk_le m i (fun h => ?_) (fun h => pk_le n i (fun h3 => ?_) (fun h3 => ?_))
    · have e : i = m := by omega
      rw [e]; exact hK
    · refine guessed_ok (q := sgs p n i) (s := 4) (o := 7) (sgs_le hp i) (by omega) (by omega) (by omega) (by omega) ?_
      rw [T_X12_shill_84]
      intro y1 h1
      rw [h1, nI_1]
      have := ih (i + 1) (by omega) (by omega)
      rw [sgs, if_neg (by omega)] at this
      exact this
    · refine guessed_ok (q := sgs p n i) (s := 6) (o := 3) (sgs_le hp i) (by omega) (by omega) (by omega) (by omega) ?_
      rw [T_X12_shill_84]
      intro y1 h1
      rw [h1, nI_1]
      have := ih (i + 1) (by omega) (by omega)
      rw [sgs, if_pos (by omega)] at this
      exact this
set_option maxHeartbeats 1000000 in
theorem ag_shill {N : Nat} {M : Mm} (h : Inv N M) (x y z : Int32) : Ag (T_X11_shill x y z) (T_X12_shill x y z) N M := by
  have hf := h.t0 (x := 0)
  by_cases c1 : (0 : Int32) ≤ x ∧ x ≤ 1000
  rotate_left
  · exact ⟨-1, M, _, fun K q => by simpa [T_X11_shill, iw_neg c1] using q, fun K q => by simpa [T_X12_shill, ii_neg c1] using q, hf⟩
  by_cases c2 : (0 : Int32) ≤ y ∧ y ≤ 20
  rotate_left
  · exact ⟨-1, M, _, fun K q => by simpa [T_X11_shill, iw_pos c1, iw_neg c2] using q, fun K q => by simpa [T_X12_shill, ii_pos c1, ii_neg c2] using q, hf⟩
  by_cases c3 : y ≤ z ∧ z ≤ 40
  rotate_left
  · exact ⟨-1, M, _, fun K q => by simpa [T_X11_shill, iw_pos c1, iw_pos c2, iw_neg c3] using q, fun K q => by simpa [T_X12_shill, ii_pos c1, ii_pos c2, ii_neg c3] using q, hf⟩
  obtain ⟨p, -, hp, rfl⟩ := rng (a := 0) (b := 1000) (by decide) (by decide) c1
  obtain ⟨n, -, hn, rfl⟩ := rng (a := 0) (b := 20) (by decide) (by decide) c2
  obtain ⟨m, -, hm, rfl⟩ := rng (a := n) (b := 40) (by omega) (by decide) c3
  have e0 : (1000 : Int32) * nI p = nI (sgs p n 0) := pk_mul 1000 p
  refine ⟨nI (sgs p n m), M, m_up M 159 0 0, fun K q => ?_, fun K q => ?_, hf⟩
  · have := susp_lp (M := M) hp hn hm q 5000 0 (by omega) (by omega)
    simp only [T_X11_shill, iw_pos c1, iw_pos c2, iw_pos c3, T_X8_suspicion, forall_eq, e0]
    exact ⟨fun z => absurd z (by decide), fun _ => ⟨fun z => absurd z (by decide), fun _ => ⟨fun z => absurd z (by decide), fun _ => this⟩⟩⟩
  · have := shill_lp (M := m_up M 159 0 0) hp hn hm q 5000 0 (by omega) (by omega)
    simp only [T_X12_shill, ii_pos c1, ii_pos c2, ii_pos c3, forall_eq, e0]
    exact ⟨fun z => absurd z (by decide), fun _ => ⟨fun z => absurd z (by decide), fun _ => ⟨fun z => absurd z (by decide), fun _ => this⟩⟩⟩
