/-! which: by which clues a parcel is known_v -/
/-- how many couples below_v p are so -/
def cq1 (D : Nat → Nat → Bool) (p : Nat) : Nat → Nat
  | 0 => 0
  | q + 1 => cq1 D p q + (if D p q = true then 1 else 0)
def cq2 (D : Nat → Nat → Bool) : Nat → Nat
  | 0 => 0
  | p + 1 => cq2 D p + cq1 D p p
theorem cq1_le {D E : Nat → Nat → Bool} {p : Nat} (h : ∀ q, D p q = true → E p q = true) : ∀ n, cq1 D p n ≤ cq1 E p n ∧ (cq1 D p n = cq1 E p n ↔ ∀ q, q < n → E p q = true → D p q = true)
  | 0 => ⟨Nat.le_refl _, ⟨fun _ q hq => absurd hq (by omega), fun _ => rfl⟩⟩
  | n + 1 => by
    obtain ⟨h1, h2⟩ := cq1_le h n
    rw [cq1, cq1]
    by_cases cD : D p n = true
    · rw [if_pos cD, if_pos (h n cD)]
      refine ⟨by omega, ⟨fun e q hq hE => ?_, fun g => ?_⟩⟩
      · by_cases c : q = n
        · rw [c]; exact cD
        · exact (h2.mp (by omega)) q (by omega) hE
      · have := h2.mpr (fun q hq hE => g q (by omega) hE)
        omega
    · rw [if_neg cD]
      by_cases cE : E p n = true
      · rw [if_pos cE]
        refine ⟨by omega, ⟨fun e => by omega, fun g => absurd (g n (by omega) cE) cD⟩⟩
      · rw [if_neg cE]
        refine ⟨by omega, ⟨fun e q hq hE => ?_, fun g => ?_⟩⟩
        · by_cases c : q = n
          · rw [c] at hE; exact absurd hE cE
          · exact (h2.mp (by omega)) q (by omega) hE
        · have := h2.mpr (fun q hq hE => g q (by omega) hE)
          omega
theorem cq2_le {D E : Nat → Nat → Bool} (h : ∀ p q, D p q = true → E p q = true) : ∀ n, cq2 D n ≤ cq2 E n ∧ (cq2 D n = cq2 E n ↔ ∀ p q, p < n → q < p → E p q = true → D p q = true)
  | 0 => ⟨Nat.le_refl _, ⟨fun _ p q hp => absurd hp (by omega), fun _ => rfl⟩⟩
  | n + 1 => by
    obtain ⟨h1, h2⟩ := cq2_le h n
    obtain ⟨h3, h4⟩ := cq1_le (p := n) (fun q => h n q) n
    rw [cq2, cq2]
    refine ⟨by omega, ⟨fun e p q hp hq hE => ?_, fun g => ?_⟩⟩
    · by_cases c : p = n
      · rw [c] at hq hE ⊢
        exact (h4.mp (by omega)) q hq hE
      · exact (h2.mp (by omega)) p q (by omega) hq hE
    · have a1 := h2.mpr (fun p q hp hq hE => g p q (by omega) hq hE)
      have a2 := h4.mpr (fun q hq hE => g n q (by omega) hq hE)
      omega
theorem cq1_b {D : Nat → Nat → Bool} {p : Nat} : ∀ n, cq1 D p n ≤ n
  | 0 => Nat.le_refl _
  | n + 1 => by
    rw [cq1]
    have := cq1_b (D := D) (p := p) n
    split <;> omega
theorem cq2_b {D : Nat → Nat → Bool} : ∀ n, n ≤ 16 → cq2 D n ≤ 16 * n
  | 0, _ => Nat.le_refl _
  | n + 1, hn => by
    rw [cq2]
    have := cq2_b (D := D) n (by omega)
    have := cq1_b (D := D) (p := n) n
    omega
/-- p and q are told_v apart_v by one of the clues of a set -/
def dst2 (C : Nat → Nat) (c s p q : Nat) : Prop := ∃ k, k < c ∧ s / 2 ^ k % 2 = 1 ∧ ¬ C k / 2 ^ p % 2 = C k / 2 ^ q % 2
noncomputable def dsB (C : Nat → Nat) (c s : Nat) (p q : Nat) : Bool := @decide (dst2 C c s p q) (Classical.propDecidable _)
theorem dsB_t {C : Nat → Nat} {c s p q : Nat} : dsB C c s p q = true ↔ dst2 C c s p q := by
  unfold dsB
  exact @decide_eq_true_iff _ (Classical.propDecidable _)
theorem cp27_lp {C : Nat → Nat} {c s p q n : Nat} {M : Mm} {K : Int32 → Mm → Prop} {B4 : Int32 → Int32 → Int32 → Mm → Prop} {B15 : Int32 → Int32 → Int32 → Int32 → Mm → Prop} (hc : c ≤ 8) (ec : M 159 62 = nI c) (hC : ∀ k, k < 8 → C k < 65536 ∧ M 195 k = nI (C k)) (hs : s < 256) (hp : p < 16) (hq : q < 16) (h1 : dst2 C c s p q → B15 (nI s) (nI (n + 1)) (nI p) (nI (q + 1)) M) (h0 : ¬ dst2 C c s p q → B15 (nI s) (nI n) (nI p) (nI (q + 1)) M) : ∀ m k f x5, k + m = c → m < f → ((x5 = 0 ∧ ∀ j, j < k → ¬ (s / 2 ^ j % 2 = 1 ∧ ¬ C j / 2 ^ p % 2 = C j / 2 ^ q % 2)) ∨ (x5 = 1 ∧ dst2 C c s p q)) → T_X12_couplesBy_27 B4 B15 f (nI s) (nI n) (nI p) (nI q) x5 (nI k) M K := by
  intro m
  induction m with
  | zero =>
    intro k f x5 hkm hf hx
    obtain ⟨f, rfl⟩ : ∃ g, f = g + 1 := ⟨f - 1, by omega⟩
    have e : k = c := by omega
    subst e
    rw [T_X12_couplesBy_27, ec]
    simp only [T_X12_couplesBy_92, forall_eq, nI_1]
    refine pk_le k k (fun _ => ?_) (fun z => absurd z (by omega))
    rcases hx with ⟨e, g⟩ | ⟨e, g⟩
    · rw [e]
      exact ⟨fun _ => h0 (fun ⟨j, j1, j2⟩ => g j j1 j2), fun z => absurd rfl z⟩
    · rw [e]
      exact ⟨fun z => absurd z (by decide), fun _ => h1 g⟩
  | succ m ih =>
    intro k f x5 hkm hf hx
    obtain ⟨f, rfl⟩ : ∃ g, f = g + 1 := ⟨f - 1, by omega⟩
    obtain ⟨C1, C2⟩ := hC k (by omega)
    have vk : vp_in (nI k) 8 := vp_in_nI (by omega) (by decide)
    have ck : (nI k).toNatClampNeg = k := nI_clamp (by omega)
    have nx : ¬ (s / 2 ^ k % 2 = 1 ∧ ¬ C k / 2 ^ p % 2 = C k / 2 ^ q % 2) → T_X12_couplesBy_27 B4 B15 f (nI s) (nI n) (nI p) (nI q) x5 (nI (k + 1)) M K := by
      intro g
      refine ih (k + 1) f x5 (by omega) (by omega) ?_
      rcases hx with ⟨e, g2⟩ | g2
      · refine Or.inl ⟨e, fun j hj => ?_⟩
        by_cases cj : j = k
        · rw [cj]; exact g
        · exact g2 j (by omega)
      · exact Or.inr g2
    have ys : s / 2 ^ k % 2 = 1 → ¬ C k / 2 ^ p % 2 = C k / 2 ^ q % 2 → T_X12_couplesBy_27 B4 B15 f (nI s) (nI n) (nI p) (nI q) 1 (nI (k + 1)) M K := fun g1 g2 => ih (k + 1) f 1 (by omega) (by omega) (Or.inr ⟨rfl, k, by omega, g1, g2⟩)
    rw [T_X12_couplesBy_27, ec]
    simp only [T_X12_couplesBy_77, forall_eq, nI_1]
    refine pk_le c k (fun z => absurd z (by omega)) (fun _ => hasM (by omega) (by omega) (fun g1 => ⟨fun z => absurd z (by decide), fun _ => ⟨vk, ?_⟩⟩) (fun g1 => ⟨fun _ => nx (fun z => g1 z.1), fun z => absurd rfl z⟩))
    rw [ck, C2]
    refine hasM (by omega) (by omega) (fun g2 => ⟨vk, ?_⟩) (fun g2 => ⟨vk, ?_⟩)
    · rw [C2]
      exact hasM (by omega) (by omega) (fun g3 => ⟨fun _ => nx (fun z => z.2 (by omega)), fun z => absurd rfl z⟩) (fun g3 => ⟨fun z => absurd z (by decide), fun _ => ys g1 (by omega)⟩)
    · rw [C2]
      exact hasM (by omega) (by omega) (fun g3 => ⟨fun z => absurd z (by decide), fun _ => ys g1 (by omega)⟩) (fun g3 => ⟨fun _ => nx (fun z => z.2 (by omega)), fun z => absurd rfl z⟩)
theorem couples_ok {C : Nat → Nat} {c s np : Nat} {M : Mm} {K : Int32 → Mm → Prop} (hc : c ≤ 8) (hnp : np ≤ 16) (ec : M 159 62 = nI c) (ep : M 159 6 = nI np) (hC : ∀ k, k < 8 → C k < 65536 ∧ M 195 k = nI (C k)) (hs : s < 256) (hK : K (nI (cq2 (dsB C c s) np)) M) : T_X12_couplesBy (nI s) M K := by
  have L1 : ∀ (B : Int32 → Int32 → Int32 → Mm → Prop) p, p < np → B (nI s) (nI (cq2 (dsB C c s) p + cq1 (dsB C c s) p p)) (nI (p + 1)) M → ∀ m q f, q + m = p → m < f → T_X12_couplesBy_15 B f (nI s) (nI (cq2 (dsB C c s) p + cq1 (dsB C c s) p q)) (nI p) (nI q) M K := by
    intro B p hp hB m
    induction m with
    | zero =>
      intro q f hqm hf
      obtain ⟨f, rfl⟩ : ∃ g, f = g + 1 := ⟨f - 1, by omega⟩
      have e : q = p := by omega
      subst e
      rw [T_X12_couplesBy_15]
      refine pk_le q q (fun _ y20 e20 => ?_) (fun z => absurd z (by omega))
      rw [e20, nI_1]
      exact hB
    | succ m ih =>
      intro q f hqm hf
      obtain ⟨f, rfl⟩ : ∃ g, f = g + 1 := ⟨f - 1, by omega⟩
      have := ih (q + 1) f (by omega) (by omega)
      rw [cq1] at this
      rw [T_X12_couplesBy_15]
      refine pk_le p q (fun z => absurd z (by omega)) (fun _ => ?_)
      refine cp27_lp (C := C) hc ec hC hs (by omega) (by omega) (fun g => ?_) (fun g => ?_) c 0 5000 0 (by omega) (by omega) (Or.inl ⟨rfl, fun j hj => absurd hj (by omega)⟩)
      · rw [if_pos (dsB_t.mpr g), ← Nat.add_assoc] at this
        exact this
      · rw [if_neg (fun z => g (dsB_t.mp z)), Nat.add_zero] at this
        exact this
  have L2 : ∀ m p f, p + m = np → m < f → T_X12_couplesBy_4 f (nI s) (nI (cq2 (dsB C c s) p)) (nI p) M K := by
    intro m
    induction m with
    | zero =>
      intro p f hpm hf
      obtain ⟨f, rfl⟩ : ∃ g, f = g + 1 := ⟨f - 1, by omega⟩
      have e : p = np := by omega
      subst e
      rw [T_X12_couplesBy_4, ep]
      exact pk_le p p (fun _ => hK) (fun z => absurd z (by omega))
    | succ m ih =>
      intro p f hpm hf
      obtain ⟨f, rfl⟩ : ∃ g, f = g + 1 := ⟨f - 1, by omega⟩
      rw [T_X12_couplesBy_4, ep]
      refine pk_le np p (fun z => absurd z (by omega)) (fun _ => ?_)
      have := L1 (fun x1 x2 x3 M => T_X12_couplesBy_4 f x1 x2 x3 M K) p (by omega) (ih (p + 1) f (by omega) (by omega)) p 0 5000 (by omega) (by omega)
      rw [cq1, Nat.add_zero] at this
      exact this
  rw [T_X12_couplesBy]
  exact L2 np 0 5000 (by omega) (by omega)
/-- the marks_v of a parcel: by which clues it is in -/
def mrk (C : Nat → Nat) (p : Nat) : Nat → Nat
  | 0 => 0
  | i + 1 => mrk C p i ||| (C i / 2 ^ p % 2 * 2 ^ i)
theorem mrk_lt {C : Nat → Nat} {p : Nat} : ∀ i, i ≤ 8 → mrk C p i < 256
  | 0, _ => by rw [mrk]; omega
  | i + 1, hi => by
    rw [mrk]
    refine Nat.or_lt_two_pow (n := 8) (mrk_lt i (by omega)) ?_
    have h1 : C i / 2 ^ p % 2 ≤ 1 := by omega
    have h2 : C i / 2 ^ p % 2 * 2 ^ i ≤ 1 * 2 ^ i := Nat.mul_le_mul_right _ h1
    have h3 : 2 ^ i < 2 ^ 8 := Nat.pow_lt_pow_right (by omega) (by omega)
    omega
theorem mrk_bit {C : Nat → Nat} {p t : Nat} : ∀ i, (mrk C p i).testBit t = true ↔ (t < i ∧ C t / 2 ^ p % 2 = 1)
  | 0 => by
    rw [mrk, Nat.zero_testBit]
    constructor
    · intro z; cases z
    · rintro ⟨z, -⟩; exact absurd z (by omega)
  | i + 1 => by
    rw [mrk, Nat.testBit_or, Bool.or_eq_true, mrk_bit i]
    have hb : (C i / 2 ^ p % 2 * 2 ^ i).testBit t = true ↔ (t = i ∧ C i / 2 ^ p % 2 = 1) := by
      rcases (by omega : C i / 2 ^ p % 2 = 0 ∨ C i / 2 ^ p % 2 = 1) with z | z
      · rw [z, Nat.zero_mul, Nat.zero_testBit]
        constructor
        · intro w; cases w
        · rintro ⟨-, w⟩; cases w
      · rw [z, Nat.one_mul, Nat.testBit_two_pow, decide_eq_true_iff]
        exact ⟨fun w => ⟨w.symm, rfl⟩, fun w => w.1.symm⟩
    rw [hb]
    constructor
    · rintro (⟨h1, h2⟩ | ⟨h1, h2⟩)
      · exact ⟨by omega, h2⟩
      · rw [h1]; exact ⟨by omega, h2⟩
    · rintro ⟨h1, h2⟩
      by_cases c : t = i
      · rw [c] at h2; exact Or.inr ⟨c, h2⟩
      · exact Or.inl ⟨by omega, h2⟩
theorem mrk_and {C : Nat → Nat} {c s p q : Nat} : ¬ (mrk C p c &&& s) = (mrk C q c &&& s) ↔ dst2 C c s p q := by
  constructor
  · intro h
    refine Classical.byContradiction fun hn => h (Nat.eq_of_testBit_eq fun i => ?_)
    rw [Nat.testBit_and, Nat.testBit_and]
    by_cases hs : s.testBit i = true
    · rw [hs, Bool.and_true, Bool.and_true]
      have key : (mrk C p c).testBit i = true ↔ (mrk C q c).testBit i = true := by
        rw [mrk_bit, mrk_bit]
        constructor
        · rintro ⟨h1, h2⟩
          refine ⟨h1, Classical.byContradiction fun z => hn ⟨i, h1, bit_tb.mpr hs, fun w => z (by omega)⟩⟩
        · rintro ⟨h1, h2⟩
          refine ⟨h1, Classical.byContradiction fun z => hn ⟨i, h1, bit_tb.mpr hs, fun w => z (by omega)⟩⟩
      exact Bool.eq_iff_iff.mpr key
    · have : s.testBit i = false := by simpa using hs
      rw [this, Bool.and_false, Bool.and_false]
  · rintro ⟨k, h1, h2, h3⟩ e
    have e2 : (mrk C p c &&& s).testBit k = (mrk C q c &&& s).testBit k := by rw [e]
    rw [Nat.testBit_and, Nat.testBit_and, bit_tb.mp h2, Bool.and_true, Bool.and_true] at e2
    have key := Bool.eq_iff_iff.mp e2
    rw [mrk_bit, mrk_bit] at key
    refine h3 ?_
    rcases (by omega : C k / 2 ^ p % 2 = 0 ∨ C k / 2 ^ p % 2 = 1) with z | z
    · rcases (by omega : C k / 2 ^ q % 2 = 0 ∨ C k / 2 ^ q % 2 = 1) with w | w
      · omega
      · have := (key.mpr ⟨h1, w⟩).2
        omega
    · have := (key.mp ⟨h1, z⟩).2
      omega
theorem mrk_ne {C : Nat → Nat} {c p q : Nat} (hc : c ≤ 8) : ¬ mrk C p c = mrk C q c ↔ dst2 C c (2 ^ c - 1) p q := by
  have hf : ∀ r, mrk C r c &&& (2 ^ c - 1) = mrk C r c := fun r => by
    apply Nat.eq_of_testBit_eq
    intro i
    rw [Nat.testBit_and, Nat.testBit_two_pow_sub_one]
    by_cases h : i < c
    · rw [decide_eq_true h, Bool.and_true]
    · rw [decide_eq_false h, Bool.and_false]
      cases hz : (mrk C r c).testBit i with
      | false => rfl
      | true => exact absurd (mrk_bit c |>.mp hz).1 h
  rw [← mrk_and, hf, hf]
theorem tells_ok {C : Nat → Nat} {c s np : Nat} {M : Mm} {K : Int32 → Mm → Prop} (hc : c ≤ 8) (hnp : np ≤ 16) (hs : s < 256) (hm : ∀ p, p < np → M 157 p = nI (mrk C p c)) (h1 : (∀ p q, p < np → q < p → dst2 C c (2 ^ c - 1) p q → dst2 C c s p q) → K 1 M) (h0 : ¬ (∀ p q, p < np → q < p → dst2 C c (2 ^ c - 1) p q → dst2 C c s p q) → K 0 M) : T_X8_tellsAll (nI s) (nI np) M K := by
  have L1 : ∀ (B : Int32 → Int32 → Int32 → Mm → Prop) p, p < np → ((∀ q, q < p → dst2 C c (2 ^ c - 1) p q → dst2 C c s p q) → B (nI s) (nI np) (nI (p + 1)) M) → ∀ m q f, q + m = p → m < f → (∀ r, r < q → dst2 C c (2 ^ c - 1) p r → dst2 C c s p r) → T_X8_tellsAll_16 B f (nI s) (nI np) (nI p) (nI q) M K := by
    intro B p hp hB m
    induction m with
    | zero =>
      intro q f hqm hf hr
      obtain ⟨f, rfl⟩ : ∃ g, f = g + 1 := ⟨f - 1, by omega⟩
      have e : q = p := by omega
      subst e
      rw [T_X8_tellsAll_16]
      refine pk_le q q (fun _ y3 e3 => ?_) (fun z => absurd z (by omega))
      rw [e3, nI_1]
      exact hB hr
    | succ m ih =>
      intro q f hqm hf hr
      obtain ⟨f, rfl⟩ : ∃ g, f = g + 1 := ⟨f - 1, by omega⟩
      have l1 := mrk_lt (C := C) (p := p) c hc
      have l2 := mrk_lt (C := C) (p := q) c hc
      have a1 : mrk C p c &&& s ≤ mrk C p c := Nat.and_le_left
      have a2 : mrk C q c &&& s ≤ mrk C q c := Nat.and_le_left
      have vp : vp_in (nI p) 16 := vp_in_nI (by omega) (by decide)
      have vq : vp_in (nI q) 16 := vp_in_nI (by omega) (by decide)
      have nx : (dst2 C c (2 ^ c - 1) p q → dst2 C c s p q) → T_X8_tellsAll_16 B f (nI s) (nI np) (nI p) (nI (q + 1)) M K := fun g => ih (q + 1) f (by omega) (by omega) (fun r hr2 hd => by
        by_cases cr : r = q
        · rw [cr] at hd ⊢; exact g hd
        · exact hr r (by omega) hd)
      rw [T_X8_tellsAll_16, nI_clamp (n := p) (by omega), nI_clamp (n := q) (by omega), hm p hp, hm q (by omega), nx_and, nx_and]
      simp only [T_X8_tellsAll_60, forall_eq, nI_1]
      refine pk_le p q (fun z => absurd z (by omega)) (fun _ => ⟨vp, vq, pk_eq (mrk C p c) (mrk C q c) (fun e => nx (fun z => absurd e ((mrk_ne hc).mpr z))) (fun e => ⟨vp, vq, pk_eq (mrk C p c &&& s) (mrk C q c &&& s) (fun e2 => h0 (fun g => ?_)) (fun e2 => nx (fun _ => mrk_and.mp e2))⟩)⟩)
      exact mrk_and.mpr (g p q hp (by omega) ((mrk_ne hc).mp e)) e2
  have L2 : ∀ m p f, p + m = max np 1 → 1 ≤ p → m < f → (∀ r q, r < p → q < r → dst2 C c (2 ^ c - 1) r q → dst2 C c s r q) → T_X8_tellsAll_2 f (nI s) (nI np) (nI p) M K := by
    intro m
    induction m with
    | zero =>
      intro p f hpm hp1 hf hr
      obtain ⟨f, rfl⟩ : ∃ g, f = g + 1 := ⟨f - 1, by omega⟩
      rw [T_X8_tellsAll_2]
      exact pk_le np p (fun _ => h1 (fun r q hr1 hq => hr r q (by omega) hq)) (fun z => absurd z (by omega))
    | succ m ih =>
      intro p f hpm hp1 hf hr
      obtain ⟨f, rfl⟩ : ∃ g, f = g + 1 := ⟨f - 1, by omega⟩
      rw [T_X8_tellsAll_2]
      refine pk_le np p (fun z => absurd z (by omega)) (fun _ => pk_le 16 p (fun z => absurd z (by omega)) (fun _ => ?_))
      exact L1 (fun x1 x2 x3 M => T_X8_tellsAll_2 f x1 x2 x3 M K) p (by omega) (fun g => ih (p + 1) f (by omega) (by omega) (by omega) (fun r q hr1 hq hd => by
        by_cases cr : r = p
        · rw [cr] at hq hd ⊢; exact g q hq hd
        · exact hr r q (by omega) hq hd)) p 0 5000 (by omega) (by omega) (fun r hr2 => absurd hr2 (by omega))
  rw [T_X8_tellsAll]
  exact L2 (max np 1 - 1) 1 5000 (by omega) (by omega) (by omega) (fun r q hr hq => by omega)
/-- the class makes its marks_v -/
theorem marks_ok {C : Nat → Nat} {c np : Nat} {X Z : Mm} {K : Int32 → Mm → Prop} (hc : c ≤ 8) (hnp : np ≤ 16) (hC : ∀ k, k < 8 → C k < 65536 ∧ X 37 k = nI (C k)) (hK : ∀ X', (∀ a, a ≠ 157 → X' a = X a) → (∀ p, p < np → X' 157 p = nI (mrk C p c)) → T_X8_fewestClues_88 30 5000 (nI c) (nI np) (nI c) 0 (jn X' Z) K) : ∀ m p f X1, p + m = np → m < f → (∀ a, a ≠ 157 → X1 a = X a) → (∀ r, r < p → X1 157 r = nI (mrk C r c)) → T_X8_fewestClues_21 30 f (nI c) (nI np) (nI p) (jn X1 Z) K := by
  have r37 : rf 30 6 = 37 := by decide
  have L1 : ∀ (B : Int32 → Int32 → Int32 → Mm → Prop) p, p < np → ∀ m i f X1, i + m = c → m < f → (∀ a, a ≠ 157 → X1 a = X a) → X1 157 p = nI (mrk C p i) → (∀ X', (∀ a j, ¬ (a = 157 ∧ j = p) → X' a j = X1 a j) → X' 157 p = nI (mrk C p c) → B (nI c) (nI np) (nI (p + 1)) (jn X' Z)) → T_X8_fewestClues_39 B 30 f (nI c) (nI np) (nI p) (nI i) (jn X1 Z) K := by
    intro B p hp m
    induction m with
    | zero =>
      intro i f X1 him hf h1 h2 hB
      obtain ⟨f, rfl⟩ : ∃ g, f = g + 1 := ⟨f - 1, by omega⟩
      have e : i = c := by omega
      subst e
      rw [T_X8_fewestClues_39]
      refine pk_le i i (fun _ y15 e15 => ?_) (fun z => absurd z (by omega))
      rw [e15, nI_1]
      exact hB X1 (fun _ _ _ => rfl) h2
    | succ m ih =>
      intro i f X1 him hf h1 h2 hB
      obtain ⟨f, rfl⟩ : ∃ g, f = g + 1 := ⟨f - 1, by omega⟩
      obtain ⟨C1, C2⟩ := hC i (by omega)
      have vp : vp_in (nI p) 16 := vp_in_nI (by omega) (by decide)
      have C2' : jn X1 Z 37 i = nI (C i) := by rw [jl _ (by omega), h1 37 (by omega)]; exact C2
      have h2' : jn X1 Z 157 p = nI (mrk C p i) := by rw [jl _ (by omega)]; exact h2
      have hsh : nI (C i / 2 ^ p % 2) <<< (nI i &&& 31) = nI (C i / 2 ^ p % 2 * 2 ^ i) := pk_shlN _ i (s_l i (by omega)) (by
        have a1 : C i / 2 ^ p % 2 ≤ 1 := by omega
        have a2 : C i / 2 ^ p % 2 * 2 ^ i ≤ 1 * 2 ^ i := Nat.mul_le_mul_right _ a1
        have a3 : 2 ^ i < 2 ^ 8 := Nat.pow_lt_pow_right (by omega) (by omega)
        omega)
      rw [T_X8_fewestClues_39, r37, nI_clamp (n := p) (by omega), nI_clamp (n := i) (by omega), C2', h2', bit_c (by omega) (by omega), hsh, nx_or]
      refine pk_le c i (fun z => absurd z (by omega)) (fun _ => ⟨vp, vp_in_nI (by omega) (by decide), vp, fun M18 e18 y20 e20 => ?_⟩)
      rw [e18, e20, nI_1, jn_upl (by omega)]
      refine ih (i + 1) f _ (by omega) (by omega) (fun a ha => by rw [m_up_ne ha, h1 a ha]) (by rw [mu, if_pos ⟨rfl, rfl⟩, mrk]) (fun X' z1 z2 => hB X' (fun a j w => by rw [z1 a j w, mu, if_neg w]) z2)
  intro m
  induction m with
  | zero =>
    intro p f X1 hpm hf h1 h2
    obtain ⟨f, rfl⟩ : ∃ g, f = g + 1 := ⟨f - 1, by omega⟩
    have e : p = np := by omega
    subst e
    rw [T_X8_fewestClues_21]
    exact pk_le p p (fun _ => hK X1 h1 h2) (fun z => absurd z (by omega))
  | succ m ih =>
    intro p f X1 hpm hf h1 h2
    obtain ⟨f, rfl⟩ : ∃ g, f = g + 1 := ⟨f - 1, by omega⟩
    rw [T_X8_fewestClues_21, nI_clamp (n := p) (by omega)]
    refine pk_le np p (fun z => absurd z (by omega)) (fun _ => ⟨vp_in_nI (by omega) (by decide), fun M22 e22 => ?_⟩)
    rw [e22, jn_upl (by omega)]
    refine L1 _ p (by omega) c 0 5000 _ (by omega) (by omega) (fun a ha => by rw [m_up_ne ha, h1 a ha]) (by rw [mu, if_pos ⟨rfl, rfl⟩]; rfl) (fun X' z1 z2 => ih (p + 1) f X' (by omega) (by omega) (fun a ha => funext fun j => by rw [z1 a j (fun w => ha w.1), m_up_ne ha, h1 a ha]) (fun r hr => ?_))
    by_cases cr : r = p
    · rw [cr]; exact z2
    · rw [z1 157 r (by omega), mu, if_neg (by omega)]; exact h2 r (by omega)
set_option maxHeartbeats 1000000 in
theorem ay_which {N : Nat} {M : Mm} (h : Inv N M) (x : Int32) : Ay (T_X11_which x) (T_X12_which x) N M := by
  have hf := h.t0 (x := 0)
  obtain ⟨np, nb, ⟨hC0, -, -, -, -, hT⟩, -, -⟩ := id h
  have ep : M 2 0 = nI np := hC0.1.2.2.1
  have hp : np ≤ 16 := hC0.1.2.2.2.2.1
  have ep2 : M 159 6 = nI np := hC0.1.1.trans ep
  have ep3 : m_up M 159 0 0 159 6 = nI np := by simpa [mu] using ep2
  obtain ⟨-, -, -, -, -, -, ⟨e1, ⟨c, hc, ec⟩, t3⟩, -⟩ := hT
  have ec : M 30 12 = nI c := ec
  have ec1 : M 159 62 = nI c := e1.trans ec
  have ec2 : m_up M 159 0 0 159 62 = nI c := by simpa [mu] using ec1
  have hp2 : 2 ^ c ≤ 2 ^ 8 := Nat.pow_le_pow_right (by omega) hc
  have hp1 : 1 ≤ 2 ^ c := Nat.two_pow_pos c
  have n16 : ¬ (16 : Int32) < nI np := nI_nlt (a := 16) hp (by decide)
  have n8 : ¬ (8 : Int32) < nI c := nI_nlt (a := 8) hc (by decide)
  by_cases c0 : x = 0
  · subst c0
    have r38 : rf 30 7 = 38 ∧ rf 30 6 = 37 := by decide
    have lp : ∀ m i y, i + m = c → ∃ r : Int32, (∀ (K : Int32 → Mm → Prop) (f : Nat), m < f → K r M → T_X8_matching_14 30 f y (nI i) M K) ∧ (∀ (K : Int32 → Mm → Prop) (f : Nat), m < f → K r (m_up M 159 0 0) → T_X12_which_38 f y (nI i) (m_up M 159 0 0) K) := by
      intro m
      induction m with
      | zero =>
        intro i y him
        have e : i = c := by omega
        subst e
        refine ⟨y, fun K f hf q => ?_, fun K f hf q => ?_⟩
        · obtain ⟨f, rfl⟩ : ∃ g, f = g + 1 := ⟨f - 1, by omega⟩
          rw [T_X8_matching_14, ec]
          exact pk_le i i (fun _ => q) (fun z => absurd z (by omega))
        · obtain ⟨f, rfl⟩ : ∃ g, f = g + 1 := ⟨f - 1, by omega⟩
          rw [T_X12_which_38, ec2]
          exact pk_le i i (fun _ => q) (fun z => absurd z (by omega))
      | succ m ih =>
        intro i y him
        have vi : vp_in (nI i) 8 := vp_in_nI (by omega) (by decide)
        have ci : (nI i).toNatClampNeg = i := nI_clamp (by omega)
        obtain ⟨a1, a2, -⟩ := t3 i (by omega)
        have a1 : m_up M 159 0 0 195 i = M 37 i := by rw [m_up_ne (by omega)]; exact a1
        have a2 : m_up M 159 0 0 196 i = M 38 i := by rw [m_up_ne (by omega)]; exact a2
        by_cases cc : M 38 i = 1
        · obtain ⟨r, i1, i2⟩ := ih (i + 1) (y &&& M 37 i) (by omega)
          refine ⟨r, fun K f hf q => ?_, fun K f hf q => ?_⟩
          · obtain ⟨f, rfl⟩ : ∃ g, f = g + 1 := ⟨f - 1, by omega⟩
            rw [T_X8_matching_14, ec, r38.1, r38.2, ci]
            simp only [T_X8_matching_61, forall_eq, nI_1]
            exact pk_le c i (fun z => absurd z (by omega)) (fun _ => pk_le 8 i (fun z => absurd z (by omega)) (fun _ => ⟨vi, fun _ => ⟨vi, i1 K f (by omega) q⟩, fun z => absurd cc z⟩))
          · obtain ⟨f, rfl⟩ : ∃ g, f = g + 1 := ⟨f - 1, by omega⟩
            rw [T_X12_which_38, ec2, ci, a1, a2]
            simp only [T_X12_which_74, forall_eq, nI_1]
            exact pk_le c i (fun z => absurd z (by omega)) (fun _ => ⟨vi, fun _ => ⟨vi, i2 K f (by omega) q⟩, fun z => absurd cc z⟩)
        · obtain ⟨r, i1, i2⟩ := ih (i + 1) (y &&& (M 37 i ^^^ -1)) (by omega)
          refine ⟨r, fun K f hf q => ?_, fun K f hf q => ?_⟩
          · obtain ⟨f, rfl⟩ : ∃ g, f = g + 1 := ⟨f - 1, by omega⟩
            rw [T_X8_matching_14, ec, r38.1, r38.2, ci]
            simp only [T_X8_matching_61, forall_eq, nI_1]
            exact pk_le c i (fun z => absurd z (by omega)) (fun _ => pk_le 8 i (fun z => absurd z (by omega)) (fun _ => ⟨vi, fun z => absurd z cc, fun _ => ⟨vi, i1 K f (by omega) q⟩⟩))
          · obtain ⟨f, rfl⟩ : ∃ g, f = g + 1 := ⟨f - 1, by omega⟩
            rw [T_X12_which_38, ec2, ci, a1, a2]
            simp only [T_X12_which_74, forall_eq, nI_1]
            exact pk_le c i (fun z => absurd z (by omega)) (fun _ => ⟨vi, fun z => absurd z cc, fun _ => ⟨vi, i2 K f (by omega) q⟩⟩)
    obtain ⟨r, i1, i2⟩ := lp c 0 ((1 : Int32) <<< (nI np &&& 31) - 1) (by omega)
    have ci : (0 : Int32) ≤ 0 ∧ (0 : Int32) ≤ 1 := by decide
    refine Ah.ay (Ag.ah ⟨r, M, m_up M 159 0 0, fun K q => ?_, fun K q => ?_, hf⟩)
    · rw [T_X11_which]
      refine ⟨fun _ => ?_, fun z => absurd rfl z⟩
      rw [T_X8_matching, ep, if_neg n16]
      intro y9 e9
      rw [e9]
      exact i1 _ 5000 (by omega) q
    · rw [T_X12_which]
      intro M1 f1
      subst f1
      rw [ii_pos ci, ep3]
      refine ⟨fun z => absurd z (by decide), fun _ => ⟨fun z => absurd z (by decide), fun _ y14 e14 => ?_⟩⟩
      rw [e14]
      exact i2 K 5000 (by omega) q
  by_cases c1 : x = 1
  rotate_left
  · have cn : ¬ ((0 : Int32) ≤ x ∧ x ≤ 1) := fun z => by
      obtain ⟨k, -, hk, e⟩ := rng (a := 0) (b := 1) (by decide) (by decide) z
      rcases (show k = 0 ∨ k = 1 by omega) with rfl | rfl
      · exact c0 e
      · exact c1 e
    exact Ah.ay (Ag.ah ⟨-1, M, _, fun K q => by simpa [T_X11_which, c0, c1] using q, fun K q => by simpa [T_X12_which, ii_neg cn] using q, hf⟩)
  subst c1
  obtain ⟨C, eC⟩ : ∃ C : Nat → Nat, C = fun i => (M 37 i).toNatClampNeg := ⟨_, rfl⟩
  have hCx : ∀ k, k < 8 → C k < 65536 ∧ M 37 k = nI (C k) := fun k hk => by
    obtain ⟨-, -, v, hv, ev⟩ := t3 k hk
    have ev : M 37 k = nI v := ev
    rw [eC]
    show (M 37 k).toNatClampNeg < 65536 ∧ M 37 k = nI (M 37 k).toNatClampNeg
    rw [ev, nI_clamp (by omega)]
    exact ⟨by omega, rfl⟩
  have hCy : ∀ k, k < 8 → C k < 65536 ∧ m_up M 159 0 0 195 k = nI (C k) := fun k hk => ⟨(hCx k hk).1, by rw [m_up_ne (by omega)]; exact ((t3 k hk).1).trans (hCx k hk).2⟩
  intro K1 k
  have sub : ∀ s p q, dsB C c s p q = true → dsB C c (2 ^ c - 1) p q = true := fun s p q z => by
    obtain ⟨j, j1, j2, j3⟩ := dsB_t.mp z
    refine dsB_t.mpr ⟨j, j1, ?_, j3⟩
    rw [bit_tb, Nat.testBit_two_pow_sub_one]
    exact decide_eq_true j1
  have all2 : ∀ s, cq2 (dsB C c s) np = cq2 (dsB C c (2 ^ c - 1)) np ↔ ∀ p q, p < np → q < p → dst2 C c (2 ^ c - 1) p q → dst2 C c s p q := fun s => by
    rw [(cq2_le (sub s) np).2]
    constructor
    · intro g p q hp hq hd
      exact dsB_t.mp (g p q hp hq (dsB_t.mpr hd))
    · intro g p q hp hq hd
      exact dsB_t.mpr (g p q hp hq (dsB_t.mp hd))
  have nm : ∀ s, cq2 (dsB C c s) np ≤ 256 := fun s => by have := cq2_b (D := dsB C c s) np hp; omega
  have ci : (0 : Int32) ≤ 1 ∧ (1 : Int32) ≤ 1 := by decide
  -- the loop over the sets, both_v sides
  have lp : ∀ (X' : Mm), (∀ p, p < np → X' 157 p = nI (mrk C p c)) → ∀ m s b, s + m = 2 ^ c → b ≤ 8 → ∃ r : Int32, (∀ (Z : Mm) (K : Int32 → Mm → Prop) (f : Nat), m < f → K r (jn X' Z) → T_X8_fewestClues_88 30 f (nI c) (nI np) (nI b) (nI s) (jn X' Z) K) ∧ (∀ (Z : Mm) (K : Int32 → Mm → Prop) (f : Nat), m < f → K r (jn Z (m_up M 159 0 0)) → T_X12_fewestParts_20 f (nI (cq2 (dsB C c (2 ^ c - 1)) np)) (nI b) (nI s) (jn Z (m_up M 159 0 0)) K) := by
    intro X' hm m
    induction m with
    | zero =>
      intro s b hsm hb
      have e : s = 2 ^ c := by omega
      subst e
      refine ⟨nI b, fun Z K f hf q => ?_, fun Z K f hf q => ?_⟩
      · obtain ⟨f, rfl⟩ : ∃ g, f = g + 1 := ⟨f - 1, by omega⟩
        rw [T_X8_fewestClues_88, shl_c (by omega)]
        exact pk_le (2 ^ c) (2 ^ c) (fun _ => q) (fun z => absurd z (by omega))
      · obtain ⟨f, rfl⟩ : ∃ g, f = g + 1 := ⟨f - 1, by omega⟩
        rw [T_X12_fewestParts_20, jh 62 (by omega), ec2, shl_c (by omega)]
        exact pk_le (2 ^ c) (2 ^ c) (fun _ => q) (fun z => absurd z (by omega))
    | succ m ih =>
      intro s b hsm hb
      have hs : s < 256 := by omega
      have hpc : pcn s ≤ 16 := by unfold pcn; omega
      have ebc : bcf (nI s) = nI (pcn s) := bcf_ok s hs
      have cS : ∀ (Z : Mm) (K : Int32 → Mm → Prop) (f : Nat), ((b ≤ pcn s → T_X8_fewestClues_88 30 f (nI c) (nI np) (nI b) (nI (s + 1)) (jn X' Z) K) ∧ (pcn s < b → ((∀ p q, p < np → q < p → dst2 C c (2 ^ c - 1) p q → dst2 C c s p q) → T_X8_fewestClues_88 30 f (nI c) (nI np) (nI (pcn s)) (nI (s + 1)) (jn X' Z) K) ∧ (¬ (∀ p q, p < np → q < p → dst2 C c (2 ^ c - 1) p q → dst2 C c s p q) → T_X8_fewestClues_88 30 f (nI c) (nI np) (nI b) (nI (s + 1)) (jn X' Z) K))) → T_X8_fewestClues_88 30 (f + 1) (nI c) (nI np) (nI b) (nI s) (jn X' Z) K := by
        intro Z K f g
        rw [T_X8_fewestClues_88, shl_c (by omega)]
        simp only [T_X8_fewestClues_124, forall_eq, nI_1]
        refine pk_le (2 ^ c) s (fun z => absurd z (by omega)) (fun _ => bitCount_ok ?_)
        rw [ebc]
        refine pk_le b (pcn s) (fun w => g.1 w) (fun w => ?_)
        refine tells_ok (C := C) hc hp hs (fun p hp2 => by rw [jl _ (by omega)]; exact hm p hp2) (fun w2 => ⟨fun z => absurd z (by decide), fun _ => bitCount_ok ?_⟩) (fun w2 => ⟨fun _ => (g.2 w).2 w2, fun z => absurd rfl z⟩)
        rw [ebc]
        exact (g.2 w).1 w2
      have mS : ∀ (Z : Mm) (K : Int32 → Mm → Prop) (f : Nat), ((b ≤ pcn s → T_X12_fewestParts_20 f (nI (cq2 (dsB C c (2 ^ c - 1)) np)) (nI b) (nI (s + 1)) (jn Z (m_up M 159 0 0)) K) ∧ (pcn s < b → ((∀ p q, p < np → q < p → dst2 C c (2 ^ c - 1) p q → dst2 C c s p q) → T_X12_fewestParts_20 f (nI (cq2 (dsB C c (2 ^ c - 1)) np)) (nI (pcn s)) (nI (s + 1)) (jn Z (m_up M 159 0 0)) K) ∧ (¬ (∀ p q, p < np → q < p → dst2 C c (2 ^ c - 1) p q → dst2 C c s p q) → T_X12_fewestParts_20 f (nI (cq2 (dsB C c (2 ^ c - 1)) np)) (nI b) (nI (s + 1)) (jn Z (m_up M 159 0 0)) K))) → T_X12_fewestParts_20 (f + 1) (nI (cq2 (dsB C c (2 ^ c - 1)) np)) (nI b) (nI s) (jn Z (m_up M 159 0 0)) K := by
        intro Z K f g
        rw [T_X12_fewestParts_20, jh 62 (by omega), ec2, shl_c (by omega)]
        simp only [T_X12_fewestParts_54, forall_eq, nI_1]
        refine pk_le (2 ^ c) s (fun z => absurd z (by omega)) (fun _ => ones_ok hs (pk_le b (pcn s) (fun w => g.1 w) (fun w => ?_)))
        have n1 := nm s
        have n2 := nm (2 ^ c - 1)
        refine couples_ok (C := C) (c := c) (np := np) hc hp (by rw [jh 62 (by omega)]; exact ec2) (by rw [jh 6 (by omega)]; exact ep3) (fun j hj => by rw [jh j (by omega)]; exact hCy j hj) hs (pk_eq (cq2 (dsB C c s) np) (cq2 (dsB C c (2 ^ c - 1)) np) (fun e => ones_ok hs ((g.2 w).1 ((all2 s).mp e))) (fun e => (g.2 w).2 (fun z => e ((all2 s).mpr z))))
      by_cases d1 : b ≤ pcn s
      · obtain ⟨r, i1, i2⟩ := ih (s + 1) b (by omega) hb
        refine ⟨r, fun Z K f hf q => ?_, fun Z K f hf q => ?_⟩
        · obtain ⟨f, rfl⟩ : ∃ g, f = g + 1 := ⟨f - 1, by omega⟩
          exact cS Z K f ⟨fun _ => i1 Z K f (by omega) q, fun w => absurd w (by omega)⟩
        · obtain ⟨f, rfl⟩ : ∃ g, f = g + 1 := ⟨f - 1, by omega⟩
          exact mS Z K f ⟨fun _ => i2 Z K f (by omega) q, fun w => absurd w (by omega)⟩
      · by_cases d2 : ∀ p q, p < np → q < p → dst2 C c (2 ^ c - 1) p q → dst2 C c s p q
        · obtain ⟨r, i1, i2⟩ := ih (s + 1) (pcn s) (by omega) (by omega)
          refine ⟨r, fun Z K f hf q => ?_, fun Z K f hf q => ?_⟩
          · obtain ⟨f, rfl⟩ : ∃ g, f = g + 1 := ⟨f - 1, by omega⟩
            exact cS Z K f ⟨fun w => absurd w d1, fun _ => ⟨fun _ => i1 Z K f (by omega) q, fun w => absurd d2 w⟩⟩
          · obtain ⟨f, rfl⟩ : ∃ g, f = g + 1 := ⟨f - 1, by omega⟩
            exact mS Z K f ⟨fun w => absurd w d1, fun _ => ⟨fun _ => i2 Z K f (by omega) q, fun w => absurd d2 w⟩⟩
        · obtain ⟨r, i1, i2⟩ := ih (s + 1) b (by omega) hb
          refine ⟨r, fun Z K f hf q => ?_, fun Z K f hf q => ?_⟩
          · obtain ⟨f, rfl⟩ : ∃ g, f = g + 1 := ⟨f - 1, by omega⟩
            exact cS Z K f ⟨fun w => absurd w d1, fun _ => ⟨fun w => absurd w d2, fun _ => i1 Z K f (by omega) q⟩⟩
          · obtain ⟨f, rfl⟩ : ∃ g, f = g + 1 := ⟨f - 1, by omega⟩
            exact mS Z K f ⟨fun w => absurd w d1, fun _ => ⟨fun w => absurd w d2, fun _ => i2 Z K f (by omega) q⟩⟩
  have cls : T_X11_which 1 (jn M M) K1 := by
    rw [T_X11_which]
    refine ⟨fun z => absurd z (by decide), fun _ => ⟨fun _ => ?_, fun z => absurd rfl z⟩⟩
    rw [T_X8_fewestClues, jl 0 (by omega), jl 12 (by omega), ep, ec, if_neg n16, if_neg n8]
    intro y24 e24 y25 e25
    rw [e24, e25]
    refine marks_ok (C := C) hc hp hCx (fun X' z1 z2 => ?_) np 0 5000 M (by omega) (by omega) (fun _ _ => rfl) (fun r hr => absurd hr (by omega))
    obtain ⟨r, i1, i2⟩ := lp X' z2 (2 ^ c) 0 c (by omega) hc
    refine i1 M _ 5000 (by omega) (k r _ (fun K2 k2 => ?_))
    rw [T_X12_which]
    intro M1 f1
    rw [jn_uph (by omega)] at f1
    subst f1
    rw [ii_pos ci]
    refine ⟨fun z => absurd z (by decide), fun _ => ⟨fun _ => ?_, fun z => absurd rfl z⟩⟩
    have hsub : nI (2 ^ c) - 1 = nI (2 ^ c - 1) := by rw [show (1 : Int32) = nI 1 from rfl, pk_sub hp1]
    rw [T_X12_fewestParts, jh 62 (by omega), ec2, shl_c (by omega), hsub]
    refine couples_ok (C := C) (c := c) (np := np) hc hp (by rw [jh 62 (by omega)]; exact ec2) (by rw [jh 6 (by omega)]; exact ep3) (fun j hj => by rw [jh j (by omega)]; exact hCy j hj) (by omega) (fun y17 e17 => ?_)
    rw [jh 62 (by omega), ec2] at e17
    rw [e17]
    refine i2 X' _ 5000 (by omega) (k2 _ ((h.fr (fun a j hfa => ?_)).mono (by omega)))
    have h1 : a ≠ 157 := fun w => by rw [w] at hfa; cases hfa
    by_cases ha : a < 159
    · rw [jl j ha, z1 a h1]
    · rw [jh j (by omega), mu, if_neg (fun w => by rw [w.1, w.2] at hfa; cases hfa)]
  rw [jn_self] at cls
  exact cls
