/-! TEXT: both_v at token i -/
def tkc (c : Nat) : Prop := c = 0 ∨ c = 1 ∨ (256 ≤ c ∧ c ≤ 283) ∨ (1000 ≤ c ∧ c ≤ 10999) ∨ isSn c
theorem TS.c {ch : Nat → Nat} {k n : Nat} {tk ps en : Nat → Nat} (h : TS ch k n tk ps en) {i : Nat} (hi : i ≤ n) : tkc (tk i) := by
  obtain ⟨s1, s2, s3, s4, s5, s6, s7, s8⟩ := h
  by_cases c : i = n
  · rw [c, s6]; exact Or.inl rfl
  · obtain ⟨t1, t2, t3, t4, t5, t6⟩ := s3 i (by omega)
    rcases t5 with ⟨q, ⟨w, w1, w2, w3, w4⟩ | ⟨-, w⟩⟩ | ⟨q, ⟨-, w⟩ | ⟨w1, w⟩⟩ | ⟨-, -, ⟨w1, w⟩ | ⟨-, w⟩⟩
    · exact Or.inr (Or.inr (Or.inl (by omega)))
    · exact Or.inr (Or.inl w)
    · exact Or.inr (Or.inl w)
    · have := dvl_4 w1 (fun t ht => (t4.2.2.2.1 q).1 (ps i + t) (by omega) (by have := t4.1; omega))
      exact Or.inr (Or.inr (Or.inr (Or.inl (by omega))))
    · rw [w]; exact Or.inr (Or.inr (Or.inr (Or.inr w1)))
    · exact Or.inr (Or.inl w)
theorem TS.z {ch : Nat → Nat} {k n : Nat} {tk ps en : Nat → Nat} (h : TS ch k n tk ps en) {i : Nat} (hi : i ≤ n) (hz : ¬ tk i = 0) : i < n := by
  have h6 := h.2.2.2.2.2.1
  rcases Nat.lt_or_ge i n with z | z
  · exact z
  · rw [show i = n by omega] at hz
    exact absurd h6 hz
theorem TS.n {ch : Nat → Nat} {k n : Nat} {tk ps en : Nat → Nat} (h : TS ch k n tk ps en) : n ≤ 400 := by
  have h1 := h.1
  have h2 := h.2.1
  omega
theorem isSn_le {c : Nat} (h : isSn c) : 40 ≤ c ∧ c ≤ 62 := by unfold isSn at h; omega
theorem tkc_b {c : Nat} (h : tkc c) : c ≤ 10999 := by
  rcases h with h | h | h | h | h
  · omega
  · omega
  · omega
  · omega
  · have := isSn_le h; omega
theorem tR_w {c : Nat} {kd vl : Int32} (h : tokR c kd vl) (h1 : 256 ≤ c) (h2 : c ≤ 283) : kd = 2 ∧ vl = nI (c - 256) := by
  rcases h with ⟨a, b⟩ | ⟨a, b⟩ | ⟨w, a, b, d, e⟩ | ⟨v, a, b, d, e⟩ | ⟨a, b, d⟩
  · omega
  · omega
  · exact ⟨d, by rw [show c - 256 = w by omega]; exact e⟩
  · omega
  · have := isSn_le a; omega
theorem tR_n {c : Nat} {kd vl : Int32} (h : tokR c kd vl) (h1 : 1000 ≤ c) : kd = 3 ∧ vl = nI (c - 1000) := by
  rcases h with ⟨a, b⟩ | ⟨a, b⟩ | ⟨w, a, b, d, e⟩ | ⟨v, a, b, d, e⟩ | ⟨a, b, d⟩
  · omega
  · omega
  · omega
  · exact ⟨d, by rw [show c - 1000 = v by omega]; exact e⟩
  · have := isSn_le a; omega
theorem tR_s {c : Nat} {kd vl : Int32} (h : tokR c kd vl) (h1 : isSn c) : kd = 4 ∧ vl = nI c := by
  have h2 := isSn_le h1
  rcases h with ⟨a, b⟩ | ⟨a, b⟩ | ⟨w, a, b, d, e⟩ | ⟨v, a, b, d, e⟩ | ⟨a, b, d⟩
  · omega
  · omega
  · omega
  · omega
  · exact ⟨b, d⟩
theorem tR_0 {c : Nat} {kd vl : Int32} (h : tokR c kd vl) : kd = 0 ↔ c = 0 := by
  rcases h with ⟨a, b⟩ | ⟨a, b⟩ | ⟨w, a, b, d, e⟩ | ⟨v, a, b, d, e⟩ | ⟨a, b, d⟩
  · exact ⟨fun _ => a, fun _ => b⟩
  · exact ⟨fun z => absurd (b.symm.trans z) (by decide), fun z => absurd z (by omega)⟩
  · exact ⟨fun z => absurd (d.symm.trans z) (by decide), fun z => absurd z (by omega)⟩
  · exact ⟨fun z => absurd (d.symm.trans z) (by decide), fun z => absurd z (by omega)⟩
  · exact ⟨fun z => absurd (b.symm.trans z) (by decide), fun z => absurd z (by have := isSn_le a; omega)⟩
theorem tR_3 {c : Nat} {kd vl : Int32} (h : tokR c kd vl) : kd = 3 ↔ 1000 ≤ c := by
  refine ⟨fun q => ?_, fun q => (tR_n h q).1⟩
  rcases h with ⟨a, b⟩ | ⟨a, b⟩ | ⟨w, a, b, d, e⟩ | ⟨v, a, b, d, e⟩ | ⟨a, b, d⟩
  · exact absurd (b.symm.trans q) (by decide)
  · exact absurd (b.symm.trans q) (by decide)
  · exact absurd (d.symm.trans q) (by decide)
  · omega
  · exact absurd (b.symm.trans q) (by decide)
theorem tR_2 {c : Nat} {kd vl : Int32} (h : tokR c kd vl) : kd = 2 ↔ 256 ≤ c ∧ c ≤ 283 := by
  refine ⟨fun q => ?_, fun q => (tR_w h q.1 q.2).1⟩
  rcases h with ⟨a, b⟩ | ⟨a, b⟩ | ⟨w, a, b, d, e⟩ | ⟨v, a, b, d, e⟩ | ⟨a, b, d⟩
  · exact absurd (b.symm.trans q) (by decide)
  · exact absurd (b.symm.trans q) (by decide)
  · omega
  · exact absurd (d.symm.trans q) (by decide)
  · exact absurd (b.symm.trans q) (by decide)
theorem tR_4 {c : Nat} {kd vl : Int32} (h : tokR c kd vl) : kd = 4 ↔ isSn c := by
  refine ⟨fun q => ?_, fun q => (tR_s h q).1⟩
  rcases h with ⟨a, b⟩ | ⟨a, b⟩ | ⟨w, a, b, d, e⟩ | ⟨v, a, b, d, e⟩ | ⟨a, b, d⟩
  · exact absurd (b.symm.trans q) (by decide)
  · exact absurd (b.symm.trans q) (by decide)
  · exact absurd (d.symm.trans q) (by decide)
  · exact absurd (d.symm.trans q) (by decide)
  · exact a
theorem isg_y {c s : Nat} {M : Mm} {K : Int32 → Mm → Prop} {x : Int32} (h : tokR c (M 159 18) (M 159 19)) (hs : isSn s) (hx : x = nI s) (hc : c = s) (k : K 1 M) : T_X12_isSign x M K := by
  subst hc
  obtain ⟨a, b⟩ := tR_s h hs
  rw [T_X12_isSign]
  exact ⟨fun _ => ⟨fun _ => k, fun z => absurd (b.trans hx.symm) z⟩, fun z => absurd a z⟩
theorem isg_n {c s : Nat} {M : Mm} {K : Int32 → Mm → Prop} {x : Int32} (h : tokR c (M 159 18) (M 159 19)) (hs : isSn s) (hx : x = nI s) (hc : ¬ c = s) (k : K 0 M) : T_X12_isSign x M K := by
  rw [T_X12_isSign]
  refine ⟨fun z => ⟨fun y => absurd ?_ hc, fun _ => k⟩, fun _ => k⟩
  have h1 := (tR_4 h).mp z
  have h2 := isSn_le h1
  have h3 := isSn_le hs
  rw [(tR_s h h1).2, hx] at y
  exact (nI_eq (by omega) (by omega)).mp y
theorem iwd_y {c w : Nat} {M : Mm} {K : Int32 → Mm → Prop} {x : Int32} (h : tokR c (M 159 18) (M 159 19)) (hw : w < 28) (hx : x = nI w) (hc : c = 256 + w) (k : K 1 M) : T_X12_isWord x M K := by
  obtain ⟨a, b⟩ := tR_w h (by omega) (by omega)
  rw [show c - 256 = w by omega] at b
  rw [T_X12_isWord]
  exact ⟨fun _ => ⟨fun _ => k, fun z => absurd (b.trans hx.symm) z⟩, fun z => absurd a z⟩
theorem iwd_n {c w : Nat} {M : Mm} {K : Int32 → Mm → Prop} {x : Int32} (h : tokR c (M 159 18) (M 159 19)) (hw : w < 28) (hx : x = nI w) (hc : ¬ c = 256 + w) (k : K 0 M) : T_X12_isWord x M K := by
  rw [T_X12_isWord]
  refine ⟨fun z => ⟨fun y => absurd ?_ hc, fun _ => k⟩, fun _ => k⟩
  have h1 := (tR_2 h).mp z
  rw [(tR_w h h1.1 h1.2).2, hx] at y
  have := (nI_eq (by omega) (by omega)).mp y
  omega
/-- the class at token i -/
def TC (n : Nat) (tk ps : Nat → Nat) (i : Nat) (M : Mm) : Prop := i ≤ n ∧ M 132 4 = nI (n + 1) ∧ M 132 5 = nI i ∧ M 132 6 = nI (tk i) ∧ ∀ j, j ≤ n → M 134 j = nI (tk j) ∧ M 135 j = nI (ps j)
theorem TC.cg {n i : Nat} {tk ps : Nat → Nat} {M M' : Mm} (h : TC n tk ps i M) (e : ∀ j, 4 ≤ j → j ≤ 6 → M' 132 j = M 132 j) (e4 : ∀ j, M' 134 j = M 134 j) (e5 : ∀ j, M' 135 j = M 135 j) : TC n tk ps i M' := by
  obtain ⟨h1, h2, h3, h4, h5⟩ := h
  exact ⟨h1, (e 4 (by omega) (by omega)).trans h2, (e 5 (by omega) (by omega)).trans h3, (e 6 (by omega) (by omega)).trans h4, fun j hj => by rw [e4, e5]; exact h5 j hj⟩
theorem step_ok {n i : Nat} {tk ps : Nat → Nat} {M : Mm} {K : Mm → Prop} (hn : n ≤ 400) (h : TC n tk ps i M) (hi : i < n) (hK : ∀ M', TC n tk ps (i + 1) M' → (∀ a j, ¬ (a = 132 ∧ 5 ≤ j ∧ j ≤ 6) → M' a j = M a j) → K M') : T_X7_step M K := by
  obtain ⟨h1, h2, h3, h4, h5⟩ := h
  rw [T_X7_step, h2, h3, nI_pred]
  refine pk_le n i (fun z => absurd z (by omega)) (fun _ M4 g4 => ?_)
  rw [nI_1] at g4
  have w5 : M4 132 5 = nI (i + 1) := by rw [g4, mu, if_pos ⟨rfl, rfl⟩]
  rw [T_X7_step_23, w5, nI_clamp (n := i + 1) (by omega)]
  refine ⟨vp_in_nI (by omega) (by decide), fun M2 g2 => ?_⟩
  have E : ∀ a j, ¬ (a = 132 ∧ 5 ≤ j ∧ j ≤ 6) → M2 a j = M a j := fun a j z => by rw [g2, mu, if_neg (by omega), g4, mu, if_neg (by omega)]
  refine hK M2 ⟨by omega, by rw [E 132 4 (by omega)]; exact h2, by rw [g2, mu, if_neg (by omega)]; exact w5, ?_, fun j hj => by rw [E 134 j (by omega), E 135 j (by omega)]; exact h5 j hj⟩ E
  rw [g2, mu, if_pos ⟨rfl, rfl⟩, g4, mu, if_neg (by omega)]
  exact (h5 (i + 1) (by omega)).1
theorem refuse_ok {n i fk : Nat} {tk ps : Nat → Nat} {M : Mm} {K : Int32 → Mm → Prop} {x : Int32} (hn : n ≤ 400) (h : TC n tk ps i M) (hx : x = nI fk) (hK : ∀ M', M' 132 7 = nI fk → M' 132 8 = nI (ps i) → (∀ a j, ¬ (a = 132 ∧ 7 ≤ j ∧ j ≤ 8) → M' a j = M a j) → K 0 M') : T_X7_refuse x M K := by
  obtain ⟨h1, h2, h3, h4, h5⟩ := h
  rw [T_X7_refuse]
  intro M1 g1
  have w5 : M1 132 5 = nI i := by rw [g1, mu, if_neg (by omega)]; exact h3
  rw [w5, nI_clamp (n := i) (by omega)]
  refine ⟨vp_in_nI (by omega) (by decide), fun M3 g3 => hK M3 ?_ ?_ (fun a j z => by rw [g3, mu, if_neg (by omega), g1, mu, if_neg (by omega)])⟩
  · rw [g3, mu, if_neg (by omega), g1, mu, if_pos ⟨rfl, rfl⟩]; exact hx
  · rw [g3, mu, if_pos ⟨rfl, rfl⟩, g1, mu, if_neg (by omega)]; exact (h5 i h1).2
/-- the model at token i -/
def TM (ch : Nat → Nat) (k n : Nat) (tk ps en : Nat → Nat) (i : Nat) (M : Mm) : Prop := i ≤ n ∧ TW ch k M ∧ M 159 16 = nI (en i) ∧ M 159 17 = nI (ps i) ∧ tokR (tk i) (M 159 18) (M 159 19)
theorem TM.cg {ch : Nat → Nat} {k n i : Nat} {tk ps en : Nat → Nat} {M M' : Mm} (h : TM ch k n tk ps en i M) (e : ∀ j, 15 ≤ j → j ≤ 19 → M' 159 j = M 159 j) (e4 : ∀ j, M' 169 j = M 169 j) (e5 : ∀ j, M' 170 j = M 170 j) : TM ch k n tk ps en i M' := by
  obtain ⟨h1, h2, h3, h4, h5⟩ := h
  exact ⟨h1, h2.cg (e 15 (by omega) (by omega)) e4 e5, (e 16 (by omega) (by omega)).trans h3, (e 17 (by omega) (by omega)).trans h4, by rw [e 18 (by omega) (by omega), e 19 (by omega) (by omega)]; exact h5⟩
theorem read_ok {ch : Nat → Nat} {k n i : Nat} {tk ps en : Nat → Nat} {M : Mm} {K : Mm → Prop} (hS : TS ch k n tk ps en) (h : TM ch k n tk ps en i M) (hi : i < n) (hK : ∀ M', TM ch k n tk ps en (i + 1) M' → fr4 M M' → K M') : T_X12_reads M K := by
  obtain ⟨h1, h2, h3, h4, h5⟩ := h
  exact reads_ok hS (i := i + 1) (by omega) h2 (by rw [pre_s]; exact h3) (fun M' a1 a2 a3 a4 => hK M' ⟨by omega, h2.f4 a4, a1, a2, a3⟩ a4)
theorem errs_ok {ch : Nat → Nat} {k n i fk : Nat} {tk ps en : Nat → Nat} {M : Mm} {K : Int32 → Mm → Prop} {x : Int32} (h : TM ch k n tk ps en i M) (hx : x = nI fk) (hK : ∀ M', M' 159 33 = nI fk → M' 159 34 = nI (ps i) → (∀ a j, ¬ (a = 159 ∧ 33 ≤ j ∧ j ≤ 34) → M' a j = M a j) → K (-1) M') : T_X12_errs x M K := by
  rw [T_X12_errs]
  intro M1 g1 M2 g2
  refine hK M2 ?_ ?_ (fun a j z => by rw [g2, mu, if_neg (by omega), g1, mu, if_neg (by omega)])
  · rw [g2, mu, if_neg (by omega), g1, mu, if_pos ⟨rfl, rfl⟩]; exact hx
  · rw [g2, mu, if_pos ⟨rfl, rfl⟩, g1, mu, if_neg (by omega)]; exact h.2.2.2.1
