/-! TEXT: tokens, in the model -/
/-- a token of the class and the model's kind and value -/
def tokR (c : Nat) (kd vl : Int32) : Prop := (c = 0 ∧ kd = 0) ∨ (c = 1 ∧ kd = 1) ∨ (∃ w : Nat, w < 28 ∧ c = 256 + w ∧ kd = 2 ∧ vl = nI w) ∨ (∃ v : Nat, v ≤ 9999 ∧ c = 1000 + v ∧ kd = 3 ∧ vl = nI v) ∨ (isSn c ∧ kd = 4 ∧ vl = nI c)
def fr4 (M M' : Mm) : Prop := ∀ a j, ¬ (a = 159 ∧ 16 ≤ j ∧ j ≤ 19) → M' a j = M a j
theorem fr4.up {B M : Mm} {i : Nat} {x : Int32} (h : fr4 B M) (h1 : 16 ≤ i) (h2 : i ≤ 19) : fr4 B (m_up M 159 i x) := fun a j z => by rw [mu, if_neg (by omega)]; exact h a j z
/-- the tape and the words_v of the model -/
def TW (ch : Nat → Nat) (k : Nat) (M : Mm) : Prop := TP ch k M ∧ ∀ i, i < 148 → M 170 i = wd_t i
theorem TW.cg {ch : Nat → Nat} {k : Nat} {M M' : Mm} (h : TW ch k M) (e15 : M' 159 15 = M 159 15) (e : ∀ j, M' 169 j = M 169 j) (e2 : ∀ j, M' 170 j = M 170 j) : TW ch k M' := by
  obtain ⟨⟨h1, h2, h3⟩, h4⟩ := h
  exact ⟨⟨h1, e15.trans h2, fun i hi => by rw [e]; exact h3 i hi⟩, fun i hi => by rw [e2]; exact h4 i hi⟩
theorem TW.f4 {ch : Nat → Nat} {k : Nat} {M M' : Mm} (h : TW ch k M) (f : fr4 M M') : TW ch k M' := h.cg (f 159 15 (by omega)) (fun j => f 169 j (by omega)) (fun j => f 170 j (by omega))
theorem r95_lp {ch : Nat → Nat} {k p e c : Nat} {B : Mm} {K : Mm → Prop} (hB : TW ch k B) (hb : BH ch k p e) (hl : isLn (ch p)) (hc : TCd ch p e c) (hK : ∀ M', M' 159 16 = nI e → M' 159 17 = nI p → tokR c (M' 159 18) (M' 159 19) → fr4 B M' → K M') : ∀ m s f M, s + m = e → p < s → m < f → M 159 16 = nI s → M 159 17 = nI p → M 159 18 = 1 → fr4 B M → T_X12_reads_95 f M K := by
  obtain ⟨b1, b2, b3, b4, b5⟩ := hb
  obtain ⟨l1, l2⟩ := b3 hl
  have hk := hB.1.1
  intro m
  induction m with
  | zero =>
    intro s f M hs hp hf h16 h17 h18 hfr
    obtain ⟨f, rfl⟩ : ∃ g, f = g + 1 := ⟨f - 1, by omega⟩
    have e0 : s = e := by omega
    subst e0
    obtain ⟨t1, t2⟩ := hB.f4 hfr
    have last : T_X12_wordAt (M 159 17) (M 159 16) M (fun r26 M25 => ∀ M27 : Mm, M27 = m_up M25 159 19 r26 → ((M27 159 19 = -1 → K M27) ∧ (¬ M27 159 19 = -1 → ∀ M29 : Mm, M29 = m_up M27 159 18 2 → K M29))) := by
      rw [h17, h16]
      refine mw_ok (ch := ch) (by omega) (by omega) l1 (fun i hi => t1.2.2 i (by omega)) t2 (fun w w1 w2 w3 M27 g27 => ?_) (fun w1 M27 g27 => ?_)
      · have v : M27 159 19 = nI w := by rw [g27, mu, if_pos ⟨rfl, rfl⟩]
        refine ⟨fun z => absurd (v.symm.trans z) (nI_m1 (by omega)), fun _ M29 g29 => hK M29 ?_ ?_ ?_ ?_⟩
        · rw [g29, mu, if_neg (by omega), g27, mu, if_neg (by omega)]; exact h16
        · rw [g29, mu, if_neg (by omega), g27, mu, if_neg (by omega)]; exact h17
        · refine Or.inr (Or.inr (Or.inl ⟨w, w1, ?_, by rw [g29, mu, if_pos ⟨rfl, rfl⟩], by rw [g29, mu, if_neg (by omega)]; exact v⟩))
          rcases hc with ⟨-, ⟨w', q1, q2, q3, q4⟩ | ⟨q1, -⟩⟩ | ⟨q, -⟩ | ⟨q, -⟩
          · rcases Nat.lt_trichotomy w w' with z | z | z
            · exact absurd w2 (q3 w z)
            · rw [z]; exact q4
            · exact absurd q2 (w3 w' z)
          · exact absurd w2 (q1 w w1)
          · exact absurd q (ln_dn hl)
          · exact absurd hl q
        · rw [g29, g27]
          exact (hfr.up (by omega) (by omega)).up (by omega) (by omega)
      · have v : M27 159 19 = -1 := by rw [g27, mu, if_pos ⟨rfl, rfl⟩]
        refine ⟨fun _ => hK M27 ?_ ?_ ?_ ?_, fun z => absurd v z⟩
        · rw [g27, mu, if_neg (by omega)]; exact h16
        · rw [g27, mu, if_neg (by omega)]; exact h17
        · refine Or.inr (Or.inl ⟨?_, by rw [g27, mu, if_neg (by omega)]; exact h18⟩)
          rcases hc with ⟨-, ⟨w', q1, q2, q3, q4⟩ | ⟨-, q1⟩⟩ | ⟨q, -⟩ | ⟨q, -⟩
          · exact absurd q2 (w1 w' q1)
          · exact q1
          · exact absurd q (ln_dn hl)
          · exact absurd hl q
        · rw [g27]
          exact hfr.up (by omega) (by omega)
    rw [T_X12_reads_95]
    rw [h16]
    refine raw_ok t1 (by omega) (fun z => ?_) (fun z => ?_)
    · exact ml_n (t1.2.2 s z).2 (l2 z) ⟨fun _ => last, fun y => absurd rfl y⟩
    · exact ml_e ⟨fun _ => last, fun y => absurd rfl y⟩
  | succ m ih =>
    intro s f M hs hp hf h16 h17 h18 hfr
    obtain ⟨f, rfl⟩ : ∃ g, f = g + 1 := ⟨f - 1, by omega⟩
    obtain ⟨t1, t2⟩ := hB.f4 hfr
    rw [T_X12_reads_95]
    rw [h16]
    refine raw_ok t1 (by omega) (fun z => ?_) (fun z => absurd z (by omega))
    refine ml_y (t1.2.2 s z).2 (l1 s (by omega) (by omega)) ⟨fun y => absurd y (by decide), fun _ M30 g30 => ?_⟩
    rw [h16, nI_1] at g30
    exact ih (s + 1) f M30 (by omega) (by omega) (by omega) (by rw [g30, mu, if_pos ⟨rfl, rfl⟩]) (by rw [g30, mu, if_neg (by omega)]; exact h17) (by rw [g30, mu, if_neg (by omega)]; exact h18) (by rw [g30]; exact hfr.up (by omega) (by omega))
theorem r171_lp {ch : Nat → Nat} {k p e c : Nat} {B : Mm} {K : Mm → Prop} (hB : TW ch k B) (hb : BH ch k p e) (hd : isDn (ch p)) (hc : TCd ch p e c) (hK : ∀ M', M' 159 16 = nI e → M' 159 17 = nI p → tokR c (M' 159 18) (M' 159 19) → fr4 B M' → K M') : ∀ m s f v M, s + m = e → p < s → m < f → v ≤ 99999 → (s - p ≤ 4 → v = dvl ch p (s - p)) → M 159 16 = nI s → M 159 17 = nI p → M 159 18 = 1 → M 159 19 = nI v → fr4 B M → T_X12_reads_171 f M K := by
  obtain ⟨b1, b2, b3, b4, b5⟩ := hb
  obtain ⟨l1, l2⟩ := b4 hd
  have nl : ¬ isLn (ch p) := fun z => ln_dn z hd
  have hk := hB.1.1
  intro m
  induction m with
  | zero =>
    intro s f v M hs hp hf hv hvd h16 h17 h18 h19 hfr
    obtain ⟨f, rfl⟩ : ∃ g, f = g + 1 := ⟨f - 1, by omega⟩
    have e0 : s = e := by omega
    subst e0
    obtain ⟨t1, t2⟩ := hB.f4 hfr
    have d4 : ∀ t, t < s - p → isDn (ch (p + t)) := fun t ht => l1 (p + t) (by omega) (by omega)
    have last : ((5 : Int32) ≤ M 159 16 - M 159 17 → K M) ∧ (¬ (5 : Int32) ≤ M 159 16 - M 159 17 → ∀ M12 : Mm, M12 = m_up M 159 18 3 → K M12) := by
      rw [h16, h17, pk_sub (by omega)]
      refine pk_le 5 (s - p) (fun z => hK M h16 h17 (Or.inr (Or.inl ⟨?_, h18⟩)) hfr) (fun z M12 g12 => hK M12 ?_ ?_ ?_ ?_)
      · rcases hc with ⟨q, -⟩ | ⟨-, ⟨-, q⟩ | ⟨q, -⟩⟩ | ⟨-, q, -⟩
        · exact absurd q nl
        · exact q
        · exact absurd q (by omega)
        · exact absurd hd q
      · rw [g12, mu, if_neg (by omega)]; exact h16
      · rw [g12, mu, if_neg (by omega)]; exact h17
      · refine Or.inr (Or.inr (Or.inr (Or.inl ⟨dvl ch p (s - p), dvl_4 (by omega) d4, ?_, by rw [g12, mu, if_pos ⟨rfl, rfl⟩], by rw [g12, mu, if_neg (by omega), h19, hvd (by omega)]⟩)))
        rcases hc with ⟨q, -⟩ | ⟨-, ⟨q, -⟩ | ⟨-, q⟩⟩ | ⟨-, q, -⟩
        · exact absurd q nl
        · exact absurd q (by omega)
        · exact q
        · exact absurd hd q
      · rw [g12]; exact hfr.up (by omega) (by omega)
    rw [T_X12_reads_171]
    rw [h16]
    refine raw_ok t1 (by omega) (fun z => ?_) (fun z => ?_)
    · exact md_n (t1.2.2 s z).2 (l2 z) ⟨fun _ => last, fun y => absurd rfl y⟩
    · exact md_e ⟨fun _ => last, fun y => absurd rfl y⟩
  | succ m ih =>
    intro s f v M hs hp hf hv hvd h16 h17 h18 h19 hfr
    obtain ⟨f, rfl⟩ : ∃ g, f = g + 1 := ⟨f - 1, by omega⟩
    obtain ⟨t1, t2⟩ := hB.f4 hfr
    have d4 : ∀ t, t < s - p → isDn (ch (p + t)) := fun t ht => l1 (p + t) (by omega) (by omega)
    have ds := l1 s (by omega) (by omega)
    have ds' := ds
    unfold isDn at ds'
    have go : ∀ v' : Nat, v' ≤ 99999 → (s + 1 - p ≤ 4 → v' = dvl ch p (s + 1 - p)) → T_X12_reads_223 (fun M => T_X12_reads_171 f M K) (nI v') M K := by
      intro v' hv' hd'
      rw [T_X12_reads_223]
      intro M2 g2 M3 g3
      have w : M2 159 16 = nI s := by rw [g2, mu, if_neg (by omega)]; exact h16
      rw [w, nI_1] at g3
      exact ih (s + 1) f v' M3 (by omega) (by omega) (by omega) hv' hd' (by rw [g3, mu, if_pos ⟨rfl, rfl⟩]) (by rw [g3, mu, if_neg (by omega), g2, mu, if_neg (by omega)]; exact h17) (by rw [g3, mu, if_neg (by omega), g2, mu, if_neg (by omega)]; exact h18) (by rw [g3, mu, if_neg (by omega), g2, mu, if_pos ⟨rfl, rfl⟩]) (by rw [g3, g2]; exact (hfr.up (by omega) (by omega)).up (by omega) (by omega))
    rw [T_X12_reads_171]
    rw [h16]
    refine raw_ok t1 (by omega) (fun z => ?_) (fun z => absurd z (by omega))
    refine md_y (t1.2.2 s z).2 ds ⟨fun y => absurd y (by decide), fun _ => ?_⟩
    rw [h19]
    refine pk_le 10000 v (fun y => go v hv (fun q => ?_)) (fun y => ?_)
    · have := dvl_4 (ch := ch) (p := p) (j := s - p) (by omega) d4
      rw [← hvd (by omega)] at this
      exact absurd y (by omega)
    · rw [h16]
      refine raw_ok t1 (by omega) (fun z => ?_) (fun z => absurd z (by omega))
      have ev : (10 : Int32) * nI v + nI (ch s) - 48 = nI (10 * v + (ch s - 48)) := by
        rw [show (10 : Int32) = nI 10 from rfl, pk_mul, nI_add, show (48 : Int32) = nI 48 from rfl, pk_sub (by omega)]
        congr 1; omega
      rw [ev]
      refine go _ (by omega) (fun q => ?_)
      rw [show s + 1 - p = (s - p) + 1 by omega, dvl, show p + (s - p) = s by omega, ← hvd (by omega)]
theorem rat_ok {ch : Nat → Nat} {k n i f : Nat} {tk ps en : Nat → Nat} {M : Mm} {K : Mm → Prop} (hS : TS ch k n tk ps en) (hi : i ≤ n) (hM : TW ch k M) (h16 : M 159 16 = nI (ps i)) (hK : ∀ M', M' 159 16 = nI (en i) → M' 159 17 = nI (ps i) → tokR (tk i) (M' 159 18) (M' 159 19) → fr4 M M' → K M') : T_X12_reads_0 (f + 1) M K := by
  obtain ⟨s1, s2, s3, s4, s5, s6, s7, s8⟩ := hS
  by_cases c : i = n
  · subst c
    rw [s7] at h16 hK
    rw [s8, s6] at hK
    have rr : ∀ (M1 : Mm) (K1 : Int32 → Mm → Prop), TP ch k M1 → M1 159 16 = nI k → K1 (-1) M1 → T_X12_raw (M1 159 16) M1 K1 := fun M1 K1 h1 h2 h3 => by
      rw [h2]
      exact raw_ok h1 (by omega) (fun z => absurd z (by omega)) (fun _ => h3)
    rw [T_X12_reads_0]
    refine rr M _ hM.1 h16 ⟨fun z => absurd z (by decide), fun _ => rr M _ hM.1 h16 ⟨fun z => absurd z (by decide), fun _ M39 g39 M40 g40 => ?_⟩⟩
    have w : M40 159 16 = nI k := by rw [g40, mu, if_neg (by omega), g39, mu, if_neg (by omega)]; exact h16
    have fr0 : fr4 M M := fun _ _ _ => rfl
    have f40 : fr4 M M40 := by rw [g40, g39]; exact (fr0.up (by omega) (by omega)).up (by omega) (by omega)
    refine rr M40 _ (hM.f4 f40).1 w ⟨fun _ M61 g61 => hK M61 ?_ ?_ (Or.inl ⟨rfl, by rw [g61, mu, if_pos ⟨rfl, rfl⟩]⟩) (by rw [g61]; exact f40.up (by omega) (by omega)), fun z => absurd rfl z⟩
    · rw [g61, mu, if_neg (by omega)]; exact w
    · rw [g61, mu, if_neg (by omega), g40, mu, if_neg (by omega), g39, mu, if_pos ⟨rfl, rfl⟩]; exact h16
  · obtain ⟨t1, t2, t3, t4, t5, t6⟩ := s3 i (by omega)
    generalize ps i = p at *
    generalize en i = e at *
    generalize tk i = tc at *
    obtain ⟨hc1, hc2⟩ := hM.1.2.2 p t2
    have rr : ∀ (M1 : Mm) (K1 : Int32 → Mm → Prop), TP ch k M1 → M1 159 16 = nI p → K1 (nI (ch p)) M1 → T_X12_raw (M1 159 16) M1 K1 := fun M1 K1 h1 h2 h3 => by
      rw [h2]
      exact raw_ok h1 (by omega) (fun _ => h3) (fun z => absurd t2 z)
    have q32 : nI (ch p) = (32 : Int32) ↔ ch p = 32 := nI_eq (b := 32) (by omega) (by decide)
    have q10 : nI (ch p) = (10 : Int32) ↔ ch p = 10 := nI_eq (b := 10) (by omega) (by decide)
    rw [T_X12_reads_0]
    refine rr M _ hM.1 h16 ⟨fun z => absurd (Or.inl (q32.mp z)) t3, fun _ => rr M _ hM.1 h16 ⟨fun z => absurd (Or.inr (q10.mp z)) t3, fun _ M39 g39 M40 g40 => ?_⟩⟩
    have w : M40 159 16 = nI p := by rw [g40, mu, if_neg (by omega), g39, mu, if_neg (by omega)]; exact h16
    have fr0 : fr4 M M := fun _ _ _ => rfl
    have f40 : fr4 M M40 := by rw [g40, g39]; exact (fr0.up (by omega) (by omega)).up (by omega) (by omega)
    refine rr M40 _ (hM.f4 f40).1 w ⟨fun z => absurd z (nI_m1 (by omega)), fun _ M45 g45 M46 g46 => ?_⟩
    rw [w, nI_1] at g45
    have w16 : M46 159 16 = nI (p + 1) := by rw [g46, mu, if_neg (by omega), g45, mu, if_pos ⟨rfl, rfl⟩]
    have w17 : M46 159 17 = nI p := by rw [g46, mu, if_neg (by omega), g45, mu, if_neg (by omega), g40, mu, if_neg (by omega), g39, mu, if_pos ⟨rfl, rfl⟩]; exact h16
    have w18 : M46 159 18 = 1 := by rw [g46, mu, if_neg (by omega), g45, mu, if_neg (by omega), g40, mu, if_pos ⟨rfl, rfl⟩]
    have w19 : M46 159 19 = nI (ch p) := by rw [g46, mu, if_pos ⟨rfl, rfl⟩]
    have f46 : fr4 M M46 := by rw [g46, g45]; exact (f40.up (by omega) (by omega)).up (by omega) (by omega)
    have t4' := t4
    obtain ⟨b1, b2, b3, b4, b5⟩ := t4'
    by_cases cl : isLn (ch p)
    · refine ml_y hc2 cl ⟨fun z => absurd z (by decide), fun _ => ?_⟩
      exact r95_lp hM t4 cl t5 hK (e - (p + 1)) (p + 1) 5000 M46 (by omega) (by omega) (by omega) w16 w17 w18 f46
    · refine ml_n hc2 cl ⟨fun _ => ?_, fun z => absurd rfl z⟩
      by_cases cd : isDn (ch p)
      · refine md_y hc2 cd ⟨fun z => absurd z (by decide), fun _ M60 g60 => ?_⟩
        have cd' := cd
        unfold isDn at cd'
        rw [show (48 : Int32) = nI 48 from rfl, pk_sub (by omega)] at g60
        refine r171_lp hM t4 cd t5 hK (e - (p + 1)) (p + 1) 5000 (ch p - 48) M60 (by omega) (by omega) (by omega) (by omega) (fun _ => ?_) (by rw [g60, mu, if_neg (by omega)]; exact w16) (by rw [g60, mu, if_neg (by omega)]; exact w17) (by rw [g60, mu, if_neg (by omega)]; exact w18) (by rw [g60, mu, if_pos ⟨rfl, rfl⟩]) (by rw [g60]; exact f46.up (by omega) (by omega))
        rw [show p + 1 - p = 0 + 1 by omega, dvl, dvl, show p + 0 = p from rfl]
        omega
      · refine md_n hc2 cd ⟨fun _ => ?_, fun z => absurd rfl z⟩
        have ee := b5 cl cd
        refine ms_ok hc2 (fun z => ⟨fun y => absurd y (by decide), fun _ M59 g59 => ?_⟩) (fun z => ⟨fun _ => ?_, fun y => absurd rfl y⟩)
        · refine hK M59 (by rw [g59, mu, if_neg (by omega), ee]; exact w16) (by rw [g59, mu, if_neg (by omega)]; exact w17) ?_ (by rw [g59]; exact f46.up (by omega) (by omega))
          have ec : tc = ch p := by
            rcases t5 with ⟨q, -⟩ | ⟨q, -⟩ | ⟨-, -, ⟨-, q⟩ | ⟨q, -⟩⟩
            · exact absurd q cl
            · exact absurd q cd
            · exact q
            · exact absurd z q
          rw [ec]
          exact Or.inr (Or.inr (Or.inr (Or.inr ⟨z, by rw [g59, mu, if_pos ⟨rfl, rfl⟩], by rw [g59, mu, if_neg (by omega)]; exact w19⟩)))
        · refine hK M46 (by rw [ee]; exact w16) w17 (Or.inr (Or.inl ⟨?_, w18⟩)) f46
          rcases t5 with ⟨q, -⟩ | ⟨q, -⟩ | ⟨-, -, ⟨q, -⟩ | ⟨-, q⟩⟩
          · exact absurd q cl
          · exact absurd q cd
          · exact absurd q z
          · exact q
theorem rds_lp {ch : Nat → Nat} {k n i : Nat} {tk ps en : Nat → Nat} {B : Mm} {K : Mm → Prop} (hS : TS ch k n tk ps en) (hi : i ≤ n) (hB : TW ch k B) (hbl : ∀ j, pre en i ≤ j → j < ps i → isBn (ch j)) (hk : ps i ≤ k) (hK : ∀ M', M' 159 16 = nI (en i) → M' 159 17 = nI (ps i) → tokR (tk i) (M' 159 18) (M' 159 19) → fr4 B M' → K M') : ∀ d s M f, s + d = ps i → d < f → pre en i ≤ s → M 159 16 = nI s → fr4 B M → T_X12_reads_0 f M K := by
  have hk4 := hB.1.1
  intro d
  induction d with
  | zero =>
    intro s M f hs hf hp h16 hfr
    obtain ⟨f, rfl⟩ : ∃ g, f = g + 1 := ⟨f - 1, by omega⟩
    exact rat_ok hS hi (hB.f4 hfr) (by rw [h16]; congr 1) (fun M' a1 a2 a3 a4 => hK M' a1 a2 a3 (fun a j z => (a4 a j z).trans (hfr a j z)))
  | succ d ih =>
    intro s M f hs hf hp h16 hfr
    obtain ⟨f, rfl⟩ : ∃ g, f = g + 1 := ⟨f - 1, by omega⟩
    have hT := hB.f4 hfr
    have hb := hbl s hp (by omega)
    obtain ⟨hc1, hc2⟩ := hT.1.2.2 s (by omega)
    have go : T_X12_reads_26 (fun M => T_X12_reads_0 f M K) M K := by
      rw [T_X12_reads_26]
      intro M1 g1
      rw [h16, nI_1] at g1
      exact ih (s + 1) M1 f (by omega) (by omega) (by omega) (by rw [g1, mu, if_pos ⟨rfl, rfl⟩]) (by rw [g1]; exact hfr.up (by omega) (by omega))
    have q32 : nI (ch s) = (32 : Int32) ↔ ch s = 32 := nI_eq (b := 32) (by omega) (by decide)
    have q10 : nI (ch s) = (10 : Int32) ↔ ch s = 10 := nI_eq (b := 10) (by omega) (by decide)
    rw [T_X12_reads_0]
    rw [h16]
    refine raw_ok hT.1 (by omega) (fun z => ⟨fun _ => go, fun y => ?_⟩) (fun z => absurd z (by omega))
    rw [h16]
    refine raw_ok hT.1 (by omega) (fun z => ⟨fun _ => go, fun y2 => ?_⟩) (fun z => absurd z (by omega))
    exact hb.elim (fun q => absurd (q32.mpr q) y) (fun q => absurd (q10.mpr q) y2)
theorem reads_ok {ch : Nat → Nat} {k n i : Nat} {tk ps en : Nat → Nat} {M : Mm} {K : Mm → Prop} (hS : TS ch k n tk ps en) (hi : i ≤ n) (hM : TW ch k M) (h16 : M 159 16 = nI (pre en i)) (hK : ∀ M', M' 159 16 = nI (en i) → M' 159 17 = nI (ps i) → tokR (tk i) (M' 159 18) (M' 159 19) → fr4 M M' → K M') : T_X12_reads M K := by
  obtain ⟨s1, s2, s3, s4, s5, s6, s7, s8⟩ := id hS
  have hx : pre en i ≤ ps i ∧ ps i ≤ k ∧ ∀ j, pre en i ≤ j → j < ps i → isBn (ch j) := by
    by_cases c : i = n
    · subst c
      rw [s7]
      exact ⟨s4, by omega, s5⟩
    · obtain ⟨t1, t2, t3, t4, t5, t6⟩ := s3 i (by omega)
      exact ⟨t1, by omega, t6⟩
  rw [T_X12_reads]
  exact rds_lp hS hi hM hx.2.2 hx.2.1 hK (ps i - pre en i) (pre en i) M 5000 (by omega) (by omega) (by omega) h16 (fun _ _ _ => rfl)
