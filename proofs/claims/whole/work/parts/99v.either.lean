/-! TEXT: and, or, not, brackets -/
def top9 (s : List Nat) : Prop := ∀ v r, s = v :: r → ¬ v = 9 ∧ v ≤ 12
def topA (s : List Nat) : Prop := ∀ v r, s = v :: r → v = 11 ∨ v = 12
def topB (s : List Nat) : Prop := ∀ v r, s = v :: r → v = 12
theorem top_c {w : Nat} {s : List Nat} {P : Nat → Prop} (h : P w) : ∀ v r, w :: s = v :: r → P v := fun v r e => by
  have := (List.cons.inj e).1
  rw [← this]; exact h
/-- one case: a fault in both_v, or both_v go on behind_v it -/
def CaS (ch : Nat → Nat) (k n : Nat) (tk ps en : Nat → Nat) (PC : Int32 → Mm → (Int32 → Mm → Prop) → Prop) (o i : Nat) (cs : List (Nat × Nat)) : Prop :=
  (∃ fk p, CSf n tk ps (PC (nI o)) i cs fk p ∧ ∀ (B M : Mm) (K : Int32 → Mm → Prop) (q f b : Nat) (s : List Nat), q ≤ o → b ≤ o → q + s.length ≤ 3 * o + 2 → cs.length + q ≤ i → top9 s → MP ch k n tk ps en B i cs (List.replicate q 9 ++ s) o M → n - i < f → (∀ M', MFx B fk p M' → K (-1) M') → T_X12_readAny_9 f (nI b) 1 M K) ∨
  (∃ i' ex, i' ≤ n ∧ EX true (2 * o + 2) i i' ex ∧ CSk n tk ps (PC (nI o)) i cs i' (cs ++ ex) ∧ ∀ (B M : Mm) (K : Int32 → Mm → Prop) (q f b : Nat) (s : List Nat), q ≤ o → b ≤ o → q + s.length ≤ 3 * o + 2 → cs.length + q ≤ i → top9 s → MP ch k n tk ps en B i cs (List.replicate q 9 ++ s) o M → n - i < f → (∀ M' f', n - i' < f' → MP ch k n tk ps en B i' (cs ++ ex ++ List.replicate q (9, 0)) s (o - q) M' → T_X12_readAny_9 f' (nI b) 0 M' K) → T_X12_readAny_9 f (nI b) 1 M K)
/-- the model behind_v a whole_v B -/
def raT (f b : Nat) (M : Mm) (K : Int32 → Mm → Prop) : Prop := (nI b = 0 → K 0 M) ∧ (¬ nI b = 0 → T_X12_isSign 41 M (fun r29 M28 => (r29 = 0 → T_X12_errs 1 M28 (fun r40 M39 => K r40 M39)) ∧ (¬ r29 = 0 → ∀ M31 : Mm, M31 = m_up M28 159 32 ((M28 159 32) - 1) → ∀ y32 : Int32, y32 = nI b - 1 → ∀ M33 : Mm, M33 = m_up M31 159 30 ((M31 159 30) - 1) → T_X12_settles 9 M33 (fun M35 => T_X12_reads M35 (fun M37 => T_X12_readAny_9 f y32 0 M37 K)))))
def EiS (ch : Nat → Nat) (k n : Nat) (tk ps en : Nat → Nat) (PC : Int32 → Mm → (Int32 → Mm → Prop) → Prop) (o i : Nat) (cs : List (Nat × Nat)) : Prop :=
  (∃ fk p, CSf n tk ps (T_X3_parseEither PC (nI o)) i cs fk p ∧ ∀ (B M : Mm) (K : Int32 → Mm → Prop) (f b : Nat) (s : List Nat), b ≤ o → s.length ≤ 3 * o → topB s → MP ch k n tk ps en B i cs s o M → n - i < f → (∀ M', MFx B fk p M' → K (-1) M') → T_X12_readAny_9 f (nI b) 1 M K) ∨
  (∃ i' ex, i' ≤ n ∧ EX true (2 * o) i i' ex ∧ CSk n tk ps (T_X3_parseEither PC (nI o)) i cs i' (cs ++ ex) ∧ ∀ (B M : Mm) (K : Int32 → Mm → Prop) (f b : Nat) (s : List Nat), b ≤ o → s.length ≤ 3 * o → topB s → MP ch k n tk ps en B i cs s o M → n - i < f → (∀ M' f', n - i' ≤ f' → MP ch k n tk ps en B i' (cs ++ ex) s o M' → raT f' b M' K) → T_X12_readAny_9 f (nI b) 1 M K)
/-- the model, an and still_v waiting or not -/
def MA (ch : Nat → Nat) (k n : Nat) (tk ps en : Nat → Nat) (B : Mm) (i : Nat) (cs : List (Nat × Nat)) (s : List Nat) (o : Nat) (M : Mm) : Prop := MP ch k n tk ps en B i cs s o M ∨ ∃ c0, cs = c0 ++ [(10, 0)] ∧ MP ch k n tk ps en B i c0 (10 :: s) o M
def MO (ch : Nat → Nat) (k n : Nat) (tk ps en : Nat → Nat) (B : Mm) (i : Nat) (cs : List (Nat × Nat)) (s : List Nat) (o : Nat) (M : Mm) : Prop := MA ch k n tk ps en B i cs s o M ∨ ∃ c0, cs = c0 ++ [(11, 0)] ∧ MA ch k n tk ps en B i c0 (11 :: s) o M
theorem MA.t {ch : Nat → Nat} {k n : Nat} {tk ps en : Nat → Nat} {B M : Mm} {i o : Nat} {cs : List (Nat × Nat)} {s : List Nat} (h : MA ch k n tk ps en B i cs s o M) : tokR (tk i) (M 159 18) (M 159 19) := by
  rcases h with h | ⟨c0, -, h⟩
  · exact h.1.2.2.2.2
  · exact h.1.2.2.2.2
theorem MO.t {ch : Nat → Nat} {k n : Nat} {tk ps en : Nat → Nat} {B M : Mm} {i o : Nat} {cs : List (Nat × Nat)} {s : List Nat} (h : MO ch k n tk ps en B i cs s o M) : tokR (tk i) (M 159 18) (M 159 19) := by
  rcases h with h | ⟨c0, -, h⟩
  · exact h.t
  · exact h.t
theorem sA {ch : Nat → Nat} {k n : Nat} {tk ps en : Nat → Nat} {B M : Mm} {K : Mm → Prop} {i o : Nat} {cs : List (Nat × Nat)} {s : List Nat} (h : MA ch k n tk ps en B i cs s o M) (hl : s.length < 40) (hc : cs.length ≤ 400) (ht : topA s) (hK : ∀ M', MP ch k n tk ps en B i cs s o M' → K M') : T_X12_settles 10 M K := by
  have ht' : ∀ v r, s = v :: r → ¬ v = 10 ∧ v ≤ 12 := fun v r e => by have := ht v r e; omega
  rw [T_X12_settles]
  rcases h with h | ⟨c0, rfl, h⟩
  · exact pset_n (f := 4999) (w := 10) h (by omega) rfl (by omega) ht' (hK M h)
  · have hc' : c0.length + 1 ≤ 400 := by rw [List.length_append] at hc; exact hc
    exact pset_1 (f := 4999) (o' := o) h hl (by omega) rfl (by omega) ⟨fun z => absurd z (by omega), fun _ => rfl⟩ (fun M' h' => pset_n (f := 4998) (w := 10) h' (by omega) rfl (by omega) ht' (hK M' h'))
theorem sO {ch : Nat → Nat} {k n : Nat} {tk ps en : Nat → Nat} {B M : Mm} {K : Mm → Prop} {i o : Nat} {cs : List (Nat × Nat)} {s : List Nat} (h : MO ch k n tk ps en B i cs s o M) (hl : s.length < 39) (hc : cs.length ≤ 400) (ht : topB s) (hK : ∀ M', MP ch k n tk ps en B i cs s o M' → K M') : T_X12_settles 10 M (fun M1 => T_X12_settles 11 M1 K) := by
  have ht' : ∀ v r, s = v :: r → ¬ v = 11 ∧ v ≤ 12 := fun v r e => by have := ht v r e; omega
  rcases h with h | ⟨c0, rfl, h⟩
  · refine sA h (by omega) hc (fun v r e => Or.inr (ht v r e)) (fun M' h' => ?_)
    rw [T_X12_settles]
    exact pset_n (f := 4999) (w := 11) h' (by omega) rfl (by omega) ht' (hK M' h')
  · have hc' : c0.length + 1 ≤ 400 := by rw [List.length_append] at hc; exact hc
    refine sA h (by show s.length + 1 < 40; omega) (by omega) (top_c (P := fun v => v = 11 ∨ v = 12) (Or.inl rfl)) (fun M' h' => ?_)
    rw [T_X12_settles]
    exact pset_1 (f := 4999) (o' := o) h' (by omega) (by omega) rfl (by omega) ⟨fun z => absurd z (by omega), fun _ => rfl⟩ (fun M2 h2 => pset_n (f := 4998) (w := 11) h2 (by omega) rfl (by omega) ht' (hK M2 h2))
theorem EX.w {t : Bool} {L L' i i' : Nat} {ex : List (Nat × Nat)} (h : EX t L i i' ex) (hL : L' ≤ L) : EX t L' i i' ex := ⟨h.1, h.2.1, h.2.2.1, fun u hu => h.2.2.2 u (by omega)⟩
theorem EL.w {t : Bool} {L L' i i' : Nat} {ex : List (Nat × Nat)} (h : EL t L i i' ex) (hL : L' ≤ L) : EL t L' i i' ex := ⟨h.1, h.2.1, h.2.2.1, fun u hu => h.2.2.2 u (by omega)⟩
/-- a yes_v or no more_v, joined to the one before_v -/
theorem EX.j {L i i' op : Nat} {ex : List (Nat × Nat)} (h : EX true (L + 1) (i + 1) i' ex) (hop : op = 10 ∨ op = 11) : EL true L i i' (ex ++ [(op, 0)]) := by
  obtain ⟨x1, x2, x3, x4⟩ := h
  refine ⟨by omega, by rw [List.length_append]; show ex.length + 1 + i ≤ i'; omega, ok_app x3 (ok_1 (Or.inr (Or.inr (by show 2 ≤ op ∧ op ≤ 11; omega)))), fun u hu => ?_⟩
  exact (x4 (true :: u) (by show u.length + 1 ≤ L + 1; omega)).app (tyA.one (fun p => Or.inr (Or.inr (Or.inr (Or.inr (Or.inr ⟨hop, u, rfl, rfl⟩))))))
theorem al_ok {ch : Nat → Nat} {k n : Nat} {tk ps en : Nat → Nat} (hS : TS ch k n tk ps en) {PC : Int32 → Mm → (Int32 → Mm → Prop) → Prop} {o : Nat} (ho : o ≤ 8) (hC : ∀ i cs, i ≤ n → cs.length ≤ i → CaS ch k n tk ps en PC o i cs) : ∀ (r i : Nat) (cs : List (Nat × Nat)), n - i ≤ r → i ≤ n → cs.length ≤ i →
    (∃ fk p, (∀ (B M : Mm) (K : Int32 → Mm → Prop) (B2 : Int32 → Int32 → Mm → Prop) (f : Nat) (x2 : Int32) (q : Nat), CQ n tk ps B i cs M → n - i < f → q ≤ i → (∀ M', CFt B fk p M' → K 0 M') → T_X3_parseEither_21 B2 PC f (nI o) x2 (nI q) M K) ∧ (∀ (B M : Mm) (K : Int32 → Mm → Prop) (f b : Nat) (s : List Nat), b ≤ o → s.length ≤ 3 * o + 1 → topA s → MA ch k n tk ps en B i cs s o M → n - i < f → (∀ M', MFx B fk p M' → K (-1) M') → T_X12_readAny_9 f (nI b) 0 M K)) ∨
    (∃ i' ex, i' ≤ n ∧ ¬ tk i' = 261 ∧ EL true (2 * o + 1) i i' ex ∧ (∀ (B M : Mm) (K : Int32 → Mm → Prop) (B2 : Int32 → Int32 → Mm → Prop) (f : Nat) (x2 : Int32) (q : Nat), CQ n tk ps B i cs M → n - i < f → q ≤ i → (∀ M', CQ n tk ps B i' (cs ++ ex) M' → T_X3_parseEither_75 B2 PC (nI o) x2 M' K) → T_X3_parseEither_21 B2 PC f (nI o) x2 (nI q) M K) ∧ (∀ (B M : Mm) (K : Int32 → Mm → Prop) (f b : Nat) (s : List Nat), b ≤ o → s.length ≤ 3 * o + 1 → topA s → MA ch k n tk ps en B i cs s o M → n - i < f → (∀ M' f', n - i' < f' → MA ch k n tk ps en B i' (cs ++ ex) s o M' → T_X12_readAny_9 f' (nI b) 0 M' K) → T_X12_readAny_9 f (nI b) 0 M K)) := by
  have hn := hS.n
  intro r
  induction r with
  | zero =>
    intro i cs hr hi hl
    have e : i = n := by omega
    have t0 : tk i = 0 := by rw [e]; exact hS.2.2.2.2.2.1
    refine Or.inr ⟨i, [], hi, by omega, EL.nil, fun B M K B2 f x2 q h hf hq hK => ?_, fun B M K f b s hb hs ht h hf hK => ?_⟩
    · obtain ⟨f, rfl⟩ : ∃ g, f = g + 1 := ⟨f - 1, by omega⟩
      rw [List.append_nil] at hK
      rw [T_X3_parseEither_21, h.1.2.2.2.1, t0]
      exact ⟨fun _ => hK M h, fun _ => ⟨fun z => absurd z (by decide), fun _ => hK M h⟩⟩
    · rw [List.append_nil] at hK
      exact hK M f hf h
  | succ r ih =>
    intro i cs hr hi hl
    have tb := tkc_b (hS.c hi)
    have c261 : nI (tk i) = (261 : Int32) ↔ tk i = 261 := nI_eq (b := 261) (by omega) (by decide)
    by_cases ht : tk i = 261
    · have hin : i < n := hS.z hi (by omega)
      have cgo : ∀ (B M : Mm) (K : Int32 → Mm → Prop) (B2 : Int32 → Int32 → Mm → Prop) (f : Nat) (x2 : Int32) (q : Nat), CQ n tk ps B i cs M → q ≤ i → (∀ M', CQ n tk ps B (i + 1) cs M' → PC (nI o) M' (fun r15 M14 => (r15 = 0 → K 0 M14) ∧ (¬ r15 = 0 → T_X2_add 137 20261 M14 (fun r19 M18 => ∀ y20 : Int32, y20 = nI q + 1 → T_X3_parseEither_21 B2 PC f (nI o) x2 y20 M18 K)))) → T_X3_parseEither_21 B2 PC (f + 1) (nI o) x2 (nI q) M K := by
        intro B M K B2 f x2 q h hq hK
        rw [T_X3_parseEither_21, h.1.2.2.2.1, c261]
        exact pk_le 400 q (fun z => absurd z (by omega)) (fun _ => ⟨fun _ => cstep hn h hin hK, fun z => absurd ht z⟩)
      have mgo : ∀ (B M : Mm) (K : Int32 → Mm → Prop) (f b : Nat) (s : List Nat), s.length ≤ 3 * o + 1 → topA s → MA ch k n tk ps en B i cs s o M → (∀ M', MP ch k n tk ps en B (i + 1) cs (List.replicate 0 9 ++ 10 :: s) o M' → T_X12_readAny_9 f (nI b) 1 M' K) → T_X12_readAny_9 (f + 1) (nI b) 0 M K := by
        intro B M K f b s hs hts h hK
        rw [T_X12_readAny_9]
        refine ⟨fun _ => ?_, fun z => absurd rfl z⟩
        refine iwd_y (w := 5) h.t (by omega) rfl ht ⟨fun z => absurd z (by decide), fun _ => ?_⟩
        exact sA h (by omega) (by omega) hts (fun M1 h1 => pwait (w := 10) h1 (by omega) rfl (fun M2 h2 => pread hS h2 hin hK))
      rcases hC (i + 1) cs (by omega) (by omega) with ⟨fk, p, a1, a2⟩ | ⟨i1, ex, ai, a0, a1, a2⟩
      · refine Or.inl ⟨fk, p, fun B M K B2 f x2 q h hf hq hK => ?_, fun B M K f b s hb hs hts h hf hK => ?_⟩
        · obtain ⟨f, rfl⟩ : ∃ g, f = g + 1 := ⟨f - 1, by omega⟩
          exact cgo B M K B2 f x2 q h hq (fun M' h' => a1 B M' _ h' (fun M2 h2 => ⟨fun _ => hK M2 h2, fun z => absurd rfl z⟩))
        · obtain ⟨f, rfl⟩ : ∃ g, f = g + 1 := ⟨f - 1, by omega⟩
          exact mgo B M K f b s hs hts h (fun M' h' => a2 B M' K 0 f b (10 :: s) (by omega) hb (by show 0 + (s.length + 1) ≤ 3 * o + 2; omega) (by omega) (top_c (P := fun v => ¬ v = 9 ∧ v ≤ 12) (by omega)) h' (by omega) hK)
      · have e0 : EL true (2 * o + 1) i i1 (ex ++ [(10, 0)]) := EX.j a0 (Or.inl rfl)
        have x1 := a0.1
        have x2 := a0.2.1
        have len : (cs ++ ex).length < 400 := by rw [List.length_append]; omega
        have len2 : (cs ++ (ex ++ [(10, 0)])).length ≤ i1 := by rw [List.length_append]; have := e0.2.1; omega
        have cgo2 : ∀ (B M : Mm) (K : Int32 → Mm → Prop) (B2 : Int32 → Int32 → Mm → Prop) (f : Nat) (x2 : Int32) (q : Nat), CQ n tk ps B i cs M → q ≤ i → (∀ M', CQ n tk ps B i1 (cs ++ (ex ++ [(10, 0)])) M' → T_X3_parseEither_21 B2 PC f (nI o) x2 (nI (q + 1)) M' K) → T_X3_parseEither_21 B2 PC (f + 1) (nI o) x2 (nI q) M K := by
          intro B M K B2 f x2 q h hq hK
          refine cgo B M K B2 f x2 q h hq (fun M' h' => a1 B M' _ h' (fun M2 h2 => ⟨fun z => absurd z (by decide), fun _ => cadd (10, 0) h2 len rfl (fun M3 h3 y20 g20 => ?_)⟩))
          rw [List.append_assoc] at h3
          rw [g20, nI_1]
          exact hK M3 h3
        have mgo2 : ∀ (B M : Mm) (K : Int32 → Mm → Prop) (f b : Nat) (s : List Nat), b ≤ o → s.length ≤ 3 * o + 1 → topA s → MA ch k n tk ps en B i cs s o M → n - i < f + 1 → (∀ M' f', n - i1 < f' → MA ch k n tk ps en B i1 (cs ++ (ex ++ [(10, 0)])) s o M' → T_X12_readAny_9 f' (nI b) 0 M' K) → T_X12_readAny_9 (f + 1) (nI b) 0 M K := by
          intro B M K f b s hb hs hts h hf hK
          refine mgo B M K f b s hs hts h (fun M' h' => a2 B M' K 0 f b (10 :: s) (by omega) hb (by show 0 + (s.length + 1) ≤ 3 * o + 2; omega) (by omega) (top_c (P := fun v => ¬ v = 9 ∧ v ≤ 12) (by omega)) h' (by omega) (fun M2 f2 hf2 h2 => hK M2 f2 hf2 (Or.inr ⟨cs ++ ex, by rw [List.append_assoc], ?_⟩)))
          rw [List.replicate_zero, List.append_nil, Nat.sub_zero] at h2
          exact h2
        rcases ih i1 (cs ++ (ex ++ [(10, 0)])) (by omega) ai len2 with ⟨fk, p, b1, b2⟩ | ⟨i', ex2, bi, bt2, b0, b1, b2⟩
        · refine Or.inl ⟨fk, p, fun B M K B2 f x2 q h hf hq hK => ?_, fun B M K f b s hb hs hts h hf hK => ?_⟩
          · obtain ⟨f, rfl⟩ : ∃ g, f = g + 1 := ⟨f - 1, by omega⟩
            exact cgo2 B M K B2 f x2 q h hq (fun M' h' => b1 B M' K B2 f x2 (q + 1) h' (by omega) (by omega) hK)
          · obtain ⟨f, rfl⟩ : ∃ g, f = g + 1 := ⟨f - 1, by omega⟩
            exact mgo2 B M K f b s hb hs hts h hf (fun M' f' hf' h' => b2 B M' K f' b s hb hs hts h' hf' hK)
        · refine Or.inr ⟨i', (ex ++ [(10, 0)]) ++ ex2, bi, bt2, e0.el b0, fun B M K B2 f x2 q h hf hq hK => ?_, fun B M K f b s hb hs hts h hf hK => ?_⟩
          · obtain ⟨f, rfl⟩ : ∃ g, f = g + 1 := ⟨f - 1, by omega⟩
            rw [← List.append_assoc] at hK
            exact cgo2 B M K B2 f x2 q h hq (fun M' h' => b1 B M' K B2 f x2 (q + 1) h' (by omega) (by omega) hK)
          · obtain ⟨f, rfl⟩ : ∃ g, f = g + 1 := ⟨f - 1, by omega⟩
            rw [← List.append_assoc] at hK
            exact mgo2 B M K f b s hb hs hts h hf (fun M' f' hf' h' => b2 B M' K f' b s hb hs hts h' hf' hK)
    · refine Or.inr ⟨i, [], hi, ht, EL.nil, fun B M K B2 f x2 q h hf hq hK => ?_, fun B M K f b s hb hs hts h hf hK => ?_⟩
      · obtain ⟨f, rfl⟩ : ∃ g, f = g + 1 := ⟨f - 1, by omega⟩
        rw [List.append_nil] at hK
        rw [T_X3_parseEither_21, h.1.2.2.2.1, c261]
        exact ⟨fun _ => hK M h, fun _ => ⟨fun z => absurd z ht, fun _ => hK M h⟩⟩
      · rw [List.append_nil] at hK
        exact hK M f hf h
theorem ot_ok {ch : Nat → Nat} {k n : Nat} {tk ps en : Nat → Nat} (hS : TS ch k n tk ps en) {PC : Int32 → Mm → (Int32 → Mm → Prop) → Prop} {o : Nat} (ho : o ≤ 8) (hC : ∀ i cs, i ≤ n → cs.length ≤ i → CaS ch k n tk ps en PC o i cs) {i : Nat} {cs : List (Nat × Nat)} (hi : i ≤ n) (hl : cs.length ≤ i) :
    (∃ fk p, (∀ (B M : Mm) (K : Int32 → Mm → Prop) (B2 : Int32 → Int32 → Mm → Prop) (x2 : Int32), CQ n tk ps B i cs M → (∀ M', CFt B fk p M' → K 0 M') → PC (nI o) M (fun r24 M23 => (r24 = 0 → K 0 M23) ∧ (¬ r24 = 0 → T_X3_parseEither_21 B2 PC 5000 (nI o) x2 0 M23 K))) ∧ (∀ (B M : Mm) (K : Int32 → Mm → Prop) (f b : Nat) (s : List Nat), b ≤ o → s.length ≤ 3 * o + 1 → topA s → MP ch k n tk ps en B i cs s o M → n - i < f → (∀ M', MFx B fk p M' → K (-1) M') → T_X12_readAny_9 f (nI b) 1 M K)) ∨
    (∃ i' ex, i' ≤ n ∧ ¬ tk i' = 261 ∧ EX true (2 * o + 1) i i' ex ∧ (∀ (B M : Mm) (K : Int32 → Mm → Prop) (B2 : Int32 → Int32 → Mm → Prop) (x2 : Int32), CQ n tk ps B i cs M → (∀ M', CQ n tk ps B i' (cs ++ ex) M' → T_X3_parseEither_75 B2 PC (nI o) x2 M' K) → PC (nI o) M (fun r24 M23 => (r24 = 0 → K 0 M23) ∧ (¬ r24 = 0 → T_X3_parseEither_21 B2 PC 5000 (nI o) x2 0 M23 K))) ∧ (∀ (B M : Mm) (K : Int32 → Mm → Prop) (f b : Nat) (s : List Nat), b ≤ o → s.length ≤ 3 * o + 1 → topA s → MP ch k n tk ps en B i cs s o M → n - i < f → (∀ M' f', n - i' < f' → MA ch k n tk ps en B i' (cs ++ ex) s o M' → T_X12_readAny_9 f' (nI b) 0 M' K) → T_X12_readAny_9 f (nI b) 1 M K)) := by
  have hn := hS.n
  have t9 : ∀ s, topA s → top9 s := fun s h v r e => by have := h v r e; omega
  rcases hC i cs hi hl with ⟨fk, p, a1, a2⟩ | ⟨i1, ex, ai, a0, a1, a2⟩
  · exact Or.inl ⟨fk, p, fun B M K B2 x2 h hK => a1 B M _ h (fun M' h' => ⟨fun _ => hK M' h', fun z => absurd rfl z⟩), fun B M K f b s hb hs hts h hf hK => a2 B M K 0 f b s (by omega) hb (by omega) (by omega) (t9 s hts) h hf hK⟩
  · have x1 := a0.1
    have x2 := a0.2.1
    rcases al_ok hS ho hC (n - i1) i1 (cs ++ ex) (by omega) ai (by rw [List.length_append]; omega) with ⟨fk, p, b1, b2⟩ | ⟨i', ex2, bi, bt2, b0, b1, b2⟩
    · refine Or.inl ⟨fk, p, fun B M K B2 x2 h hK => a1 B M _ h (fun M' h' => ⟨fun z => absurd z (by decide), fun _ => b1 B M' K B2 5000 x2 0 h' (by omega) (by omega) hK⟩), fun B M K f b s hb hs hts h hf hK => a2 B M K 0 f b s (by omega) hb (by omega) (by omega) (t9 s hts) h hf (fun M2 f2 hf2 h2 => ?_)⟩
      rw [List.replicate_zero, List.append_nil, Nat.sub_zero] at h2
      exact b2 B M2 K f2 b s hb hs hts (Or.inl h2) hf2 hK
    · refine Or.inr ⟨i', ex ++ ex2, bi, bt2, (a0.w (by omega)).el b0, fun B M K B2 x2 h hK => a1 B M _ h (fun M' h' => ⟨fun z => absurd z (by decide), fun _ => b1 B M' K B2 5000 x2 0 h' (by omega) (by omega) (by rw [List.append_assoc]; exact hK)⟩), fun B M K f b s hb hs hts h hf hK => a2 B M K 0 f b s (by omega) hb (by omega) (by omega) (t9 s hts) h hf (fun M2 f2 hf2 h2 => ?_)⟩
      rw [List.replicate_zero, List.append_nil, Nat.sub_zero] at h2
      exact b2 B M2 K f2 b s hb hs hts (Or.inl h2) hf2 (by rw [List.append_assoc]; exact hK)
theorem ro_ok {ch : Nat → Nat} {k n : Nat} {tk ps en : Nat → Nat} (hS : TS ch k n tk ps en) {PC : Int32 → Mm → (Int32 → Mm → Prop) → Prop} {o : Nat} (ho : o ≤ 8) (hC : ∀ i cs, i ≤ n → cs.length ≤ i → CaS ch k n tk ps en PC o i cs) : ∀ (r i : Nat) (cs : List (Nat × Nat)), n - i ≤ r → i ≤ n → cs.length ≤ i → ¬ tk i = 261 →
    (∃ fk p, (∀ (B M : Mm) (K : Int32 → Mm → Prop) (f x : Nat), CQ n tk ps B i cs M → n - i < f → x ≤ i → (∀ M', CFt B fk p M' → K 0 M') → T_X3_parseEither_90 (fun x1 x2 M => T_X3_parseEither_2 PC f x1 x2 M K) PC (nI o) (nI x) M K) ∧ (∀ (B M : Mm) (K : Int32 → Mm → Prop) (f b : Nat) (s : List Nat), b ≤ o → s.length ≤ 3 * o → topB s → MO ch k n tk ps en B i cs s o M → n - i < f → (∀ M', MFx B fk p M' → K (-1) M') → T_X12_readAny_9 f (nI b) 0 M K)) ∨
    (∃ i' ex, i' ≤ n ∧ EL true (2 * o) i i' ex ∧ (∀ (B M : Mm) (K : Int32 → Mm → Prop) (f x : Nat), CQ n tk ps B i cs M → n - i < f → x ≤ i → (∀ M', CQ n tk ps B i' (cs ++ ex) M' → K 1 M') → T_X3_parseEither_90 (fun x1 x2 M => T_X3_parseEither_2 PC f x1 x2 M K) PC (nI o) (nI x) M K) ∧ (∀ (B M : Mm) (K : Int32 → Mm → Prop) (f b : Nat) (s : List Nat), b ≤ o → s.length ≤ 3 * o → topB s → MO ch k n tk ps en B i cs s o M → n - i < f → (∀ M' f', n - i' ≤ f' → MP ch k n tk ps en B i' (cs ++ ex) s o M' → raT f' b M' K) → T_X12_readAny_9 f (nI b) 0 M K)) := by
  have hn := hS.n
  intro r
  induction r with
  | zero =>
    intro i cs hr hi hl hne
    have e : i = n := by omega
    have t0 : tk i = 0 := by rw [e]; exact hS.2.2.2.2.2.1
    refine Or.inr ⟨i, [], hi, EL.nil, fun B M K f x h hf hx hK => ?_, fun B M K f b s hb hs hts h hf hK => ?_⟩
    · rw [List.append_nil] at hK
      rw [T_X3_parseEither_90, h.1.2.2.2.1, t0]
      exact ⟨fun z => absurd z (by decide), fun _ => hK M h⟩
    · obtain ⟨f, rfl⟩ : ∃ g, f = g + 1 := ⟨f - 1, by omega⟩
      rw [List.append_nil] at hK
      rw [T_X12_readAny_9]
      refine ⟨fun _ => ?_, fun z => absurd rfl z⟩
      refine iwd_n (w := 5) h.t (by omega) rfl (by omega) ⟨fun _ => ?_, fun z => absurd rfl z⟩
      refine iwd_n (w := 4) h.t (by omega) rfl (by omega) ⟨fun _ => ?_, fun z => absurd rfl z⟩
      exact sO h (by omega) (by omega) hts (fun M' h' => hK M' f (by omega) h')
  | succ r ih =>
    intro i cs hr hi hl hne
    have tb := tkc_b (hS.c hi)
    have c260 : nI (tk i) = (260 : Int32) ↔ tk i = 260 := nI_eq (b := 260) (by omega) (by decide)
    by_cases ht : tk i = 260
    · have hin : i < n := hS.z hi (by omega)
      have cgo : ∀ (B M : Mm) (K : Int32 → Mm → Prop) (f x : Nat), CQ n tk ps B i cs M → x ≤ i → (∀ M', CQ n tk ps B (i + 1) cs M' → PC (nI o) M' (fun r24 M23 => (r24 = 0 → K 0 M23) ∧ (¬ r24 = 0 → T_X3_parseEither_21 (fun x1 x2 M => T_X3_parseEither_2 PC f x1 x2 M K) PC 5000 (nI o) (nI (x + 1)) 0 M23 K))) → T_X3_parseEither_90 (fun x1 x2 M => T_X3_parseEither_2 PC (f + 1) x1 x2 M K) PC (nI o) (nI x) M K := by
        intro B M K f x h hx hK
        rw [T_X3_parseEither_90, h.1.2.2.2.1, c260]
        refine ⟨fun _ => cstep hn h hin (fun M' h' y4 g4 => ?_), fun z => absurd ht z⟩
        rw [g4, nI_1, T_X3_parseEither_2]
        exact pk_lt 400 (x + 1) (fun z => absurd z (by omega)) (fun _ => hK M' h')
      have mgo : ∀ (B M : Mm) (K : Int32 → Mm → Prop) (f b : Nat) (s : List Nat), s.length ≤ 3 * o → topB s → MO ch k n tk ps en B i cs s o M → (∀ M', MP ch k n tk ps en B (i + 1) cs (11 :: s) o M' → T_X12_readAny_9 f (nI b) 1 M' K) → T_X12_readAny_9 (f + 1) (nI b) 0 M K := by
        intro B M K f b s hs hts h hK
        rw [T_X12_readAny_9]
        refine ⟨fun _ => ?_, fun z => absurd rfl z⟩
        refine iwd_n (w := 5) h.t (by omega) rfl (by omega) ⟨fun _ => ?_, fun z => absurd rfl z⟩
        refine iwd_y (w := 4) h.t (by omega) rfl ht ⟨fun z => absurd z (by decide), fun _ => ?_⟩
        exact sO h (by omega) (by omega) hts (fun M1 h1 => pwait (w := 11) h1 (by omega) rfl (fun M2 h2 => pread hS h2 hin hK))
      have tA : ∀ s : List Nat, topA (11 :: s) := fun s => top_c (P := fun v => v = 11 ∨ v = 12) (Or.inl rfl)
      rcases ot_ok hS ho hC (i := i + 1) (cs := cs) (by omega) (by omega) with ⟨fk, p, a1, a2⟩ | ⟨i1, ex, ai, at2, a0, a1, a2⟩
      · refine Or.inl ⟨fk, p, fun B M K f x h hf hx hK => ?_, fun B M K f b s hb hs hts h hf hK => ?_⟩
        · obtain ⟨f, rfl⟩ : ∃ g, f = g + 1 := ⟨f - 1, by omega⟩
          exact cgo B M K f x h hx (fun M' h' => a1 B M' K _ _ h' hK)
        · obtain ⟨f, rfl⟩ : ∃ g, f = g + 1 := ⟨f - 1, by omega⟩
          exact mgo B M K f b s hs hts h (fun M' h' => a2 B M' K f b (11 :: s) hb (by show s.length + 1 ≤ 3 * o + 1; omega) (tA s) h' (by omega) hK)
      · have e0 : EL true (2 * o) i i1 (ex ++ [(11, 0)]) := EX.j a0 (Or.inr rfl)
        have x1 := a0.1
        have x2 := a0.2.1
        have len : (cs ++ ex).length < 400 := by rw [List.length_append]; omega
        have len2 : (cs ++ (ex ++ [(11, 0)])).length ≤ i1 := by rw [List.length_append]; have := e0.2.1; omega
        have cgo2 : ∀ (B M : Mm) (K : Int32 → Mm → Prop) (f x : Nat), CQ n tk ps B i cs M → x ≤ i → (∀ M', CQ n tk ps B i1 (cs ++ (ex ++ [(11, 0)])) M' → T_X3_parseEither_90 (fun x1 x2 M => T_X3_parseEither_2 PC f x1 x2 M K) PC (nI o) (nI (x + 1)) M' K) → T_X3_parseEither_90 (fun x1 x2 M => T_X3_parseEither_2 PC (f + 1) x1 x2 M K) PC (nI o) (nI x) M K := by
          intro B M K f x h hx hK
          refine cgo B M K f x h hx (fun M' h' => a1 B M' K _ _ h' (fun M2 h2 => ?_))
          rw [T_X3_parseEither_75]
          refine ⟨fun z => absurd z (nI_nle (by omega) (by omega)), fun _ => cadd (11, 0) h2 len rfl (fun M3 h3 => ?_)⟩
          rw [List.append_assoc] at h3
          exact hK M3 h3
        have mgo2 : ∀ (B M : Mm) (K : Int32 → Mm → Prop) (f b : Nat) (s : List Nat), b ≤ o → s.length ≤ 3 * o → topB s → MO ch k n tk ps en B i cs s o M → n - i < f + 1 → (∀ M' f', n - i1 < f' → MO ch k n tk ps en B i1 (cs ++ (ex ++ [(11, 0)])) s o M' → T_X12_readAny_9 f' (nI b) 0 M' K) → T_X12_readAny_9 (f + 1) (nI b) 0 M K := by
          intro B M K f b s hb hs hts h hf hK
          exact mgo B M K f b s hs hts h (fun M' h' => a2 B M' K f b (11 :: s) hb (by show s.length + 1 ≤ 3 * o + 1; omega) (tA s) h' (by omega) (fun M2 f2 hf2 h2 => hK M2 f2 hf2 (Or.inr ⟨cs ++ ex, by rw [List.append_assoc], h2⟩)))
        rcases ih i1 (cs ++ (ex ++ [(11, 0)])) (by omega) ai len2 at2 with ⟨fk, p, b1, b2⟩ | ⟨i', ex2, bi, b0, b1, b2⟩
        · refine Or.inl ⟨fk, p, fun B M K f x h hf hx hK => ?_, fun B M K f b s hb hs hts h hf hK => ?_⟩
          · obtain ⟨f, rfl⟩ : ∃ g, f = g + 1 := ⟨f - 1, by omega⟩
            exact cgo2 B M K f x h hx (fun M' h' => b1 B M' K f (x + 1) h' (by omega) (by omega) hK)
          · obtain ⟨f, rfl⟩ : ∃ g, f = g + 1 := ⟨f - 1, by omega⟩
            exact mgo2 B M K f b s hb hs hts h hf (fun M' f' hf' h' => b2 B M' K f' b s hb hs hts h' hf' hK)
        · refine Or.inr ⟨i', (ex ++ [(11, 0)]) ++ ex2, bi, e0.el b0, fun B M K f x h hf hx hK => ?_, fun B M K f b s hb hs hts h hf hK => ?_⟩
          · obtain ⟨f, rfl⟩ : ∃ g, f = g + 1 := ⟨f - 1, by omega⟩
            rw [← List.append_assoc] at hK
            exact cgo2 B M K f x h hx (fun M' h' => b1 B M' K f (x + 1) h' (by omega) (by omega) hK)
          · obtain ⟨f, rfl⟩ : ∃ g, f = g + 1 := ⟨f - 1, by omega⟩
            rw [← List.append_assoc] at hK
            exact mgo2 B M K f b s hb hs hts h hf (fun M' f' hf' h' => b2 B M' K f' b s hb hs hts h' hf' hK)
    · refine Or.inr ⟨i, [], hi, EL.nil, fun B M K f x h hf hx hK => ?_, fun B M K f b s hb hs hts h hf hK => ?_⟩
      · rw [List.append_nil] at hK
        rw [T_X3_parseEither_90, h.1.2.2.2.1, c260]
        exact ⟨fun z => absurd z ht, fun _ => hK M h⟩
      · obtain ⟨f, rfl⟩ : ∃ g, f = g + 1 := ⟨f - 1, by omega⟩
        rw [List.append_nil] at hK
        rw [T_X12_readAny_9]
        refine ⟨fun _ => ?_, fun z => absurd rfl z⟩
        refine iwd_n (w := 5) h.t (by omega) rfl (by omega) ⟨fun _ => ?_, fun z => absurd rfl z⟩
        refine iwd_n (w := 4) h.t (by omega) rfl (by omega) ⟨fun _ => ?_, fun z => absurd rfl z⟩
        exact sO h (by omega) (by omega) hts (fun M' h' => hK M' f (by omega) h')
theorem ei_ok {ch : Nat → Nat} {k n : Nat} {tk ps en : Nat → Nat} (hS : TS ch k n tk ps en) {PC : Int32 → Mm → (Int32 → Mm → Prop) → Prop} {o : Nat} (ho : o ≤ 8) (hC : ∀ i cs, i ≤ n → cs.length ≤ i → CaS ch k n tk ps en PC o i cs) {i : Nat} {cs : List (Nat × Nat)} (hi : i ≤ n) (hl : cs.length ≤ i) : EiS ch k n tk ps en PC o i cs := by
  have hn := hS.n
  have tBA : ∀ s : List Nat, topB s → topA s := fun s h v r e => Or.inr (h v r e)
  have c2 : ∀ (M : Mm) (K : Int32 → Mm → Prop), PC (nI o) M (fun r24 M23 => (r24 = 0 → K 0 M23) ∧ (¬ r24 = 0 → T_X3_parseEither_21 (fun x1 x2 M => T_X3_parseEither_2 PC 4999 x1 x2 M K) PC 5000 (nI o) 0 0 M23 K)) → T_X3_parseEither PC (nI o) M K := by
    intro M K h
    rw [T_X3_parseEither]
    show T_X3_parseEither_2 PC (4999 + 1) (nI o) 0 M K
    rw [T_X3_parseEither_2]
    exact ⟨fun z => absurd z (by decide), fun _ => h⟩
  rcases ot_ok hS ho hC hi hl with ⟨fk, p, a1, a2⟩ | ⟨i1, ex, ai, at2, a0, a1, a2⟩
  · exact Or.inl ⟨fk, p, fun B M K h hK => c2 M K (a1 B M K _ _ h hK), fun B M K f b s hb hs hts h hf hK => a2 B M K f b s hb (by omega) (tBA s hts) h hf hK⟩
  · have x1 := a0.1
    have x2 := a0.2.1
    have c75 : ∀ (M : Mm) (K : Int32 → Mm → Prop), T_X3_parseEither_90 (fun x1 x2 M => T_X3_parseEither_2 PC 4999 x1 x2 M K) PC (nI o) (nI 0) M K → T_X3_parseEither_75 (fun x1 x2 M => T_X3_parseEither_2 PC 4999 x1 x2 M K) PC (nI o) 0 M K := by
      intro M K h
      rw [T_X3_parseEither_75]
      exact ⟨fun _ => h, fun z => absurd (by decide) z⟩
    rcases ro_ok hS ho hC (n - i1) i1 (cs ++ ex) (by omega) ai (by rw [List.length_append]; omega) at2 with ⟨fk, p, b1, b2⟩ | ⟨i', ex2, bi, b0, b1, b2⟩
    · exact Or.inl ⟨fk, p, fun B M K h hK => c2 M K (a1 B M K _ _ h (fun M' h' => c75 M' K (b1 B M' K 4999 0 h' (by omega) (by omega) hK))), fun B M K f b s hb hs hts h hf hK => a2 B M K f b s hb (by omega) (tBA s hts) h hf (fun M' f' hf' h' => b2 B M' K f' b s hb hs hts (Or.inl h') hf' hK)⟩
    · refine Or.inr ⟨i', ex ++ ex2, bi, (a0.w (by omega)).el b0, fun B M K h hK => c2 M K (a1 B M K _ _ h (fun M' h' => c75 M' K (b1 B M' K 4999 0 h' (by omega) (by omega) (by rw [List.append_assoc]; exact hK)))), fun B M K f b s hb hs hts h hf hK => a2 B M K f b s hb (by omega) (tBA s hts) h hf (fun M' f' hf' h' => b2 B M' K f' b s hb hs hts (Or.inl h') hf' (by rw [List.append_assoc]; exact hK))⟩
