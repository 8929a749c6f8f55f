/-! TEXT: products and sums -/
set_option maxHeartbeats 1000000 in
theorem pe_ok {ch : Nat → Nat} {k n : Nat} {tk ps en : Nat → Nat} (hS : TS ch k n tk ps en) {i : Nat} {cs : List (Nat × Nat)} (hi : i < n) (hl : cs.length ≤ i) (hs : tk i = 42 ∨ tk i = 47) :
    (∃ fk p, (∀ (B M : Mm) (K : Int32 → Mm → Prop) (B4 : Int32 → Int32 → Mm → Prop) (B23 : Int32 → Int32 → Int32 → Mm → Prop) (x1 x2 x3 : Int32), CQ n tk ps B i cs M → (∀ M', CFt B fk p M' → K 0 M') → T_X3_parseSum_54 B4 B23 x1 x2 x3 M K) ∧ (∀ (B M : Mm) (K : Int32 → Mm → Prop) (B10 : Mm → Prop), ME ch k n tk ps en B i cs M → (∀ M', MFs B fk p M' → K (-1) M') → T_X12_readProduct_28 B10 M K)) ∨
    (∃ ex, EL false 29 i (i + 2) ex ∧ i + 2 ≤ n ∧ (∀ (B M : Mm) (K : Int32 → Mm → Prop) (B4 : Int32 → Int32 → Mm → Prop) (B23 : Int32 → Int32 → Int32 → Mm → Prop) (x1 x2 x3 : Int32), CQ n tk ps B i cs M → (∀ M', CQ n tk ps B (i + 2) (cs ++ ex) M' → B23 x1 x2 (x3 + 1) M') → T_X3_parseSum_54 B4 B23 x1 x2 x3 M K) ∧ (∀ (B M : Mm) (K : Int32 → Mm → Prop) (B10 : Mm → Prop), ME ch k n tk ps en B i cs M → (∀ M', ME ch k n tk ps en B (i + 2) (cs ++ ex) M' → B10 M') → T_X12_readProduct_28 B10 M K)) := by
  have hn := hS.n
  -- the class, given its unit
  have clsf : ∀ (fk p : Nat) (s1 : Int32), (tk i = 42 → s1 = 0) → (tk i = 47 → s1 = 1) → (∀ (B M : Mm) (K : Int32 → Mm → Prop), CQ n tk ps B (i + 1) cs M → (∀ M', CFt B fk p M' → K 0 M') → T_X3_parseUnit s1 M K) → ∀ (B M : Mm) (K : Int32 → Mm → Prop) (B4 : Int32 → Int32 → Mm → Prop) (B23 : Int32 → Int32 → Int32 → Mm → Prop) (x1 x2 x3 : Int32), CQ n tk ps B i cs M → (∀ M', CFt B fk p M' → K 0 M') → T_X3_parseSum_54 B4 B23 x1 x2 x3 M K := by
    intro fk p s1 hs1 hs2 hu B M K B4 B23 x1 x2 x3 h hK
    rw [T_X3_parseSum_54]
    intro y19 g19
    rw [h.1.2.2.2.1] at g19
    have fin_v : ∀ M', CQ n tk ps B (i + 1) cs M' → T_X3_parseSum_83 B4 B23 x1 x2 x3 y19 s1 M' K := by
      intro M' h'
      rw [T_X3_parseSum_83]
      exact hu B M' _ h' (fun M2 h2 => ⟨fun _ => hK M2 h2, fun z => absurd rfl z⟩)
    refine cstep hn h hi (fun M' h' => ?_)
    rcases hs with e | e
    · rw [e] at g19
      rw [hs1 e] at fin_v
      exact ⟨fun z => absurd (g19.symm.trans z) (by decide), fun _ => fin_v M' h'⟩
    · rw [e] at g19
      rw [hs2 e] at fin_v
      exact ⟨fun _ => fin_v M' h', fun z => absurd g19 z⟩
  have clsk : ∀ (x y : Nat × Nat) (s1 : Int32), (tk i = 42 → s1 = 0) → (tk i = 47 → s1 = 1) → i + 2 ≤ n → cN y = 20000 + tk i → (∀ (B M : Mm) (K : Int32 → Mm → Prop), CQ n tk ps B (i + 1) cs M → (∀ M', CQ n tk ps B (i + 2) (cs ++ [x]) M' → K 1 M') → T_X3_parseUnit s1 M K) → ∀ (B M : Mm) (K : Int32 → Mm → Prop) (B4 : Int32 → Int32 → Mm → Prop) (B23 : Int32 → Int32 → Int32 → Mm → Prop) (x1 x2 x3 : Int32), CQ n tk ps B i cs M → (∀ M', CQ n tk ps B (i + 2) (cs ++ [x, y]) M' → B23 x1 x2 (x3 + 1) M') → T_X3_parseSum_54 B4 B23 x1 x2 x3 M K := by
    intro x y s1 hs1 hs2 hi2 hy hu B M K B4 B23 x1 x2 x3 h hK
    rw [T_X3_parseSum_54]
    intro y19 g19
    rw [h.1.2.2.2.1] at g19
    have fin_v : ∀ M', CQ n tk ps B (i + 1) cs M' → T_X3_parseSum_83 B4 B23 x1 x2 x3 y19 s1 M' K := by
      intro M' h'
      rw [T_X3_parseSum_83]
      refine hu B M' _ h' (fun M2 h2 => ⟨fun z => absurd z (by decide), fun _ => ?_⟩)
      refine cadd y h2 (by rw [List.length_append]; show cs.length + 1 < 400; omega) ?_ (fun M3 h3 y18 g18 => ?_)
      · rw [g19, hy, show (20000 : Int32) = nI 20000 from rfl, nI_add]
      · rw [g18]
        rw [List.append_assoc] at h3
        exact hK M3 h3
    refine cstep hn h hi (fun M' h' => ?_)
    rcases hs with e | e
    · rw [e] at g19
      rw [hs1 e] at fin_v
      exact ⟨fun z => absurd (g19.symm.trans z) (by decide), fun _ => fin_v M' h'⟩
    · rw [e] at g19
      rw [hs2 e] at fin_v
      exact ⟨fun _ => fin_v M' h', fun z => absurd g19 z⟩
  have m42 : ∀ (B M : Mm) (K : Int32 → Mm → Prop) (B10 : Mm → Prop), tk i = 42 → ME ch k n tk ps en B i cs M → (∀ M', ME ch k n tk ps en B (i + 1) cs M' → T_X12_readProduct_74 B10 1 M' K) → T_X12_readProduct_28 B10 M K := by
    intro B M K B10 e h hK
    rw [T_X12_readProduct_28]
    refine isg_y (s := 42) h.1.2.2.2.2 (by unfold isSn; omega) rfl e ?_
    refine mread hS h hi (fun M' h' => ⟨fun z => absurd z (by decide), fun _ => ?_⟩)
    rw [T_X12_readProduct_57]
    exact ⟨fun z => absurd z (by decide), fun _ => hK M' h'⟩
  have m47 : ∀ (B M : Mm) (K : Int32 → Mm → Prop) (B10 : Mm → Prop), tk i = 47 → ME ch k n tk ps en B i cs M → (∀ M', ME ch k n tk ps en B (i + 1) cs M' → (1000 ≤ tk (i + 1) → T_X12_readProduct_57 B10 0 M' K) ∧ (¬ 1000 ≤ tk (i + 1) → T_X12_errs 1 M' K)) → T_X12_readProduct_28 B10 M K := by
    intro B M K B10 e h hK
    rw [T_X12_readProduct_28]
    refine isg_n (s := 42) h.1.2.2.2.2 (by unfold isSn; omega) rfl (by omega) ?_
    refine mread hS h hi (fun M' h' => ⟨fun _ => ?_, fun z => absurd rfl z⟩)
    obtain ⟨k1, k2⟩ := hK M' h'
    have q3 := tR_3 h'.1.2.2.2.2
    exact ⟨fun z => k1 (q3.mp z), fun z => k2 (fun y => z (q3.mpr y))⟩
  have tyx : ∀ x : Nat × Nat, (x.1 = 0 ∨ x.1 = 1) → ∀ u : List Bool, u.length ≤ 29 → tyA [x] (false :: u) (false :: false :: u) := fun x hx u hu => tyA.one (fun p => Or.inl ⟨hx, by show u.length + 1 ≤ 30; omega, rfl⟩)
  rcases tk_u (hS.c (i := i + 1) (by omega)) with ⟨v, v1, v2⟩ | ⟨w, w1, w2⟩ | ⟨b1, b2⟩
  · have hi2 : i + 1 < n := hS.z (by omega) (by omega)
    rcases hs with e | e
    · refine Or.inr ⟨[(0, v), (4, 0)], ⟨by omega, by show 2 + i ≤ i + 2; omega, ?_, fun u hu => ?_⟩, by omega, clsk (0, v) (4, 0) 0 (fun _ => rfl) (fun z => absurd z (by omega)) (by omega) (by rw [e]; rfl) (fun B M K h hK => cu_num hn hi2 (by omega) v2 v1 (Or.inl rfl) h hK), fun B M K B10 h hK => m42 B M K B10 e h (fun M' h' => ?_)⟩
      · exact ok_app (a := [(0, v)]) (b := [(4, 0)]) (ok_1 (Or.inl ⟨rfl, v1⟩)) (ok_1 (Or.inr (Or.inr (by decide))))
      · exact tyA.app (a := [(0, v)]) (b := [(4, 0)]) (tyx (0, v) (Or.inl rfl) u hu) (tyA.one (fun p => Or.inr (Or.inl ⟨Or.inr (Or.inr rfl), u, rfl, rfl⟩)))
      · rw [T_X12_readProduct_74]
        refine mu_num hS hi2 (by omega) v2 h' (fun M2 h2 => ⟨fun z => absurd z (by decide), fun _ => ⟨fun z => absurd z (by decide), fun _ => ?_⟩⟩)
        rw [T_X12_readProduct_94]
        refine memit (4, 0) h2 (by rw [List.length_append]; show cs.length + 1 < 400; omega) rfl rfl (fun M3 h3 => ?_)
        rw [List.append_assoc] at h3
        exact hK M3 h3
    · by_cases v0 : v = 0
      · refine Or.inl ⟨2, ps (i + 1), clsf 2 (ps (i + 1)) 1 (fun z => absurd z (by omega)) (fun _ => rfl) (fun B M K h hK => cu_zero hn (by omega) (by decide) h hK), fun B M K B10 h hK => m47 B M K B10 e h (fun M' h' => ⟨fun _ => ?_, fun z => absurd (by omega) z⟩)⟩
        have hv := (tR_n h'.1.2.2.2.2 (by omega)).2
        rw [v2, v0] at hv
        rw [T_X12_readProduct_57]
        exact ⟨fun _ => ⟨fun _ => merr (fk := 2) h' rfl hK, fun z => absurd hv z⟩, fun z => absurd rfl z⟩
      · refine Or.inr ⟨[(0, v), (5, 0)], ⟨by omega, by show 2 + i ≤ i + 2; omega, ?_, fun u hu => ?_⟩, by omega, clsk (0, v) (5, 0) 1 (fun z => absurd z (by omega)) (fun _ => rfl) (by omega) (by rw [e]; rfl) (fun B M K h hK => cu_num hn hi2 (by omega) v2 v1 (Or.inr v0) h hK), fun B M K B10 h hK => m47 B M K B10 e h (fun M' h' => ⟨fun _ => ?_, fun z => absurd (by omega) z⟩)⟩
        · exact ok_app (a := [(0, v)]) (b := [(5, 0)]) (ok_1 (Or.inl ⟨rfl, v1⟩)) (ok_1 (Or.inr (Or.inr (by decide))))
        · exact fun p => ⟨false :: false :: u, Or.inl ⟨Or.inl rfl, by show u.length + 1 ≤ 30; omega, rfl⟩, false :: u, Or.inr (Or.inr (Or.inl ⟨rfl, rfl, v0, u, rfl, rfl⟩)), rfl⟩
        · have hv := (tR_n h'.1.2.2.2.2 (by omega)).2
          rw [v2, show 1000 + v - 1000 = v by omega] at hv
          rw [T_X12_readProduct_57, hv]
          refine ⟨fun _ => ⟨fun z => absurd z (nI_ne0 (by omega) (by omega)), fun _ => ?_⟩, fun z => absurd rfl z⟩
          rw [T_X12_readProduct_74]
          refine mu_num hS hi2 (by omega) v2 h' (fun M2 h2 => ⟨fun z => absurd z (by decide), fun _ => ⟨fun _ => ?_, fun z => absurd rfl z⟩⟩)
          rw [T_X12_readProduct_94]
          refine memit (5, 0) h2 (by rw [List.length_append]; show cs.length + 1 < 400; omega) rfl rfl (fun M3 h3 => ?_)
          rw [List.append_assoc] at h3
          exact hK M3 h3
  · have hi2 : i + 1 < n := hS.z (by omega) (by omega)
    rcases hs with e | e
    · refine Or.inr ⟨[(1, w), (4, 0)], ⟨by omega, by show 2 + i ≤ i + 2; omega, ?_, fun u hu => ?_⟩, by omega, clsk (1, w) (4, 0) 0 (fun _ => rfl) (fun z => absurd z (by omega)) (by omega) (by rw [e]; rfl) (fun B M K h hK => cu_wrd hn hi2 (by omega) w2 w1 h hK), fun B M K B10 h hK => m42 B M K B10 e h (fun M' h' => ?_)⟩
      · exact ok_app (a := [(1, w)]) (b := [(4, 0)]) (ok_1 (Or.inr (Or.inl ⟨rfl, w1⟩))) (ok_1 (Or.inr (Or.inr (by decide))))
      · exact tyA.app (a := [(1, w)]) (b := [(4, 0)]) (tyx (1, w) (Or.inr rfl) u hu) (tyA.one (fun p => Or.inr (Or.inl ⟨Or.inr (Or.inr rfl), u, rfl, rfl⟩)))
      · rw [T_X12_readProduct_74]
        refine mu_wrd hS hi2 (by omega) w2 w1 h' (fun M2 h2 => ⟨fun z => absurd z (by decide), fun _ => ⟨fun z => absurd z (by decide), fun _ => ?_⟩⟩)
        rw [T_X12_readProduct_94]
        refine memit (4, 0) h2 (by rw [List.length_append]; show cs.length + 1 < 400; omega) rfl rfl (fun M3 h3 => ?_)
        rw [List.append_assoc] at h3
        exact hK M3 h3
    · exact Or.inl ⟨1, ps (i + 1), clsf 1 (ps (i + 1)) 1 (fun z => absurd z (by omega)) (fun _ => rfl) (fun B M K h hK => cu_bad hn (by omega) (Or.inl (by decide)) h hK), fun B M K B10 h hK => m47 B M K B10 e h (fun M' h' => ⟨fun z => absurd z (by omega), fun _ => merr (fk := 1) h' rfl hK⟩)⟩
  · rcases hs with e | e
    · refine Or.inl ⟨1, ps (i + 1), clsf 1 (ps (i + 1)) 0 (fun _ => rfl) (fun z => absurd z (by omega)) (fun B M K h hK => cu_bad hn b1 (Or.inr b2) h hK), fun B M K B10 h hK => m42 B M K B10 e h (fun M' h' => ?_)⟩
      rw [T_X12_readProduct_74]
      exact mu_bad b1 b2 h' (fun M2 h2 => ⟨fun _ => hK M2 h2, fun z => absurd rfl z⟩)
    · exact Or.inl ⟨1, ps (i + 1), clsf 1 (ps (i + 1)) 1 (fun z => absurd z (by omega)) (fun _ => rfl) (fun B M K h hK => cu_bad hn b1 (Or.inl (by decide)) h hK), fun B M K B10 h hK => m47 B M K B10 e h (fun M' h' => ⟨fun z => absurd z (by omega), fun _ => merr (fk := 1) h' rfl hK⟩)⟩
theorem pl_ok {ch : Nat → Nat} {k n : Nat} {tk ps en : Nat → Nat} (hS : TS ch k n tk ps en) : ∀ (r i : Nat) (cs : List (Nat × Nat)), n - i ≤ r → i ≤ n → cs.length ≤ i →
    (∃ fk p, (∀ (B M : Mm) (K : Int32 → Mm → Prop) (B4 : Int32 → Int32 → Mm → Prop) (f : Nat) (x1 x2 : Int32) (q : Nat), CQ n tk ps B i cs M → n - i < f → q ≤ i → (∀ M', CFt B fk p M' → K 0 M') → T_X3_parseSum_23 B4 f x1 x2 (nI q) M K) ∧ (∀ (B M : Mm) (K : Int32 → Mm → Prop) (f : Nat), ME ch k n tk ps en B i cs M → n - i < f → (∀ M', MFs B fk p M' → K (-1) M') → T_X12_readProduct_10 f M K)) ∨
    (∃ i' ex, i' ≤ n ∧ EL false 29 i i' ex ∧ (∀ (B M : Mm) (K : Int32 → Mm → Prop) (B4 : Int32 → Int32 → Mm → Prop) (f : Nat) (x1 x2 : Int32) (q : Nat), CQ n tk ps B i cs M → n - i < f → q ≤ i → (∀ M', CQ n tk ps B i' (cs ++ ex) M' → T_X3_parseSum_111 B4 x1 x2 M' K) → T_X3_parseSum_23 B4 f x1 x2 (nI q) M K) ∧ (∀ (B M : Mm) (K : Int32 → Mm → Prop) (f : Nat), ME ch k n tk ps en B i cs M → n - i < f → (∀ M', ME ch k n tk ps en B i' (cs ++ ex) M' → K 0 M') → T_X12_readProduct_10 f M K)) := by
  have hn := hS.n
  intro r
  induction r with
  | zero =>
    intro i cs hr hi hl
    have e : i = n := by omega
    have t0 : tk i = 0 := by rw [e]; exact hS.2.2.2.2.2.1
    refine Or.inr ⟨i, [], hi, EL.nil, fun B M K B4 f x1 x2 q h hf hq hK => ?_, fun B M K f h hf hK => ?_⟩
    · obtain ⟨f, rfl⟩ : ∃ g, f = g + 1 := ⟨f - 1, by omega⟩
      rw [List.append_nil] at hK
      rw [T_X3_parseSum_23, h.1.2.2.2.1, t0]
      exact ⟨fun _ => hK M h, fun _ => ⟨fun z => absurd z (by decide), fun _ => ⟨fun z => absurd z (by decide), fun _ => hK M h⟩⟩⟩
    · obtain ⟨f, rfl⟩ : ∃ g, f = g + 1 := ⟨f - 1, by omega⟩
      rw [List.append_nil] at hK
      rw [T_X12_readProduct_10]
      refine isg_n (s := 42) h.1.2.2.2.2 (by unfold isSn; omega) rfl (by omega) ⟨fun _ => ?_, fun z => absurd rfl z⟩
      exact isg_n (s := 47) h.1.2.2.2.2 (by unfold isSn; omega) rfl (by omega) ⟨fun _ => hK M h, fun z => absurd rfl z⟩
  | succ r ih =>
    intro i cs hr hi hl
    have tb := tkc_b (hS.c hi)
    have c42 : nI (tk i) = (42 : Int32) ↔ tk i = 42 := nI_eq (b := 42) (by omega) (by decide)
    have c47 : nI (tk i) = (47 : Int32) ↔ tk i = 47 := nI_eq (b := 47) (by omega) (by decide)
    by_cases hs : tk i = 42 ∨ tk i = 47
    · have hin : i < n := hS.z hi (by omega)
      have cgo : ∀ (M : Mm) (K : Int32 → Mm → Prop) (B4 : Int32 → Int32 → Mm → Prop) (f : Nat) (x1 x2 : Int32) (q : Nat) (B : Mm), CQ n tk ps B i cs M → q ≤ i → T_X3_parseSum_54 B4 (fun x1 x2 x3 M => T_X3_parseSum_23 B4 f x1 x2 x3 M K) x1 x2 (nI q) M K → T_X3_parseSum_23 B4 (f + 1) x1 x2 (nI q) M K := by
        intro M K B4 f x1 x2 q B h hq h54
        rw [T_X3_parseSum_23, h.1.2.2.2.1, c42, c47]
        exact pk_le 400 q (fun z => absurd z (by omega)) (fun _ => ⟨fun _ => h54, fun z => ⟨fun _ => h54, fun y => absurd hs (by omega)⟩⟩)
      have mgo : ∀ (M : Mm) (K : Int32 → Mm → Prop) (f : Nat) (B : Mm), ME ch k n tk ps en B i cs M → T_X12_readProduct_28 (fun M => T_X12_readProduct_10 f M K) M K → T_X12_readProduct_10 (f + 1) M K := by
        intro M K f B h h28
        rw [T_X12_readProduct_10]
        by_cases e : tk i = 42
        · exact isg_y (s := 42) h.1.2.2.2.2 (by unfold isSn; omega) rfl e ⟨fun z => absurd z (by decide), fun _ => h28⟩
        · refine isg_n (s := 42) h.1.2.2.2.2 (by unfold isSn; omega) rfl e ⟨fun _ => ?_, fun z => absurd rfl z⟩
          exact isg_y (s := 47) h.1.2.2.2.2 (by unfold isSn; omega) rfl (by omega) ⟨fun z => absurd z (by decide), fun _ => h28⟩
      rcases pe_ok hS hin hl hs with ⟨fk, p, a1, a2⟩ | ⟨ex, a0, ai, a1, a2⟩
      · refine Or.inl ⟨fk, p, fun B M K B4 f x1 x2 q h hf hq hK => ?_, fun B M K f h hf hK => ?_⟩
        · obtain ⟨f, rfl⟩ : ∃ g, f = g + 1 := ⟨f - 1, by omega⟩
          exact cgo M K B4 f x1 x2 q B h hq (a1 B M K _ _ _ _ _ h hK)
        · obtain ⟨f, rfl⟩ : ∃ g, f = g + 1 := ⟨f - 1, by omega⟩
          exact mgo M K f B h (a2 B M K _ h hK)
      · have al := a0.2.1
        rcases ih (i + 2) (cs ++ ex) (by omega) ai (by rw [List.length_append]; omega) with ⟨fk, p, b1, b2⟩ | ⟨i', ex2, bi, b0, b1, b2⟩
        · refine Or.inl ⟨fk, p, fun B M K B4 f x1 x2 q h hf hq hK => ?_, fun B M K f h hf hK => ?_⟩
          · obtain ⟨f, rfl⟩ : ∃ g, f = g + 1 := ⟨f - 1, by omega⟩
            refine cgo M K B4 f x1 x2 q B h hq (a1 B M K _ _ _ _ _ h (fun M' h' => ?_))
            rw [nI_1]
            exact b1 B M' K B4 f x1 x2 (q + 1) h' (by omega) (by omega) hK
          · obtain ⟨f, rfl⟩ : ∃ g, f = g + 1 := ⟨f - 1, by omega⟩
            exact mgo M K f B h (a2 B M K _ h (fun M' h' => b2 B M' K f h' (by omega) hK))
        · refine Or.inr ⟨i', ex ++ ex2, bi, a0.el b0, fun B M K B4 f x1 x2 q h hf hq hK => ?_, fun B M K f h hf hK => ?_⟩
          · obtain ⟨f, rfl⟩ : ∃ g, f = g + 1 := ⟨f - 1, by omega⟩
            refine cgo M K B4 f x1 x2 q B h hq (a1 B M K _ _ _ _ _ h (fun M' h' => ?_))
            rw [nI_1]
            rw [← List.append_assoc] at hK
            exact b1 B M' K B4 f x1 x2 (q + 1) h' (by omega) (by omega) hK
          · obtain ⟨f, rfl⟩ : ∃ g, f = g + 1 := ⟨f - 1, by omega⟩
            rw [← List.append_assoc] at hK
            exact mgo M K f B h (a2 B M K _ h (fun M' h' => b2 B M' K f h' (by omega) hK))
    · refine Or.inr ⟨i, [], hi, EL.nil, fun B M K B4 f x1 x2 q h hf hq hK => ?_, fun B M K f h hf hK => ?_⟩
      · obtain ⟨f, rfl⟩ : ∃ g, f = g + 1 := ⟨f - 1, by omega⟩
        rw [List.append_nil] at hK
        rw [T_X3_parseSum_23, h.1.2.2.2.1, c42, c47]
        exact ⟨fun _ => hK M h, fun _ => ⟨fun z => absurd (Or.inl z) hs, fun _ => ⟨fun z => absurd (Or.inr z) hs, fun _ => hK M h⟩⟩⟩
      · obtain ⟨f, rfl⟩ : ∃ g, f = g + 1 := ⟨f - 1, by omega⟩
        rw [List.append_nil] at hK
        rw [T_X12_readProduct_10]
        refine isg_n (s := 42) h.1.2.2.2.2 (by unfold isSn; omega) rfl (by omega) ⟨fun _ => ?_, fun z => absurd rfl z⟩
        exact isg_n (s := 47) h.1.2.2.2.2 (by unfold isSn; omega) rfl (by omega) ⟨fun _ => hK M h, fun z => absurd rfl z⟩
theorem prod_ok {ch : Nat → Nat} {k n : Nat} {tk ps en : Nat → Nat} (hS : TS ch k n tk ps en) {i : Nat} {cs : List (Nat × Nat)} (hi : i ≤ n) (hl : cs.length ≤ i) :
    (∃ fk p, (∀ (B M : Mm) (K : Int32 → Mm → Prop) (f : Nat) (x1 : Int32) (q : Nat), CQ n tk ps B i cs M → q ≤ i → (∀ M', CFt B fk p M' → K 0 M') → T_X3_parseSum_4 (f + 1) x1 (nI q) M K) ∧ (∀ (B M : Mm) (K : Int32 → Mm → Prop), ME ch k n tk ps en B i cs M → (∀ M', MFs B fk p M' → K (-1) M') → T_X12_readProduct M K)) ∨
    (∃ i' ex, i' ≤ n ∧ EX false 29 i i' ex ∧ (∀ (B M : Mm) (K : Int32 → Mm → Prop) (f : Nat) (x1 : Int32) (q : Nat), CQ n tk ps B i cs M → q ≤ i → (∀ M', CQ n tk ps B i' (cs ++ ex) M' → T_X3_parseSum_111 (fun x1 x2 M => T_X3_parseSum_4 f x1 x2 M K) x1 (nI q) M' K) → T_X3_parseSum_4 (f + 1) x1 (nI q) M K) ∧ (∀ (B M : Mm) (K : Int32 → Mm → Prop), ME ch k n tk ps en B i cs M → (∀ M', ME ch k n tk ps en B i' (cs ++ ex) M' → K 0 M') → T_X12_readProduct M K)) := by
  have hn := hS.n
  have good_v : ∀ x : Nat × Nat, okc x → (x.1 = 0 ∨ x.1 = 1) → i < n → (∀ (B M : Mm) (K : Int32 → Mm → Prop), CQ n tk ps B i cs M → (∀ M', CQ n tk ps B (i + 1) (cs ++ [x]) M' → K 1 M') → T_X3_parseUnit 0 M K) → (∀ (B M : Mm) (K : Int32 → Mm → Prop), ME ch k n tk ps en B i cs M → (∀ M', ME ch k n tk ps en B (i + 1) (cs ++ [x]) M' → K 0 M') → T_X12_readUnit M K) →
    (∃ fk p, (∀ (B M : Mm) (K : Int32 → Mm → Prop) (f : Nat) (x1 : Int32) (q : Nat), CQ n tk ps B i cs M → q ≤ i → (∀ M', CFt B fk p M' → K 0 M') → T_X3_parseSum_4 (f + 1) x1 (nI q) M K) ∧ (∀ (B M : Mm) (K : Int32 → Mm → Prop), ME ch k n tk ps en B i cs M → (∀ M', MFs B fk p M' → K (-1) M') → T_X12_readProduct M K)) ∨
    (∃ i' ex, i' ≤ n ∧ EX false 29 i i' ex ∧ (∀ (B M : Mm) (K : Int32 → Mm → Prop) (f : Nat) (x1 : Int32) (q : Nat), CQ n tk ps B i cs M → q ≤ i → (∀ M', CQ n tk ps B i' (cs ++ ex) M' → T_X3_parseSum_111 (fun x1 x2 M => T_X3_parseSum_4 f x1 x2 M K) x1 (nI q) M' K) → T_X3_parseSum_4 (f + 1) x1 (nI q) M K) ∧ (∀ (B M : Mm) (K : Int32 → Mm → Prop), ME ch k n tk ps en B i cs M → (∀ M', ME ch k n tk ps en B i' (cs ++ ex) M' → K 0 M') → T_X12_readProduct M K)) := by
    intro x hx hx1 hin cu mun
    have e1 : EX false 29 i (i + 1) [x] := ⟨by omega, by show 1 + i ≤ i + 1; omega, ok_1 hx, fun u hu => tyA.one (fun p => Or.inl ⟨hx1, by omega, rfl⟩)⟩
    have c4 : ∀ (B M : Mm) (K : Int32 → Mm → Prop) (f : Nat) (x1 : Int32) (q : Nat), CQ n tk ps B i cs M → q ≤ i → (∀ M', CQ n tk ps B (i + 1) (cs ++ [x]) M' → T_X3_parseSum_23 (fun x1 x2 M => T_X3_parseSum_4 f x1 x2 M K) 5000 x1 (nI q) (nI 0) M' K) → T_X3_parseSum_4 (f + 1) x1 (nI q) M K := by
      intro B M K f x1 q h hq hK
      rw [T_X3_parseSum_4]
      refine pk_lt 400 q (fun z => absurd z (by omega)) (fun _ => ?_)
      exact cu B M _ h (fun M' h' => ⟨fun z => absurd z (by decide), fun _ => hK M' h'⟩)
    have m4 : ∀ (B M : Mm) (K : Int32 → Mm → Prop), ME ch k n tk ps en B i cs M → (∀ M', ME ch k n tk ps en B (i + 1) (cs ++ [x]) M' → T_X12_readProduct_10 5000 M' K) → T_X12_readProduct M K := by
      intro B M K h hK
      rw [T_X12_readProduct]
      exact mun B M _ h (fun M' h' => ⟨fun z => absurd z (by decide), fun _ => hK M' h'⟩)
    rcases pl_ok hS (n - (i + 1)) (i + 1) (cs ++ [x]) (by omega) (by omega) (by rw [List.length_append]; show cs.length + 1 ≤ i + 1; omega) with ⟨fk, p, b1, b2⟩ | ⟨i', ex2, bi, b0, b1, b2⟩
    · exact Or.inl ⟨fk, p, fun B M K f x1 q h hq hK => c4 B M K f x1 q h hq (fun M' h' => b1 B M' K _ 5000 x1 (nI q) 0 h' (by omega) (by omega) hK), fun B M K h hK => m4 B M K h (fun M' h' => b2 B M' K 5000 h' (by omega) hK)⟩
    · refine Or.inr ⟨i', [x] ++ ex2, bi, e1.el b0, fun B M K f x1 q h hq hK => c4 B M K f x1 q h hq (fun M' h' => b1 B M' K _ 5000 x1 (nI q) 0 h' (by omega) (by omega) ?_), fun B M K h hK => m4 B M K h (fun M' h' => b2 B M' K 5000 h' (by omega) ?_)⟩
      · rw [List.append_assoc]; exact hK
      · rw [List.append_assoc]; exact hK
  rcases tk_u (hS.c hi) with ⟨v, v1, v2⟩ | ⟨w, w1, w2⟩ | ⟨b1, b2⟩
  · have hin : i < n := hS.z hi (by omega)
    exact good_v (0, v) (Or.inl ⟨rfl, v1⟩) (Or.inl rfl) hin (fun B M K h hK => cu_num hn hin (by omega) v2 v1 (Or.inl rfl) h hK) (fun B M K h hK => mu_num hS hin (by omega) v2 h hK)
  · have hin : i < n := hS.z hi (by omega)
    exact good_v (1, w) (Or.inr (Or.inl ⟨rfl, w1⟩)) (Or.inr rfl) hin (fun B M K h hK => cu_wrd hn hin (by omega) w2 w1 h hK) (fun B M K h hK => mu_wrd hS hin (by omega) w2 w1 h hK)
  · refine Or.inl ⟨1, ps i, fun B M K f x1 q h hq hK => ?_, fun B M K h hK => ?_⟩
    · rw [T_X3_parseSum_4]
      refine pk_lt 400 q (fun z => absurd z (by omega)) (fun _ => ?_)
      exact cu_bad hn b1 (Or.inr b2) h (fun M' h' => ⟨fun _ => hK M' h', fun z => absurd rfl z⟩)
    · rw [T_X12_readProduct]
      exact mu_bad b1 b2 h (fun M' h' => ⟨fun _ => hK M' h', fun z => absurd rfl z⟩)
theorem sl_ok {ch : Nat → Nat} {k n : Nat} {tk ps en : Nat → Nat} (hS : TS ch k n tk ps en) : ∀ (r i : Nat) (cs : List (Nat × Nat)), n - i ≤ r → i ≤ n → cs.length ≤ i →
    (∃ fk p, (∀ (B M : Mm) (K : Int32 → Mm → Prop) (f q : Nat), CQ n tk ps B i cs M → n - i < f → q ≤ i → (∀ M', CFt B fk p M' → K 0 M') → T_X3_parseSum_129 (fun x1 x2 M => T_X3_parseSum_4 f x1 x2 M K) (nI q) M K) ∧ (∀ (B M : Mm) (K : Int32 → Mm → Prop) (f : Nat), ME ch k n tk ps en B i cs M → n - i < f → (∀ M', MFs B fk p M' → K (-1) M') → T_X12_readSum_10 f M K)) ∨
    (∃ i' ex, i' ≤ n ∧ EL false 28 i i' ex ∧ (∀ (B M : Mm) (K : Int32 → Mm → Prop) (f q : Nat), CQ n tk ps B i cs M → n - i < f → q ≤ i → (∀ M', CQ n tk ps B i' (cs ++ ex) M' → K 1 M') → T_X3_parseSum_129 (fun x1 x2 M => T_X3_parseSum_4 f x1 x2 M K) (nI q) M K) ∧ (∀ (B M : Mm) (K : Int32 → Mm → Prop) (f : Nat), ME ch k n tk ps en B i cs M → n - i < f → (∀ M', ME ch k n tk ps en B i' (cs ++ ex) M' → K 0 M') → T_X12_readSum_10 f M K)) := by
  have hn := hS.n
  intro r
  induction r with
  | zero =>
    intro i cs hr hi hl
    have e : i = n := by omega
    have t0 : tk i = 0 := by rw [e]; exact hS.2.2.2.2.2.1
    refine Or.inr ⟨i, [], hi, EL.nil, fun B M K f q h hf hq hK => ?_, fun B M K f h hf hK => ?_⟩
    · rw [List.append_nil] at hK
      rw [T_X3_parseSum_129, h.1.2.2.2.1, t0]
      exact ⟨fun z => absurd z (by decide), fun _ => ⟨fun z => absurd z (by decide), fun _ => hK M h⟩⟩
    · obtain ⟨f, rfl⟩ : ∃ g, f = g + 1 := ⟨f - 1, by omega⟩
      rw [List.append_nil] at hK
      rw [T_X12_readSum_10]
      refine isg_n (s := 43) h.1.2.2.2.2 (by unfold isSn; omega) rfl (by omega) ⟨fun _ => ?_, fun z => absurd rfl z⟩
      exact isg_n (s := 45) h.1.2.2.2.2 (by unfold isSn; omega) rfl (by omega) ⟨fun _ => hK M h, fun z => absurd rfl z⟩
  | succ r ih =>
    intro i cs hr hi hl
    have tb := tkc_b (hS.c hi)
    have c43 : nI (tk i) = (43 : Int32) ↔ tk i = 43 := nI_eq (b := 43) (by omega) (by decide)
    have c45 : nI (tk i) = (45 : Int32) ↔ tk i = 45 := nI_eq (b := 45) (by omega) (by decide)
    by_cases hs : tk i = 43 ∨ tk i = 45
    · have hin : i < n := hS.z hi (by omega)
      obtain ⟨op, hop1, hop2, hop3⟩ : ∃ op : Nat, (op = 2 ∨ op = 3) ∧ cN (op, 0) = 20000 + tk i ∧ (tk i = 43 → op = 2) ∧ (¬ tk i = 43 → op = 3) := by
        rcases hs with e | e
        · exact ⟨2, Or.inl rfl, by rw [e]; rfl, fun _ => rfl, fun z => absurd e z⟩
        · exact ⟨3, Or.inr rfl, by rw [e]; rfl, fun z => absurd z (by omega), fun _ => rfl⟩
      have oko : okc (op, 0) := Or.inr (Or.inr (by show 2 ≤ op ∧ op ≤ 11; omega))
      have cgo : ∀ (B M : Mm) (K : Int32 → Mm → Prop) (f q : Nat), CQ n tk ps B i cs M → (∀ M', CQ n tk ps B (i + 1) cs M' → T_X3_parseSum_4 f (nI (tk i)) (nI (q + 1)) M' K) → T_X3_parseSum_129 (fun x1 x2 M => T_X3_parseSum_4 f x1 x2 M K) (nI q) M K := by
        intro B M K f q h hK
        have g155 : T_X3_parseSum_155 (fun x1 x2 M => T_X3_parseSum_4 f x1 x2 M K) (nI q) M K := by
          rw [T_X3_parseSum_155]
          intro y1 g1
          refine cstep hn h hin (fun M' h' y4 g4 => ?_)
          rw [g1, h.1.2.2.2.1, g4, nI_1]
          exact hK M' h'
        rw [T_X3_parseSum_129, h.1.2.2.2.1, c43, c45]
        exact ⟨fun _ => g155, fun z => ⟨fun _ => g155, fun y => absurd hs (by omega)⟩⟩
      have mgo : ∀ (B M : Mm) (K : Int32 → Mm → Prop) (f : Nat), ME ch k n tk ps en B i cs M → (∀ M', ME ch k n tk ps en B (i + 1) cs M' → T_X12_readProduct M' (fun r5 M4 => (r5 = -1 → K (-1) M4) ∧ (¬ r5 = -1 → T_X12_emits (nI op) 0 M4 (fun M8 => T_X12_readSum_10 f M8 K)))) → T_X12_readSum_10 (f + 1) M K := by
        intro B M K f h hK
        have vl : M 159 19 = nI (tk i) := (tR_s h.1.2.2.2.2 (by unfold isSn; omega)).2
        have g28 : T_X12_readSum_28 (fun M => T_X12_readSum_10 f M K) M K := by
          rw [T_X12_readSum_28, vl, c43]
          refine ⟨fun z => ?_, fun z => ?_⟩
          · rw [T_X12_readSum_42]
            rw [hop3.1 z] at hK
            exact mread hS h hin hK
          · rw [T_X12_readSum_42]
            rw [hop3.2 z] at hK
            exact mread hS h hin hK
        rw [T_X12_readSum_10]
        by_cases e : tk i = 43
        · exact isg_y (s := 43) h.1.2.2.2.2 (by unfold isSn; omega) rfl e ⟨fun z => absurd z (by decide), fun _ => g28⟩
        · refine isg_n (s := 43) h.1.2.2.2.2 (by unfold isSn; omega) rfl e ⟨fun _ => ?_, fun z => absurd rfl z⟩
          exact isg_y (s := 45) h.1.2.2.2.2 (by unfold isSn; omega) rfl (by omega) ⟨fun z => absurd z (by decide), fun _ => g28⟩
      rcases prod_ok hS (i := i + 1) (cs := cs) (by omega) (by omega) with ⟨fk, p, a1, a2⟩ | ⟨i1, ex, ai, a0, a1, a2⟩
      · refine Or.inl ⟨fk, p, fun B M K f q h hf hq hK => ?_, fun B M K f h hf hK => ?_⟩
        · obtain ⟨f, rfl⟩ : ∃ g, f = g + 1 := ⟨f - 1, by omega⟩
          exact cgo B M K (f + 1) q h (fun M' h' => a1 B M' K f _ (q + 1) h' (by omega) hK)
        · obtain ⟨f, rfl⟩ : ∃ g, f = g + 1 := ⟨f - 1, by omega⟩
          exact mgo B M K f h (fun M' h' => a2 B M' _ h' (fun M2 h2 => ⟨fun _ => hK M2 h2, fun z => absurd rfl z⟩))
      · obtain ⟨x1, x2, x3, x4⟩ := a0
        have eo : EL false 28 i i1 (ex ++ [(op, 0)]) := ⟨by omega, by rw [List.length_append]; show ex.length + 1 + i ≤ i1; omega, ok_app x3 (ok_1 oko), fun u hu => (x4 (false :: u) (by show u.length + 1 ≤ 29; omega)).app (tyA.one (fun p => Or.inr (Or.inl ⟨by show op = 2 ∨ op = 3 ∨ op = 4; omega, u, rfl, rfl⟩)))⟩
        have len : (cs ++ ex).length < 400 := by rw [List.length_append]; omega
        have c111 : ∀ (B M : Mm) (K : Int32 → Mm → Prop) (f q : Nat), CQ n tk ps B i1 (cs ++ ex) M → (∀ M', CQ n tk ps B i1 (cs ++ (ex ++ [(op, 0)])) M' → T_X3_parseSum_129 (fun x1 x2 M => T_X3_parseSum_4 f x1 x2 M K) (nI q) M' K) → T_X3_parseSum_111 (fun x1 x2 M => T_X3_parseSum_4 f x1 x2 M K) (nI (tk i)) (nI q) M K := by
          intro B M K f q h hK
          rw [T_X3_parseSum_111]
          refine ⟨fun z => absurd z (nI_m1 (by omega)), fun _ => cadd (op, 0) h len ?_ (fun M' h' => ?_)⟩
          · rw [hop2, show (20000 : Int32) = nI 20000 from rfl, nI_add]
          · rw [List.append_assoc] at h'
            exact hK M' h'
        rcases ih i1 (cs ++ (ex ++ [(op, 0)])) (by omega) ai (by rw [List.length_append]; have := eo.2.1; omega) with ⟨fk, p, b1, b2⟩ | ⟨i', ex2, bi, b0, b1, b2⟩
        · refine Or.inl ⟨fk, p, fun B M K f q h hf hq hK => ?_, fun B M K f h hf hK => ?_⟩
          · obtain ⟨f, rfl⟩ : ∃ g, f = g + 1 := ⟨f - 1, by omega⟩
            exact cgo B M K (f + 1) q h (fun M' h' => a1 B M' K f _ (q + 1) h' (by omega) (fun M2 h2 => c111 B M2 K f (q + 1) h2 (fun M3 h3 => b1 B M3 K f (q + 1) h3 (by omega) (by omega) hK)))
          · obtain ⟨f, rfl⟩ : ∃ g, f = g + 1 := ⟨f - 1, by omega⟩
            refine mgo B M K f h (fun M' h' => a2 B M' _ h' (fun M2 h2 => ⟨fun z => absurd z (by decide), fun _ => memit (op, 0) h2 len rfl rfl (fun M3 h3 => ?_)⟩))
            rw [List.append_assoc] at h3
            exact b2 B M3 K f h3 (by omega) hK
        · refine Or.inr ⟨i', (ex ++ [(op, 0)]) ++ ex2, bi, eo.el b0, fun B M K f q h hf hq hK => ?_, fun B M K f h hf hK => ?_⟩
          · obtain ⟨f, rfl⟩ : ∃ g, f = g + 1 := ⟨f - 1, by omega⟩
            rw [← List.append_assoc] at hK
            exact cgo B M K (f + 1) q h (fun M' h' => a1 B M' K f _ (q + 1) h' (by omega) (fun M2 h2 => c111 B M2 K f (q + 1) h2 (fun M3 h3 => b1 B M3 K f (q + 1) h3 (by omega) (by omega) hK)))
          · obtain ⟨f, rfl⟩ : ∃ g, f = g + 1 := ⟨f - 1, by omega⟩
            rw [← List.append_assoc] at hK
            refine mgo B M K f h (fun M' h' => a2 B M' _ h' (fun M2 h2 => ⟨fun z => absurd z (by decide), fun _ => memit (op, 0) h2 len rfl rfl (fun M3 h3 => ?_)⟩))
            rw [List.append_assoc] at h3
            exact b2 B M3 K f h3 (by omega) hK
    · refine Or.inr ⟨i, [], hi, EL.nil, fun B M K f q h hf hq hK => ?_, fun B M K f h hf hK => ?_⟩
      · rw [List.append_nil] at hK
        rw [T_X3_parseSum_129, h.1.2.2.2.1, c43, c45]
        exact ⟨fun z => absurd (Or.inl z) hs, fun _ => ⟨fun z => absurd (Or.inr z) hs, fun _ => hK M h⟩⟩
      · obtain ⟨f, rfl⟩ : ∃ g, f = g + 1 := ⟨f - 1, by omega⟩
        rw [List.append_nil] at hK
        rw [T_X12_readSum_10]
        refine isg_n (s := 43) h.1.2.2.2.2 (by unfold isSn; omega) rfl (by omega) ⟨fun _ => ?_, fun z => absurd rfl z⟩
        exact isg_n (s := 45) h.1.2.2.2.2 (by unfold isSn; omega) rfl (by omega) ⟨fun _ => hK M h, fun z => absurd rfl z⟩
/-- class and model side_v by side_v: a fault in both_v, or both_v go on -/
def CSf (n : Nat) (tk ps : Nat → Nat) (T : Mm → (Int32 → Mm → Prop) → Prop) (i : Nat) (cs : List (Nat × Nat)) (fk p : Nat) : Prop := ∀ (B M : Mm) (K : Int32 → Mm → Prop), CQ n tk ps B i cs M → (∀ M', CFt B fk p M' → K 0 M') → T M K
def CSk (n : Nat) (tk ps : Nat → Nat) (T : Mm → (Int32 → Mm → Prop) → Prop) (i : Nat) (cs : List (Nat × Nat)) (i' : Nat) (cs' : List (Nat × Nat)) : Prop := ∀ (B M : Mm) (K : Int32 → Mm → Prop), CQ n tk ps B i cs M → (∀ M', CQ n tk ps B i' cs' M' → K 1 M') → T M K
def MSf (ch : Nat → Nat) (k n : Nat) (tk ps en : Nat → Nat) (T : Mm → (Int32 → Mm → Prop) → Prop) (i : Nat) (cs : List (Nat × Nat)) (fk p : Nat) : Prop := ∀ (B M : Mm) (K : Int32 → Mm → Prop), ME ch k n tk ps en B i cs M → (∀ M', MFs B fk p M' → K (-1) M') → T M K
def MSk (ch : Nat → Nat) (k n : Nat) (tk ps en : Nat → Nat) (T : Mm → (Int32 → Mm → Prop) → Prop) (i : Nat) (cs : List (Nat × Nat)) (i' : Nat) (cs' : List (Nat × Nat)) : Prop := ∀ (B M : Mm) (K : Int32 → Mm → Prop), ME ch k n tk ps en B i cs M → (∀ M', ME ch k n tk ps en B i' cs' M' → K 0 M') → T M K
theorem sum_ok {ch : Nat → Nat} {k n : Nat} {tk ps en : Nat → Nat} (hS : TS ch k n tk ps en) {i : Nat} {cs : List (Nat × Nat)} (hi : i ≤ n) (hl : cs.length ≤ i) :
    (∃ fk p, CSf n tk ps T_X3_parseSum i cs fk p ∧ MSf ch k n tk ps en T_X12_readSum i cs fk p) ∨ (∃ i' ex, i' ≤ n ∧ EX false 28 i i' ex ∧ CSk n tk ps T_X3_parseSum i cs i' (cs ++ ex) ∧ MSk ch k n tk ps en T_X12_readSum i cs i' (cs ++ ex)) := by
  have hn := hS.n
  rcases prod_ok hS hi hl with ⟨fk, p, a1, a2⟩ | ⟨i1, ex, ai, a0, a1, a2⟩
  · refine Or.inl ⟨fk, p, fun B M K h hK => ?_, fun B M K h hK => ?_⟩
    · rw [T_X3_parseSum]
      exact a1 B M K 4999 (-1) 0 h (by omega) hK
    · rw [T_X12_readSum]
      exact a2 B M _ h (fun M' h' => ⟨fun _ => hK M' h', fun z => absurd rfl z⟩)
  · have x0 := a0
    obtain ⟨x1, x2, x3, x4⟩ := x0
    have e0 : EX false 28 i i1 ex := ⟨x1, x2, x3, fun u hu => x4 u (by omega)⟩
    have c111 : ∀ (B M : Mm) (K : Int32 → Mm → Prop), CQ n tk ps B i cs M → (∀ M', CQ n tk ps B i1 (cs ++ ex) M' → T_X3_parseSum_129 (fun x1 x2 M => T_X3_parseSum_4 4999 x1 x2 M K) (nI 0) M' K) → T_X3_parseSum M K := by
      intro B M K h hK
      rw [T_X3_parseSum]
      refine a1 B M K 4999 (-1) 0 h (by omega) (fun M' h' => ?_)
      rw [T_X3_parseSum_111]
      exact ⟨fun _ => hK M' h', fun z => absurd rfl z⟩
    have mm : ∀ (B M : Mm) (K : Int32 → Mm → Prop), ME ch k n tk ps en B i cs M → (∀ M', ME ch k n tk ps en B i1 (cs ++ ex) M' → T_X12_readSum_10 5000 M' K) → T_X12_readSum M K := by
      intro B M K h hK
      rw [T_X12_readSum]
      exact a2 B M _ h (fun M' h' => ⟨fun z => absurd z (by decide), fun _ => hK M' h'⟩)
    rcases sl_ok hS (n - i1) i1 (cs ++ ex) (by omega) ai (by rw [List.length_append]; omega) with ⟨fk, p, b1, b2⟩ | ⟨i', ex2, bi, b0, b1, b2⟩
    · exact Or.inl ⟨fk, p, fun B M K h hK => c111 B M K h (fun M' h' => b1 B M' K 4999 0 h' (by omega) (by omega) hK), fun B M K h hK => mm B M K h (fun M' h' => b2 B M' K 5000 h' (by omega) hK)⟩
    · refine Or.inr ⟨i', ex ++ ex2, bi, e0.el b0, fun B M K h hK => c111 B M K h (fun M' h' => b1 B M' K 4999 0 h' (by omega) (by omega) ?_), fun B M K h hK => mm B M K h (fun M' h' => b2 B M' K 5000 h' (by omega) ?_)⟩
      · rw [List.append_assoc]; exact hK
      · rw [List.append_assoc]; exact hK
