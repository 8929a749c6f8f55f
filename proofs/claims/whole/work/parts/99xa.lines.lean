/-! TEXT: the law_v, line by line -/
def sgm (cs : List (Nat × Nat)) (a b : Nat) : Prop := ∃ c1 c2 c3, cs = c1 ++ c2 ++ c3 ∧ c1.length = a ∧ a + c2.length = b ∧ ∃ t, tyA c2 [] [t]
theorem sgm.app {cs e : List (Nat × Nat)} {a b : Nat} (h : sgm cs a b) : sgm (cs ++ e) a b := by
  obtain ⟨c1, c2, c3, h1, h2, h3, h4⟩ := h
  exact ⟨c1, c2, c3 ++ e, by rw [h1, List.append_assoc], h2, h3, h4⟩
/-- what the lines of a law_v keep_v to -/
def LF (cs : List (Nat × Nat)) (l : Nat) (lk lw le : Nat → Nat) (i : Nat) : Prop := cs.length ≤ i ∧ pre le l = cs.length ∧ (∀ x, x ∈ cs → okc x) ∧ ∀ j, j < l → lk j < 3 ∧ pre le j < lw j ∧ lw j ≤ le j ∧ le j ≤ cs.length ∧ sgm cs (pre le j) (lw j) ∧ (lw j = le j ∨ sgm cs (lw j) (le j))
theorem LF.s {cs ex1 ex2 : List (Nat × Nat)} {l i i' w : Nat} {lk lw le : Nat → Nat} (h : LF cs l lk lw le i) (hw : w < 3) (hl : ex1.length + ex2.length + i ≤ i') (hp : 0 < ex1.length) (ho : ∀ x, x ∈ ex1 ++ ex2 → okc x) (t1 : tyA ex1 [] [false]) (t2 : ex2 = [] ∨ tyA ex2 [] [true]) : LF (cs ++ (ex1 ++ ex2)) (l + 1) (fup lk l w) (fup lw l (cs ++ ex1).length) (fup le l (cs ++ (ex1 ++ ex2)).length) i' := by
  obtain ⟨h1, h2, h3, h4⟩ := h
  have le1 : (cs ++ (ex1 ++ ex2)).length = cs.length + (ex1.length + ex2.length) := by rw [List.length_append, List.length_append]
  have le2 : (cs ++ ex1).length = cs.length + ex1.length := List.length_append
  refine ⟨by omega, by rw [pre_s, fup_e], ok_app h3 ho, fun j hj => ?_⟩
  by_cases c : j = l
  · subst c
    rw [fup_e, fup_e, fup_e, pre_u (by omega), h2, le1, le2]
    refine ⟨hw, by omega, by omega, by omega, ⟨cs, ex1, ex2, by rw [List.append_assoc], rfl, rfl, false, t1⟩, ?_⟩
    rcases t2 with z | z
    · exact Or.inl (by rw [z]; rfl)
    · exact Or.inr ⟨cs ++ ex1, ex2, [], by rw [List.append_nil, List.append_assoc], le2, by omega, true, z⟩
  · rw [fup_n c, fup_n c, fup_n c, pre_u (by omega)]
    obtain ⟨a1, a2, a3, a4, a5, a6⟩ := h4 j (by omega)
    exact ⟨a1, a2, a3, by omega, a5.app, a6.imp id (fun z => z.app)⟩
theorem p127_0 {B : Int32 → Int32 → Int32 → Mm → Prop} {o : Nat} {x1 x3 x4 : Int32} {M : Mm} {K : Int32 → Mm → Prop} (k : K (-1) M) : T_X3_parse_127 B o x1 x3 x4 0 M K := by
  rw [T_X3_parse_127]
  exact ⟨fun _ => k, fun z => absurd rfl z⟩
theorem p127_1 {B : Int32 → Int32 → Int32 → Mm → Prop} {o : Nat} {x1 x3 x4 : Int32} {M : Mm} {K : Int32 → Mm → Prop} (k : B x1 (x3 + 1) (x4 + 1) M) : T_X3_parse_127 B o x1 x3 x4 1 M K := by
  rw [T_X3_parse_127]
  refine ⟨fun z => absurd z (by decide), fun _ y2 g2 y3 g3 => ?_⟩
  rw [g2, g3]
  exact k
theorem p78_0 {B : Int32 → Int32 → Int32 → Mm → Prop} {o : Nat} {x1 x3 x4 : Int32} {M : Mm} {K : Int32 → Mm → Prop} (k : K (-1) M) : T_X3_parse_78 B o x1 x3 x4 0 M K := by
  rw [T_X3_parse_78]
  refine ⟨fun _ => ?_, fun z => absurd rfl z⟩
  rw [T_X3_parse_97]
  refine ⟨fun _ => ?_, fun z => absurd rfl z⟩
  rw [T_X3_parse_116]
  exact ⟨fun _ => p127_0 k, fun z => absurd rfl z⟩
/-- how a line begins -/
theorem b54 {n i l : Nat} {tk ps : Nat → Nat} {M : Mm} {K : Int32 → Mm → Prop} {y : Int32} (hn : n ≤ 400) (h : TC n tk ps i M) (hl : l ≤ 16) (k0 : y = 0 → ∀ M', M' 132 7 = nI 1 → M' 132 8 = nI (ps i) → (∀ a j, ¬ (a = 132 ∧ 7 ≤ j ∧ j ≤ 8) → M' a j = M a j) → K 0 M') (k1 : ¬ y = 0 → l = 16 → ∀ M', M' 132 7 = nI 3 → M' 132 8 = nI (ps i) → (∀ a j, ¬ (a = 132 ∧ 7 ≤ j ∧ j ≤ 8) → M' a j = M a j) → K 0 M') (k2 : ¬ y = 0 → l < 16 → K 1 M) : T_X3_beginsLine_54 (nI l) y M K := by
  rw [T_X3_beginsLine_54]
  refine ⟨fun z => refuse_ok (fk := 1) hn h rfl (fun M' a1 a2 a3 => ⟨Or.inl rfl, k0 z M' a1 a2 a3⟩), fun z => pk_lt l 16 (fun y => ?_) (fun y => ?_)⟩
  · rw [T_X3_beginsLine_84]
    exact k2 z y
  · exact refuse_ok (fk := 3) hn h rfl (fun M' a1 a2 a3 => ⟨fun _ => k1 z (by omega) M' a1 a2 a3, fun q => absurd rfl q⟩)
theorem ilw_n {c : Nat} {M : Mm} {K : Int32 → Mm → Prop} (h : tokR c (M 159 18) (M 159 19)) (hc : ¬ (256 ≤ c ∧ c ≤ 258)) (k : K 0 M) : T_X12_isLineWord M K := by
  rw [T_X12_isLineWord]
  refine ⟨fun z => ?_, fun _ => k⟩
  obtain ⟨w1, w2⟩ := (tR_2 h).mp z
  have c2 : nI (c - 256) ≤ (2 : Int32) ↔ c - 256 ≤ 2 := nI_leI (b := 2) (by omega) (by decide)
  rw [(tR_w h w1 w2).2, ii_neg (by rw [c2]; omega)]
  exact ⟨fun _ => k, fun y => absurd rfl y⟩
theorem ilw_y {c : Nat} {M : Mm} {K : Int32 → Mm → Prop} (h : tokR c (M 159 18) (M 159 19)) (h1 : 256 ≤ c) (h2 : c ≤ 258) (k : K 1 M) : T_X12_isLineWord M K := by
  obtain ⟨t1, t2⟩ := tR_w h h1 (by omega)
  have hh : (0 : Int32) ≤ nI (c - 256) ∧ nI (c - 256) ≤ (2 : Int32) := ⟨nI_le (a := 0) (by omega) (by omega), nI_le (b := 2) (by omega) (by decide)⟩
  rw [T_X12_isLineWord, t2, ii_pos hh]
  exact ⟨fun _ => ⟨fun z => absurd z (by decide), fun _ => k⟩, fun z => absurd t1 z⟩
theorem LM.err {ch : Nat → Nat} {k n i l fk : Nat} {tk ps en lk lw le : Nat → Nat} {B M : Mm} {K : Int32 → Mm → Prop} {cs : List (Nat × Nat)} {x : Int32} (h : LM ch k n tk ps en B i cs l lk lw le M) (hx : x = nI fk) (hK : ∀ M', LMf B fk (ps i) M' → K (-1) M') : T_X12_errs x M K := by
  refine errs_ok h.1 hx (fun M' a1 a2 a3 => hK M' ⟨a1, a2, fun a j z => ?_⟩)
  have z2 := z
  unfold yM xM at z2
  rw [a3 a j (by omega)]
  exact h.2.2.2.2.2 a j z
theorem law_ok {ch : Nat → Nat} {k n : Nat} {tk ps en : Nat → Nat} (hS : TS ch k n tk ps en) : ∀ (m l i : Nat) (cs : List (Nat × Nat)) (lk lw le : Nat → Nat), l + m = 16 → i ≤ n → LF cs l lk lw le i →
    (∃ fk p, (∀ (B M : Mm) (K : Int32 → Mm → Prop) (f : Nat), LC n tk ps B i cs l lk lw le M → m < f → (∀ M', LCf B fk p M' → K (-1) M') → T_X3_parse_35 2 f 0 (nI l) (nI l) M K) ∧ (∀ (B M : Mm) (K : Int32 → Mm → Prop) (f : Nat), LM ch k n tk ps en B i cs l lk lw le M → m < f → (∀ M', LMf B fk p M' → K (-1) M') → T_X12_readLaw_2 f (nI l) M K)) ∨
    (∃ l' cs' lk' lw' le', l' ≤ 16 ∧ LF cs' l' lk' lw' le' n ∧ (∀ (B M : Mm) (K : Int32 → Mm → Prop) (f : Nat), LC n tk ps B i cs l lk lw le M → m < f → (∀ M', LC n tk ps B n cs' l' lk' lw' le' M' → K (nI l') M') → T_X3_parse_35 2 f 0 (nI l) (nI l) M K) ∧ (∀ (B M : Mm) (K : Int32 → Mm → Prop) (f : Nat), LM ch k n tk ps en B i cs l lk lw le M → m < f → (∀ M', LM ch k n tk ps en B n cs' l' lk' lw' le' M' → K (nI l') M') → T_X12_readLaw_2 f (nI l) M K)) := by
  have hn := hS.n
  intro m
  induction m with
  | zero =>
    intro l i cs lk lw le hlm hi hF
    have tb := tkc_b (hS.c hi)
    have c0 : nI (tk i) = (0 : Int32) ↔ tk i = 0 := nI_eq (b := 0) (by omega) (by decide)
    have hl : l = 16 := by omega
    by_cases t0 : tk i = 0
    · have hin : i = n := by
        rcases Nat.lt_or_ge i n with z | z
        · obtain ⟨-, -, -, -, t5, -⟩ := hS.2.2.1 i z
          rw [t0] at t5
          rcases t5 with ⟨-, ⟨w, w1, w2, w3, w4⟩ | ⟨-, w⟩⟩ | ⟨q, ⟨-, w⟩ | ⟨w1, w⟩⟩ | ⟨-, -, ⟨w1, w⟩ | ⟨-, w⟩⟩
          · omega
          · omega
          · omega
          · omega
          · rw [← w] at w1; unfold isSn at w1; omega
          · omega
        · omega
      subst hin
      refine Or.inr ⟨l, cs, lk, lw, le, by omega, hF, fun B M K f h hf hK => ?_, fun B M K f h hf hK => ?_⟩
      · obtain ⟨f, rfl⟩ : ∃ g, f = g + 1 := ⟨f - 1, by omega⟩
        rw [T_X3_parse_35, h.1.2.2.2.1, c0]
        exact pk_lt 16 l (fun z => absurd z (by omega)) (fun _ => ⟨fun _ => hK M h, fun z => absurd t0 z⟩)
      · obtain ⟨f, rfl⟩ : ∃ g, f = g + 1 := ⟨f - 1, by omega⟩
        rw [T_X12_readLaw_2]
        exact ilw_n h.1.2.2.2.2 (by omega) ⟨fun _ => ⟨fun _ => hK M h, fun z => absurd ((tR_0 h.1.2.2.2.2).mpr t0) z⟩, fun z => absurd rfl z⟩
    · by_cases tw : 256 ≤ tk i ∧ tk i ≤ 258
      · refine Or.inl ⟨3, ps i, fun B M K f h hf hK => ?_, fun B M K f h hf hK => ?_⟩
        · obtain ⟨f, rfl⟩ : ∃ g, f = g + 1 := ⟨f - 1, by omega⟩
          have hh : (256 : Int32) ≤ nI (tk i) ∧ nI (tk i) ≤ (258 : Int32) := ⟨nI_le (a := 256) (by omega) (by omega), nI_le (b := 258) (by omega) (by decide)⟩
          rw [T_X3_parse_35, h.1.2.2.2.1, c0]
          refine pk_lt 16 l (fun z => absurd z (by omega)) (fun _ => ⟨fun z => absurd z t0, fun _ => ?_⟩)
          rw [T_X3_beginsLine]
          refine ⟨fun _ => ?_, fun z => absurd rfl z⟩
          rw [h.1.2.2.2.1, iw_pos hh]
          refine b54 hn h.1 (by omega) (fun z => absurd z (by decide)) (fun _ _ M' a1 a2 a3 => ⟨fun _ => p78_0 (hK M' ⟨a1, a2, fun a j z => ?_⟩), fun q => absurd rfl q⟩) (fun _ z => absurd z (by omega))
          rw [a3 a j (fun w => z (Or.inr w))]
          exact h.2.2.2.2.2 a j (fun w => z (Or.inl w))
        · obtain ⟨f, rfl⟩ : ∃ g, f = g + 1 := ⟨f - 1, by omega⟩
          rw [T_X12_readLaw_2]
          refine ilw_y h.1.2.2.2.2 tw.1 tw.2 ⟨fun z => absurd z (by decide), fun _ => ⟨fun _ => h.err (fk := 3) rfl hK, fun z => absurd (by rw [hl]; rfl) z⟩⟩
      · refine Or.inl ⟨1, ps i, fun B M K f h hf hK => ?_, fun B M K f h hf hK => ?_⟩
        · obtain ⟨f, rfl⟩ : ∃ g, f = g + 1 := ⟨f - 1, by omega⟩
          have c1 : (256 : Int32) ≤ nI (tk i) ↔ 256 ≤ tk i := nI_leI (a := 256) (by decide) (by omega)
          have c2 : nI (tk i) ≤ (258 : Int32) ↔ tk i ≤ 258 := nI_leI (b := 258) (by omega) (by decide)
          rw [T_X3_parse_35, h.1.2.2.2.1, c0]
          refine pk_lt 16 l (fun z => absurd z (by omega)) (fun _ => ⟨fun z => absurd z t0, fun _ => ?_⟩)
          rw [T_X3_beginsLine]
          refine ⟨fun _ => ?_, fun z => absurd rfl z⟩
          rw [h.1.2.2.2.1, iw_neg (by rw [c1, c2]; exact tw)]
          refine b54 hn h.1 (by omega) (fun _ M' a1 a2 a3 => ⟨fun _ => p78_0 (hK M' ⟨a1, a2, fun a j z => ?_⟩), fun q => absurd rfl q⟩) (fun z => absurd rfl z) (fun z => absurd rfl z)
          rw [a3 a j (fun w => z (Or.inr w))]
          exact h.2.2.2.2.2 a j (fun w => z (Or.inl w))
        · obtain ⟨f, rfl⟩ : ∃ g, f = g + 1 := ⟨f - 1, by omega⟩
          rw [T_X12_readLaw_2]
          exact ilw_n h.1.2.2.2.2 tw ⟨fun _ => ⟨fun z => absurd ((tR_0 h.1.2.2.2.2).mp z) t0, fun _ => h.err (fk := 1) rfl hK⟩, fun z => absurd rfl z⟩
  | succ m ih =>
    intro l i cs lk lw le hlm hi hF
    have tb := tkc_b (hS.c hi)
    have c0 : nI (tk i) = (0 : Int32) ↔ tk i = 0 := nI_eq (b := 0) (by omega) (by decide)
    by_cases t0 : tk i = 0
    · have hin : i = n := by
        rcases Nat.lt_or_ge i n with z | z
        · obtain ⟨-, -, -, -, t5, -⟩ := hS.2.2.1 i z
          rw [t0] at t5
          rcases t5 with ⟨-, ⟨w, w1, w2, w3, w4⟩ | ⟨-, w⟩⟩ | ⟨q, ⟨-, w⟩ | ⟨w1, w⟩⟩ | ⟨-, -, ⟨w1, w⟩ | ⟨-, w⟩⟩
          · omega
          · omega
          · omega
          · omega
          · rw [← w] at w1; unfold isSn at w1; omega
          · omega
        · omega
      subst hin
      refine Or.inr ⟨l, cs, lk, lw, le, by omega, hF, fun B M K f h hf hK => ?_, fun B M K f h hf hK => ?_⟩
      · obtain ⟨f, rfl⟩ : ∃ g, f = g + 1 := ⟨f - 1, by omega⟩
        rw [T_X3_parse_35, h.1.2.2.2.1, c0]
        exact pk_lt 16 l (fun z => absurd z (by omega)) (fun _ => ⟨fun _ => hK M h, fun z => absurd t0 z⟩)
      · obtain ⟨f, rfl⟩ : ∃ g, f = g + 1 := ⟨f - 1, by omega⟩
        rw [T_X12_readLaw_2]
        exact ilw_n h.1.2.2.2.2 (by omega) ⟨fun _ => ⟨fun _ => hK M h, fun z => absurd ((tR_0 h.1.2.2.2.2).mpr t0) z⟩, fun z => absurd rfl z⟩
    · have hin : i < n := hS.z hi t0
      by_cases tw : 256 ≤ tk i ∧ tk i ≤ 258
      · obtain ⟨w, hw, ew⟩ : ∃ w, w < 3 ∧ tk i = 256 + w := ⟨tk i - 256, by omega, by omega⟩
        have hh : (256 : Int32) ≤ nI (tk i) ∧ nI (tk i) ≤ (258 : Int32) := ⟨nI_le (a := 256) (by omega) (by omega), nI_le (b := 258) (by omega) (by decide)⟩
        have cgo : ∀ (B M : Mm) (K : Int32 → Mm → Prop) (f : Nat), LC n tk ps B i cs l lk lw le M → T_X3_parseLaw M (fun r27 M26 => T_X3_parse_127 (fun x1 x3 x4 M => T_X3_parse_35 2 f x1 x3 x4 M K) 2 0 (nI l) (nI l) r27 M26 K) → T_X3_parse_35 2 (f + 1) 0 (nI l) (nI l) M K := by
          intro B M K f h hK
          rw [T_X3_parse_35, h.1.2.2.2.1, c0]
          refine pk_lt 16 l (fun z => absurd z (by omega)) (fun _ => ⟨fun z => absurd z t0, fun _ => ?_⟩)
          rw [T_X3_beginsLine]
          refine ⟨fun _ => ?_, fun z => absurd rfl z⟩
          rw [h.1.2.2.2.1, iw_pos hh]
          exact b54 hn h.1 (by omega) (fun z => absurd z (by decide)) (fun _ z => absurd z (by omega)) (fun _ _ => ⟨fun z => absurd z (by decide), fun _ => ⟨fun _ => hK, fun z => absurd rfl z⟩⟩)
        rcases ln_ok hS hin hw ew (by omega : l < 16) hF.1 hF.2.1 with ⟨fk, p, a1, a2⟩ | ⟨i1, ex1, ex2, ai, aii, al, ap, ao, at1, at2, a1, a2⟩
        · refine Or.inl ⟨fk, p, fun B M K f h hf hK => ?_, fun B M K f h hf hK => ?_⟩
          · obtain ⟨f, rfl⟩ : ∃ g, f = g + 1 := ⟨f - 1, by omega⟩
            exact cgo B M K f h (a1 B M _ h (fun M' h' => p127_0 (hK M' h')))
          · obtain ⟨f, rfl⟩ : ∃ g, f = g + 1 := ⟨f - 1, by omega⟩
            exact a2 B M K f h hK
        · have hF2 := hF.s hw al ap ao at1 at2
          rcases ih (l + 1) i1 _ _ _ _ (by omega) ai hF2 with ⟨fk, p, b1, b2⟩ | ⟨l', cs', lk', lw', le', bl, bF, b1, b2⟩
          · refine Or.inl ⟨fk, p, fun B M K f h hf hK => ?_, fun B M K f h hf hK => ?_⟩
            · obtain ⟨f, rfl⟩ : ∃ g, f = g + 1 := ⟨f - 1, by omega⟩
              refine cgo B M K f h (a1 B M _ h (fun M' h' => p127_1 ?_))
              rw [nI_1]
              exact b1 B M' K f h' (by omega) hK
            · obtain ⟨f, rfl⟩ : ∃ g, f = g + 1 := ⟨f - 1, by omega⟩
              exact a2 B M K f h (fun M' h' => b2 B M' K f h' (by omega) hK)
          · refine Or.inr ⟨l', cs', lk', lw', le', bl, bF, fun B M K f h hf hK => ?_, fun B M K f h hf hK => ?_⟩
            · obtain ⟨f, rfl⟩ : ∃ g, f = g + 1 := ⟨f - 1, by omega⟩
              refine cgo B M K f h (a1 B M _ h (fun M' h' => p127_1 ?_))
              rw [nI_1]
              exact b1 B M' K f h' (by omega) hK
            · obtain ⟨f, rfl⟩ : ∃ g, f = g + 1 := ⟨f - 1, by omega⟩
              exact a2 B M K f h (fun M' h' => b2 B M' K f h' (by omega) hK)
      · refine Or.inl ⟨1, ps i, fun B M K f h hf hK => ?_, fun B M K f h hf hK => ?_⟩
        · obtain ⟨f, rfl⟩ : ∃ g, f = g + 1 := ⟨f - 1, by omega⟩
          have c1 : (256 : Int32) ≤ nI (tk i) ↔ 256 ≤ tk i := nI_leI (a := 256) (by decide) (by omega)
          have c2 : nI (tk i) ≤ (258 : Int32) ↔ tk i ≤ 258 := nI_leI (b := 258) (by omega) (by decide)
          rw [T_X3_parse_35, h.1.2.2.2.1, c0]
          refine pk_lt 16 l (fun z => absurd z (by omega)) (fun _ => ⟨fun z => absurd z t0, fun _ => ?_⟩)
          rw [T_X3_beginsLine]
          refine ⟨fun _ => ?_, fun z => absurd rfl z⟩
          rw [h.1.2.2.2.1, iw_neg (by rw [c1, c2]; exact tw)]
          refine b54 hn h.1 (by omega) (fun _ M' a1 a2 a3 => ⟨fun _ => p78_0 (hK M' ⟨a1, a2, fun a j z => ?_⟩), fun q => absurd rfl q⟩) (fun z => absurd rfl z) (fun z => absurd rfl z)
          rw [a3 a j (fun w => z (Or.inr w))]
          exact h.2.2.2.2.2 a j (fun w => z (Or.inl w))
        · obtain ⟨f, rfl⟩ : ∃ g, f = g + 1 := ⟨f - 1, by omega⟩
          rw [T_X12_readLaw_2]
          exact ilw_n h.1.2.2.2.2 tw ⟨fun _ => ⟨fun z => absurd ((tR_0 h.1.2.2.2.2).mp z) t0, fun _ => h.err (fk := 1) rfl hK⟩, fun z => absurd rfl z⟩
