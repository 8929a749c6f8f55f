/-! TEXT: a line of the law_v -/
theorem up_cg {M N : Mm} {k i a j : Nat} {x : Int32} (h : M a j = N a j) : m_up M k i x a j = m_up N k i x a j := by rw [mu, mu, h]
/-- the model between expressions -/
def MZ (ch : Nat → Nat) (k n : Nat) (tk ps en : Nat → Nat) (B : Mm) (i : Nat) (cs : List (Nat × Nat)) (M : Mm) : Prop := TM ch k n tk ps en i M ∧ M 159 29 = nI cs.length ∧ (∀ j x, cs[j]? = some x → M 176 (800 + j) = nI x.1 ∧ M 177 (800 + j) = nI x.2) ∧ M 159 30 = 0 ∧ ∀ a j, ¬ xM a j → M a j = B a j
theorem MZ.me {ch : Nat → Nat} {k n : Nat} {tk ps en : Nat → Nat} {B M : Mm} {i : Nat} {cs : List (Nat × Nat)} (h : MZ ch k n tk ps en B i cs M) : ME ch k n tk ps en M i cs M := ⟨h.1, h.2.1, h.2.2.1, fun _ _ _ => rfl⟩
theorem MZ.of {ch : Nat → Nat} {k n : Nat} {tk ps en : Nat → Nat} {B M M' : Mm} {i i' : Nat} {cs cs' : List (Nat × Nat)} (h : MZ ch k n tk ps en B i cs M) (h' : ME ch k n tk ps en M i' cs' M') : MZ ch k n tk ps en B i' cs' M' := by
  obtain ⟨a1, a2, a3, a4, a5⟩ := h
  obtain ⟨b1, b2, b3, b4⟩ := h'
  exact ⟨b1, b2, b3, by rw [b4 159 30 (by unfold sM; omega)]; exact a4, fun a j z => by rw [b4 a j (xM_s z)]; exact a5 a j z⟩
theorem MZ.f {ch : Nat → Nat} {k n fk p : Nat} {tk ps en : Nat → Nat} {B M M' : Mm} {i : Nat} {cs : List (Nat × Nat)} (h : MZ ch k n tk ps en B i cs M) (h' : MFs M fk p M') : MFx B fk p M' := ⟨h'.1, h'.2.1, fun a j z => by rw [h'.2.2 a j (xM_s z)]; exact h.2.2.2.2 a j z⟩
/-- a row_v beside an expression's is written_v -/
theorem MZ.up {ch : Nat → Nat} {k n : Nat} {tk ps en : Nat → Nat} {B M : Mm} {i a0 j0 : Nat} {x : Int32} {cs : List (Nat × Nat)} (h : MZ ch k n tk ps en B i cs M) (h0 : 171 ≤ a0 ∧ a0 ≤ 175 ∨ 179 ≤ a0) : MZ ch k n tk ps en (m_up M a0 j0 x) i cs (m_up M a0 j0 x) := by
  obtain ⟨a1, a2, a3, a4, a5⟩ := h
  have E : ∀ a j, a ≠ a0 → m_up M a0 j0 x a j = M a j := fun a j z => by rw [mu, if_neg (fun w => z w.1)]
  exact ⟨a1.cg (fun j _ _ => E 159 j (by omega)) (fun j => E 169 j (by omega)) (fun j => E 170 j (by omega)), by rw [E 159 29 (by omega)]; exact a2, fun j y hy => by rw [E 176 _ (by omega), E 177 _ (by omega)]; exact a3 j y hy, by rw [E 159 30 (by omega)]; exact a4, fun _ _ _ => rfl⟩
/-- when .. -/
theorem wh_ok {ch : Nat → Nat} {k n : Nat} {tk ps en : Nat → Nat} (hS : TS ch k n tk ps en) {i : Nat} {cs : List (Nat × Nat)} (hi : i ≤ n) (hl : cs.length ≤ i) :
    (∃ fk p, (∀ (B M : Mm) (K : Int32 → Mm → Prop) (y7 y14 : Int32), CQ n tk ps B i cs M → (∀ M', CFt B fk p M' → K 0 M') → (M 132 6 = 259 → T_X7_step M (fun M17 => T_X3_parseEither0 0 M17 (fun r20 M19 => (r20 = 0 → K 0 M19) ∧ (¬ r20 = 0 → T_X3_parseLaw_62 y7 y14 M19 K)))) ∧ (¬ M 132 6 = 259 → T_X3_parseLaw_62 y7 y14 M K)) ∧
      (∀ (B M : Mm) (K : Int32 → Mm → Prop) (B2 : Int32 → Mm → Prop) (x1 x2 : Int32), MZ ch k n tk ps en B i cs M → (∀ M', MFx B fk p M' → K (-1) M') → T_X12_isWord 3 M (fun r37 M36 => (r37 = 0 → T_X12_readLaw_92 B2 x1 x2 M36 K) ∧ (¬ r37 = 0 → T_X12_reads M36 (fun M40 => T_X12_readAny M40 (fun r43 M42 => (r43 = -1 → K (-1) M42) ∧ (¬ r43 = -1 → T_X12_readLaw_92 B2 x1 x2 M42 K))))))) ∨
    (∃ i' ex, i' ≤ n ∧ i ≤ i' ∧ ex.length + i ≤ i' ∧ (∀ x, x ∈ ex → okc x) ∧ (ex = [] ∨ tyA ex [] [true]) ∧ (∀ (B M : Mm) (K : Int32 → Mm → Prop) (y7 y14 : Int32), CQ n tk ps B i cs M → (∀ M', CQ n tk ps B i' (cs ++ ex) M' → T_X3_parseLaw_62 y7 y14 M' K) → (M 132 6 = 259 → T_X7_step M (fun M17 => T_X3_parseEither0 0 M17 (fun r20 M19 => (r20 = 0 → K 0 M19) ∧ (¬ r20 = 0 → T_X3_parseLaw_62 y7 y14 M19 K)))) ∧ (¬ M 132 6 = 259 → T_X3_parseLaw_62 y7 y14 M K)) ∧
      (∀ (B M : Mm) (K : Int32 → Mm → Prop) (B2 : Int32 → Mm → Prop) (x1 x2 : Int32), MZ ch k n tk ps en B i cs M → (∀ M', MZ ch k n tk ps en B i' (cs ++ ex) M' → T_X12_readLaw_92 B2 x1 x2 M' K) → T_X12_isWord 3 M (fun r37 M36 => (r37 = 0 → T_X12_readLaw_92 B2 x1 x2 M36 K) ∧ (¬ r37 = 0 → T_X12_reads M36 (fun M40 => T_X12_readAny M40 (fun r43 M42 => (r43 = -1 → K (-1) M42) ∧ (¬ r43 = -1 → T_X12_readLaw_92 B2 x1 x2 M42 K))))))) := by
  have hn := hS.n
  have tb := tkc_b (hS.c hi)
  have c259 : nI (tk i) = (259 : Int32) ↔ tk i = 259 := nI_eq (b := 259) (by omega) (by decide)
  by_cases hw : tk i = 259
  · have hin : i < n := hS.z hi (by omega)
    have cgo : ∀ (B M : Mm) (K : Int32 → Mm → Prop) (y7 y14 : Int32), CQ n tk ps B i cs M → (∀ M', CQ n tk ps B (i + 1) cs M' → T_X3_parseEither (T_X3_parseCase 10) (nI 0) M' (fun r20 M19 => (r20 = 0 → K 0 M19) ∧ (¬ r20 = 0 → T_X3_parseLaw_62 y7 y14 M19 K))) → (M 132 6 = 259 → T_X7_step M (fun M17 => T_X3_parseEither0 0 M17 (fun r20 M19 => (r20 = 0 → K 0 M19) ∧ (¬ r20 = 0 → T_X3_parseLaw_62 y7 y14 M19 K)))) ∧ (¬ M 132 6 = 259 → T_X3_parseLaw_62 y7 y14 M K) := by
      intro B M K y7 y14 h hK
      rw [h.1.2.2.2.1, c259]
      refine ⟨fun _ => cstep hn h hin (fun M' h' => ?_), fun z => absurd hw z⟩
      rw [T_X3_parseEither0]
      exact hK M' h'
    have mgo : ∀ (B M : Mm) (K : Int32 → Mm → Prop) (B2 : Int32 → Mm → Prop) (x1 x2 : Int32), MZ ch k n tk ps en B i cs M → (∀ M', MP ch k n tk ps en B (i + 1) cs [] 0 M' → T_X12_readAny_9 5000 (nI 0) 1 M' (fun r43 M42 => (r43 = -1 → K (-1) M42) ∧ (¬ r43 = -1 → T_X12_readLaw_92 B2 x1 x2 M42 K))) → T_X12_isWord 3 M (fun r37 M36 => (r37 = 0 → T_X12_readLaw_92 B2 x1 x2 M36 K) ∧ (¬ r37 = 0 → T_X12_reads M36 (fun M40 => T_X12_readAny M40 (fun r43 M42 => (r43 = -1 → K (-1) M42) ∧ (¬ r43 = -1 → T_X12_readLaw_92 B2 x1 x2 M42 K))))) := by
      intro B M K B2 x1 x2 h hK
      refine iwd_y (w := 3) h.1.2.2.2.2 (by omega) rfl hw ⟨fun z => absurd z (by decide), fun _ => ?_⟩
      refine mread hS h.me hin (fun M' h' => ?_)
      obtain ⟨a1, a2, a3, a4, a5⟩ := h.of h'
      rw [T_X12_readAny]
      intro M69 g69
      have E : ∀ a j, ¬ (a = 159 ∧ j = 32) → M69 a j = M' a j := fun a j z => by rw [g69, mu, if_neg z]
      exact hK M69 ⟨a1.cg (fun j _ _ => E 159 j (by omega)) (fun j => E 169 j (by omega)) (fun j => E 170 j (by omega)), by rw [E 159 29 (by omega)]; exact a2, fun j y hy => by rw [E 176 _ (by omega), E 177 _ (by omega)]; exact a3 j y hy, by rw [E 159 30 (by omega)]; exact a4, by rw [g69, mu, if_pos ⟨rfl, rfl⟩]; rfl, trivial, fun a j z => by rw [E a j (by unfold xM at z; omega)]; exact a5 a j z⟩
    have tB : topB [] := fun v r e => by cases e
    rcases ei_ok hS (o := 0) (by omega) (fun i cs h1 h2 => case_ok hS 10 0 i cs (by omega) (by omega) h1 h2) (i := i + 1) (cs := cs) (by omega) (by omega) with ⟨fk, p, a1, a2⟩ | ⟨i', ex, ai, a0, a1, a2⟩
    · exact Or.inl ⟨fk, p, fun B M K y7 y14 h hK => cgo B M K y7 y14 h (fun M' h' => a1 B M' _ h' (fun M2 h2 => ⟨fun _ => hK M2 h2, fun z => absurd rfl z⟩)), fun B M K B2 x1 x2 h hK => mgo B M K B2 x1 x2 h (fun M' h' => a2 B M' _ 5000 0 [] (by omega) (by show 0 ≤ 3 * 0; omega) tB h' (by omega) (fun M2 h2 => ⟨fun _ => hK M2 h2, fun z => absurd rfl z⟩))⟩
    · obtain ⟨x1, x2, x3, x4⟩ := a0
      refine Or.inr ⟨i', ex, ai, by omega, by omega, x3, Or.inr (x4 [] (by show 0 ≤ 2 * 0; omega)), fun B M K y7 y14 h hK => cgo B M K y7 y14 h (fun M' h' => a1 B M' _ h' (fun M2 h2 => ⟨fun z => absurd z (by decide), fun _ => hK M2 h2⟩)), fun B M K B2 x1 x2 h hK => mgo B M K B2 x1 x2 h (fun M' h' => a2 B M' _ 5000 0 [] (by omega) (by show 0 ≤ 3 * 0; omega) tB h' (by omega) (fun M2 f2 _ h2 => ⟨fun _ => ⟨fun z => absurd z (by decide), fun _ => hK M2 ?_⟩, fun z => absurd rfl z⟩))⟩
      obtain ⟨b1, b2, b3, b4, b5, b6, b7⟩ := h2
      exact ⟨b1, b2, b3, b4, b7⟩
  · refine Or.inr ⟨i, [], hi, by omega, by show 0 + i ≤ i; omega, fun x hx => absurd hx (by simp), Or.inl rfl, fun B M K y7 y14 h hK => ?_, fun B M K B2 x1 x2 h hK => ?_⟩
    · rw [List.append_nil] at hK
      rw [h.1.2.2.2.1, c259]
      exact ⟨fun z => absurd z hw, fun _ => hK M h⟩
    · rw [List.append_nil] at hK
      exact iwd_n (w := 3) h.1.2.2.2.2 (by omega) rfl hw ⟨fun _ => hK M h, fun z => absurd rfl z⟩
/-! lines -/
def yC (a j : Nat) : Prop := xC a j ∨ (a = 137 ∧ j = 7) ∨ (139 ≤ a ∧ a ≤ 141)
def yF (a j : Nat) : Prop := yC a j ∨ (a = 132 ∧ 7 ≤ j ∧ j ≤ 8)
def yM (a j : Nat) : Prop := xM a j ∨ ((172 ≤ a ∧ a ≤ 175) ∧ 32 ≤ j)
def LC (n : Nat) (tk ps : Nat → Nat) (B : Mm) (i : Nat) (cs : List (Nat × Nat)) (l : Nat) (lk lw le : Nat → Nat) (M : Mm) : Prop := TC n tk ps i M ∧ M 137 6 = nI cs.length ∧ (∀ j x, cs[j]? = some x → M 138 j = nI (cN x)) ∧ M 137 7 = nI l ∧ (∀ j, j < l → M 139 j = nI (256 + lk j) ∧ M 140 j = nI (lw j) ∧ M 141 j = nI (le j)) ∧ ∀ a j, ¬ yC a j → M a j = B a j
def LCf (B : Mm) (fk p : Nat) (M : Mm) : Prop := M 132 7 = nI fk ∧ M 132 8 = nI p ∧ ∀ a j, ¬ yF a j → M a j = B a j
def LM (ch : Nat → Nat) (k n : Nat) (tk ps en : Nat → Nat) (B : Mm) (i : Nat) (cs : List (Nat × Nat)) (l : Nat) (lk lw le : Nat → Nat) (M : Mm) : Prop := TM ch k n tk ps en i M ∧ M 159 29 = nI cs.length ∧ (∀ j x, cs[j]? = some x → M 176 (800 + j) = nI x.1 ∧ M 177 (800 + j) = nI x.2) ∧ M 159 30 = 0 ∧ (∀ j, j < l → M 172 (32 + j) = nI (lk j) ∧ M 173 (32 + j) = nI (pre le j) ∧ M 174 (32 + j) = nI (lw j) ∧ M 175 (32 + j) = nI (le j)) ∧ ∀ a j, ¬ yM a j → M a j = B a j
def LMf (B : Mm) (fk p : Nat) (M : Mm) : Prop := M 159 33 = nI fk ∧ M 159 34 = nI p ∧ ∀ a j, ¬ yM a j → M a j = B a j
theorem LC.cq {n l i : Nat} {tk ps lk lw le : Nat → Nat} {B M : Mm} {cs : List (Nat × Nat)} (h : LC n tk ps B i cs l lk lw le M) : CQ n tk ps M i cs M := ⟨h.1, h.2.1, h.2.2.1, fun _ _ _ => rfl⟩
theorem LC.f {n l i fk p : Nat} {tk ps lk lw le : Nat → Nat} {B M M' : Mm} {cs : List (Nat × Nat)} (h : LC n tk ps B i cs l lk lw le M) (h' : CFt M fk p M') : LCf B fk p M' := ⟨h'.1, h'.2.1, fun a j z => by
  rw [h'.2.2 a j (fun w => z (w.elim (fun q => Or.inl (Or.inl q)) Or.inr))]
  exact h.2.2.2.2.2 a j (fun w => z (Or.inl w))⟩
set_option maxHeartbeats 2000000 in
theorem ln_ok {ch : Nat → Nat} {k n : Nat} {tk ps en : Nat → Nat} (hS : TS ch k n tk ps en) {i l w : Nat} {lk lw le : Nat → Nat} {cs : List (Nat × Nat)} (hi : i < n) (hw : w < 3) (ht : tk i = 256 + w) (hl : l < 16) (hc : cs.length ≤ i) (hp : pre le l = cs.length) :
    (∃ fk p, (∀ (B M : Mm) (K : Int32 → Mm → Prop), LC n tk ps B i cs l lk lw le M → (∀ M', LCf B fk p M' → K 0 M') → T_X3_parseLaw M K) ∧ (∀ (B M : Mm) (K : Int32 → Mm → Prop) (f : Nat), LM ch k n tk ps en B i cs l lk lw le M → (∀ M', LMf B fk p M' → K (-1) M') → T_X12_readLaw_2 (f + 1) (nI l) M K)) ∨
    (∃ i' ex1 ex2, i' ≤ n ∧ i < i' ∧ ex1.length + ex2.length + i ≤ i' ∧ 0 < ex1.length ∧ (∀ x, x ∈ ex1 ++ ex2 → okc x) ∧ tyA ex1 [] [false] ∧ (ex2 = [] ∨ tyA ex2 [] [true]) ∧ (∀ (B M : Mm) (K : Int32 → Mm → Prop), LC n tk ps B i cs l lk lw le M → (∀ M', LC n tk ps B i' (cs ++ (ex1 ++ ex2)) (l + 1) (fup lk l w) (fup lw l (cs ++ ex1).length) (fup le l (cs ++ (ex1 ++ ex2)).length) M' → K 1 M') → T_X3_parseLaw M K) ∧ (∀ (B M : Mm) (K : Int32 → Mm → Prop) (f : Nat), LM ch k n tk ps en B i cs l lk lw le M → (∀ M', LM ch k n tk ps en B i' (cs ++ (ex1 ++ ex2)) (l + 1) (fup lk l w) (fup lw l (cs ++ ex1).length) (fup le l (cs ++ (ex1 ++ ex2)).length) M' → T_X12_readLaw_2 f (nI (l + 1)) M' K) → T_X12_readLaw_2 (f + 1) (nI l) M K)) := by
  have hn := hS.n
  have e32 : (32 : Int32) + nI l = nI (32 + l) := nI_add 32 l
  have v48 : vp_in (nI (32 + l)) 48 := vp_in_nI (by omega) (by decide)
  have l16 : ¬ nI l = (16 : Int32) := fun z => absurd ((nI_eq (b := 16) (by omega) (by decide)).mp z) (by omega)
  -- the model's first steps_v
  have m0 : ∀ (B M : Mm) (K : Int32 → Mm → Prop) (f : Nat), LM ch k n tk ps en B i cs l lk lw le M → (∀ M26, MZ ch k n tk ps en (m_up M 172 (32 + l) (nI w)) (i + 1) cs M26 → T_X12_readSum (m_up M26 173 (32 + l) (nI cs.length)) (fun r31 M30 => (r31 = -1 → K (-1) M30) ∧ (¬ r31 = -1 → vp_in (nI (32 + l)) 48 ∧ ∀ M33 : Mm, M33 = m_up M30 174 (32 + l) (M30 159 29) → T_X12_isWord 3 M33 (fun r37 M36 => (r37 = 0 → T_X12_readLaw_92 (fun x1 M => T_X12_readLaw_2 f x1 M K) (nI l) (nI (32 + l)) M36 K) ∧ (¬ r37 = 0 → T_X12_reads M36 (fun M40 => T_X12_readAny M40 (fun r43 M42 => (r43 = -1 → K (-1) M42) ∧ (¬ r43 = -1 → T_X12_readLaw_92 (fun x1 M => T_X12_readLaw_2 f x1 M K) (nI l) (nI (32 + l)) M42 K)))))))) → T_X12_readLaw_2 (f + 1) (nI l) M K := by
    intro B M K f h hK
    obtain ⟨a1, a2, a3, a4, a5, a6⟩ := h
    obtain ⟨t1, t2⟩ := tR_w a1.2.2.2.2 (by omega) (by omega)
    rw [ht, show 256 + w - 256 = w by omega] at t2
    have hh : (0 : Int32) ≤ nI w ∧ nI w ≤ (2 : Int32) := ⟨nI_le (a := 0) (by omega) (by omega), nI_le (b := 2) (by omega) (by decide)⟩
    rw [T_X12_readLaw_2, T_X12_isLineWord, t2, ii_pos hh]
    refine ⟨fun _ => ⟨fun z => absurd z (by decide), fun _ => ⟨fun z => absurd z (by decide), fun _ => ⟨fun z => absurd z l16, fun _ y22 g22 => ?_⟩⟩⟩, fun z => absurd t1 z⟩
    rw [g22, e32, nI_clamp (n := 32 + l) (by omega), t2]
    refine ⟨v48, fun M23 g23 => ?_⟩
    have z0 : MZ ch k n tk ps en M i cs M := ⟨a1, a2, a3, a4, fun _ _ _ => rfl⟩
    have z1 : MZ ch k n tk ps en M23 i cs M23 := by rw [g23]; exact z0.up (by omega)
    refine mread hS z1.me hi (fun M26 h26 => ⟨v48, fun M27 g27 => ?_⟩)
    have z2 := z1.of h26
    rw [z2.2.1] at g27
    rw [g23] at z2
    rw [g27]
    exact hK M26 z2
  have c0 : ∀ (B M : Mm) (K : Int32 → Mm → Prop), LC n tk ps B i cs l lk lw le M → (∀ M9, CQ n tk ps M (i + 1) cs M9 → T_X3_parseSum M9 (fun r12 M11 => (r12 = 0 → K 0 M11) ∧ (¬ r12 = 0 → ∀ y14 : Int32, y14 = M11 137 6 → (M11 132 6 = 259 → T_X7_step M11 (fun M17 => T_X3_parseEither0 0 M17 (fun r20 M19 => (r20 = 0 → K 0 M19) ∧ (¬ r20 = 0 → T_X3_parseLaw_62 (nI (256 + w)) y14 M19 K)))) ∧ (¬ M11 132 6 = 259 → T_X3_parseLaw_62 (nI (256 + w)) y14 M11 K)))) → T_X3_parseLaw M K := by
    intro B M K h hK
    rw [T_X3_parseLaw]
    intro y7 g7
    rw [h.1.2.2.2.1, ht] at g7
    rw [g7]
    exact cstep hn h.cq hi hK
  rcases sum_ok hS (i := i + 1) (cs := cs) (by omega) (by omega) with ⟨fk, p, a1, a2⟩ | ⟨i1, ex1, ai, a0, a1, a2⟩
  · refine Or.inl ⟨fk, p, fun B M K h hK => c0 B M K h (fun M9 h9 => a1 M M9 _ h9 (fun M' h' => ⟨fun _ => hK M' (h.f h'), fun z => absurd rfl z⟩)), fun B M K f h hK => m0 B M K f h (fun M26 h26 => a2 _ _ _ (h26.up (x := nI cs.length) (j0 := 32 + l) (a0 := 173) (by omega)).me (fun M' h' => ⟨fun _ => hK M' ⟨h'.1, h'.2.1, fun a j z => ?_⟩, fun z => absurd rfl z⟩))⟩
    have z1 : ¬ sM a j := fun w => z (Or.inl (by unfold xM; unfold sM at w; omega))
    have z2 : ¬ xM a j := fun w => z (Or.inl w)
    unfold yM at z
    rw [h'.2.2 a j z1, mu, if_neg (by omega), h26.2.2.2.2 a j z2, mu, if_neg (by omega)]
    exact h.2.2.2.2.2 a j (by unfold yM; exact z)
  · obtain ⟨x1, x2, x3, x4⟩ := a0
    have tx1 : tyA ex1 [] [false] := x4 [] (by show 0 ≤ 28; omega)
    have pos1 : 0 < ex1.length := by
      rcases Nat.eq_zero_or_pos ex1.length with z | z
      · have := List.length_eq_zero_iff.mp z
        rw [this] at tx1
        have h2 : ([] : List Bool) = [false] := tx1 (0, 0)
        cases h2
      · exact z
    have len1 : (cs ++ ex1).length ≤ i1 := by rw [List.length_append]; omega
    have m1 : ∀ (B M : Mm) (K : Int32 → Mm → Prop) (f : Nat), LM ch k n tk ps en B i cs l lk lw le M → (∀ M33, MZ ch k n tk ps en M33 i1 (cs ++ ex1) M33 → (∀ a j, ¬ xM a j → M33 a j = m_up (m_up (m_up M 172 (32 + l) (nI w)) 173 (32 + l) (nI cs.length)) 174 (32 + l) (nI (cs ++ ex1).length) a j) → T_X12_isWord 3 M33 (fun r37 M36 => (r37 = 0 → T_X12_readLaw_92 (fun x1 M => T_X12_readLaw_2 f x1 M K) (nI l) (nI (32 + l)) M36 K) ∧ (¬ r37 = 0 → T_X12_reads M36 (fun M40 => T_X12_readAny M40 (fun r43 M42 => (r43 = -1 → K (-1) M42) ∧ (¬ r43 = -1 → T_X12_readLaw_92 (fun x1 M => T_X12_readLaw_2 f x1 M K) (nI l) (nI (32 + l)) M42 K)))))) → T_X12_readLaw_2 (f + 1) (nI l) M K := by
      intro B M K f h hK
      refine m0 B M K f h (fun M26 h26 => ?_)
      have z3 := h26.up (x := nI cs.length) (j0 := 32 + l) (a0 := 173) (by omega)
      refine a2 _ _ _ z3.me (fun M30 h30 => ⟨fun z => absurd z (by decide), fun _ => ⟨v48, fun M33 g33 => ?_⟩⟩)
      have z4 := z3.of h30
      rw [z4.2.1] at g33
      have z5 := z4.up (x := nI (cs ++ ex1).length) (j0 := 32 + l) (a0 := 174) (by omega)
      rw [← g33] at z5
      refine hK M33 z5 (fun a j z => ?_)
      rw [g33]
      refine up_cg ((z4.2.2.2.2 a j z).trans (up_cg (h26.2.2.2.2 a j z)))
    have c1 : ∀ (B M : Mm) (K : Int32 → Mm → Prop), LC n tk ps B i cs l lk lw le M → (∀ M11, CQ n tk ps M i1 (cs ++ ex1) M11 → (M11 132 6 = 259 → T_X7_step M11 (fun M17 => T_X3_parseEither0 0 M17 (fun r20 M19 => (r20 = 0 → K 0 M19) ∧ (¬ r20 = 0 → T_X3_parseLaw_62 (nI (256 + w)) (nI (cs ++ ex1).length) M19 K)))) ∧ (¬ M11 132 6 = 259 → T_X3_parseLaw_62 (nI (256 + w)) (nI (cs ++ ex1).length) M11 K)) → T_X3_parseLaw M K := by
      intro B M K h hK
      refine c0 B M K h (fun M9 h9 => a1 M M9 _ h9 (fun M11 h11 => ⟨fun z => absurd z (by decide), fun _ y14 g14 => ?_⟩))
      rw [h11.2.1] at g14
      rw [g14]
      exact hK M11 h11
    have mfr : ∀ (B M M33 M' : Mm), LM ch k n tk ps en B i cs l lk lw le M → (∀ a j, ¬ xM a j → M33 a j = m_up (m_up (m_up M 172 (32 + l) (nI w)) 173 (32 + l) (nI cs.length)) 174 (32 + l) (nI (cs ++ ex1).length) a j) → (∀ a j, ¬ xM a j → M' a j = M33 a j) → ∀ a j, ¬ yM a j → M' a j = B a j := by
      intro B M M33 M' h h33 h' a j z
      have z2 : ¬ xM a j := fun w => z (Or.inl w)
      have z3 := z
      unfold yM at z3
      rw [h' a j z2, h33 a j z2, mu, if_neg (by omega), mu, if_neg (by omega), mu, if_neg (by omega)]
      exact h.2.2.2.2.2 a j z
    rcases wh_ok hS ai len1 with ⟨fk, p, b1, b2⟩ | ⟨i2, ex2, bi, bii, bl, bo, bt2, b1, b2⟩
    · exact Or.inl ⟨fk, p, fun B M K h hK => c1 B M K h (fun M11 h11 => b1 M M11 K _ _ h11 (fun M' h' => hK M' (h.f h'))), fun B M K f h hK => m1 B M K f h (fun M33 h33 e33 => b2 M33 M33 K _ _ _ h33 (fun M' h' => hK M' ⟨h'.1, h'.2.1, mfr B M M33 M' h e33 h'.2.2⟩))⟩
    · have tb2 := tkc_b (hS.c bi)
      have ea : cs ++ ex1 ++ ex2 = cs ++ (ex1 ++ ex2) := List.append_assoc _ _ _
      rw [ea] at b1 b2
      by_cases e59 : tk i2 = 59
      · have hi2 : i2 < n := hS.z bi (by omega)
        refine Or.inr ⟨i2 + 1, ex1, ex2, by omega, by omega, by omega, pos1, ok_app x3 bo, tx1, bt2, fun B M K h hK => c1 B M K h (fun M11 h11 => b1 M M11 K _ _ h11 (fun M2 h2 => ?_)), fun B M K f h hK => m1 B M K f h (fun M33 h33 e33 => b2 M33 M33 K _ _ _ h33 (fun M' h' => ?_))⟩
        · rw [T_X3_parseLaw_62]
          refine ctk_y (c := 59) hn h2 hi2 rfl e59 (fun M3 h3 => ⟨fun z => absurd z (by decide), fun _ => ?_⟩)
          obtain ⟨d1, d2, d3, d4⟩ := h3
          have w7 : M3 137 7 = nI l := by rw [d4 137 7 (by unfold xC; omega)]; exact h.2.2.2.1
          have v16 : vp_in (nI l) 16 := vp_in_nI (by omega) (by decide)
          rw [T_X2_addLine, w7, nI_clamp (n := l) (by omega), show rf 137 1 = 139 from by decide, show rf 137 2 = 140 from by decide, show rf 137 3 = 141 from by decide]
          refine pk_le 16 l (fun z => absurd z (by omega)) (fun _ => ⟨v16, fun N2 g2 => ?_⟩)
          have w2 : N2 137 7 = nI l := by rw [g2, mu, if_neg (by omega)]; exact w7
          rw [w2, nI_clamp (n := l) (by omega)]
          refine ⟨v16, fun N4 g4 => ?_⟩
          have w4 : N4 137 7 = nI l := by rw [g4, mu, if_neg (by omega)]; exact w2
          have w46 : N4 137 6 = nI (cs ++ (ex1 ++ ex2)).length := by rw [g4, mu, if_neg (by omega), g2, mu, if_neg (by omega)]; exact d2
          rw [w4, nI_clamp (n := l) (by omega), w46]
          refine ⟨v16, fun N6 g6 N8 g8 => hK N8 ?_⟩
          have w6 : N6 137 7 = nI l := by rw [g6, mu, if_neg (by omega)]; exact w4
          rw [w6, nI_1] at g8
          have E : ∀ a j, ¬ (a = 137 ∧ j = 7) → ¬ ((139 ≤ a ∧ a ≤ 141) ∧ j = l) → N8 a j = M3 a j := fun a j z1 z2 => by rw [g8, mu, if_neg z1, g6, mu, if_neg (by omega), g4, mu, if_neg (by omega), g2, mu, if_neg (by omega)]
          refine ⟨d1.cg (fun j _ _ => E 132 j (by omega) (by omega)) (fun j => E 134 j (by omega) (by omega)) (fun j => E 135 j (by omega) (by omega)), by rw [E 137 6 (by omega) (by omega)]; exact d2, fun j y hy => by rw [E 138 j (by omega) (by omega)]; exact d3 j y hy, by rw [g8, mu, if_pos ⟨rfl, rfl⟩], fun j hj => ?_, fun a j z => ?_⟩
          · by_cases c : j = l
            · subst c
              rw [fup_e, fup_e, fup_e, g8, mu, if_neg (by omega), mu, if_neg (by omega), mu, if_neg (by omega), g6, mu, if_neg (by omega), mu, if_neg (by omega), mu, if_pos ⟨rfl, rfl⟩, g4, mu, if_neg (by omega), mu, if_pos ⟨rfl, rfl⟩, g2, mu, if_pos ⟨rfl, rfl⟩]
              exact ⟨rfl, rfl, rfl⟩
            · rw [fup_n c, fup_n c, fup_n c, E 139 j (by omega) (by omega), E 140 j (by omega) (by omega), E 141 j (by omega) (by omega), d4 139 j (by unfold xC; omega), d4 140 j (by unfold xC; omega), d4 141 j (by unfold xC; omega)]
              exact h.2.2.2.2.1 j (by omega)
          · have z2 := z
            unfold yC at z2
            rw [E a j (by omega) (by omega), d4 a j (fun w => z (Or.inl w))]
            exact h.2.2.2.2.2 a j z
        · obtain ⟨d1, d2, d3, d4, d5⟩ := id h'
          rw [T_X12_readLaw_92, d2, nI_clamp (n := 32 + l) (by omega)]
          refine ⟨v48, fun M1 g1 => ?_⟩
          have z6 : MZ ch k n tk ps en M1 i2 (cs ++ (ex1 ++ ex2)) M1 := by rw [g1]; exact h'.up (by omega)
          refine isg_y (s := 59) z6.1.2.2.2.2 (by unfold isSn; omega) rfl e59 ⟨fun z => absurd z (by decide), fun _ => ?_⟩
          refine mread hS z6.me hi2 (fun M8 h8 y9 g9 => ?_)
          have z8 := z6.of h8
          have E : ∀ a j, ¬ xM a j → M8 a j = m_up (m_up (m_up (m_up M 172 (32 + l) (nI w)) 173 (32 + l) (nI cs.length)) 174 (32 + l) (nI (cs ++ ex1).length)) 175 (32 + l) (nI (cs ++ (ex1 ++ ex2)).length) a j := fun a j z => (z8.2.2.2.2 a j z).trans (by rw [g1]; exact up_cg ((d5 a j z).trans (e33 a j z)))
          rw [g9, nI_1]
          refine hK M8 ⟨z8.1, z8.2.1, z8.2.2.1, z8.2.2.2.1, fun j hj => ?_, fun a j z => ?_⟩
          · rw [E 172 _ (by unfold xM; omega), E 173 _ (by unfold xM; omega), E 174 _ (by unfold xM; omega), E 175 _ (by unfold xM; omega), pre_u (by omega)]
            by_cases c : j = l
            · subst c
              rw [fup_e, fup_e, fup_e, hp]
              simp [mu]
            · rw [fup_n c, fup_n c, fup_n c]
              have := h.2.2.2.2.1 j (by omega)
              simpa [mu, c] using this
          · have z2 : ¬ xM a j := fun w => z (Or.inl w)
            have z3 := z
            unfold yM at z3
            rw [E a j z2, mu, if_neg (by omega), mu, if_neg (by omega), mu, if_neg (by omega), mu, if_neg (by omega)]
            exact h.2.2.2.2.2 a j z
      · refine Or.inl ⟨1, ps i2, fun B M K h hK => c1 B M K h (fun M11 h11 => b1 M M11 K _ _ h11 (fun M2 h2 => ?_)), fun B M K f h hK => m1 B M K f h (fun M33 h33 e33 => b2 M33 M33 K _ _ _ h33 (fun M' h' => ?_))⟩
        · rw [T_X3_parseLaw_62]
          exact ctk_n (c := 59) hn h2 rfl tb2 (by omega) e59 (fun M3 h3 => ⟨fun _ => hK M3 (h.f h3), fun z => absurd rfl z⟩)
        · obtain ⟨d1, d2, d3, d4, d5⟩ := id h'
          rw [T_X12_readLaw_92, d2, nI_clamp (n := 32 + l) (by omega)]
          refine ⟨v48, fun M1 g1 => ?_⟩
          have z6 : MZ ch k n tk ps en M1 i2 (cs ++ (ex1 ++ ex2)) M1 := by rw [g1]; exact h'.up (by omega)
          refine isg_n (s := 59) z6.1.2.2.2.2 (by unfold isSn; omega) rfl e59 ⟨fun _ => merr (fk := 1) z6.me rfl (fun M2 h2 => hK M2 ⟨h2.1, h2.2.1, fun a j z => ?_⟩), fun z => absurd rfl z⟩
          have z1 : ¬ sM a j := fun w => z (Or.inl (by unfold xM; unfold sM at w; omega))
          have z3 := z
          unfold yM at z3
          rw [h2.2.2 a j z1, g1, mu, if_neg (by omega)]
          exact mfr B M M33 M' h e33 d5 a j z
