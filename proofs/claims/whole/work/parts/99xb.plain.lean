/-! TEXT: the plain_v texts_v, token by token -/
def tC (a j : Nat) : Prop := a = 132 ∧ 5 ≤ j ∧ j ≤ 6
def tF (a j : Nat) : Prop := a = 132 ∧ 5 ≤ j ∧ j ≤ 8
def tM (a j : Nat) : Prop := a = 159 ∧ ((16 ≤ j ∧ j ≤ 19) ∨ j = 33 ∨ j = 34)
def P0 (n : Nat) (tk ps : Nat → Nat) (B : Mm) (i : Nat) (M : Mm) : Prop := TC n tk ps i M ∧ ∀ a j, ¬ tC a j → M a j = B a j
def PF (B : Mm) (fk p : Nat) (M : Mm) : Prop := M 132 7 = nI fk ∧ M 132 8 = nI p ∧ ∀ a j, ¬ tF a j → M a j = B a j
def Q0 (ch : Nat → Nat) (k n : Nat) (tk ps en : Nat → Nat) (B : Mm) (i : Nat) (M : Mm) : Prop := TM ch k n tk ps en i M ∧ ∀ a j, ¬ tM a j → M a j = B a j
def QF (B : Mm) (fk p : Nat) (M : Mm) : Prop := M 159 33 = nI fk ∧ M 159 34 = nI p ∧ ∀ a j, ¬ tM a j → M a j = B a j
theorem pstep {n i : Nat} {tk ps : Nat → Nat} {B M : Mm} {K : Mm → Prop} (hn : n ≤ 400) (h : P0 n tk ps B i M) (hi : i < n) (hK : ∀ M', P0 n tk ps B (i + 1) M' → K M') : T_X7_step M K :=
  step_ok hn h.1 hi (fun M' a1 a2 => hK M' ⟨a1, fun a j z => by unfold tC at z; rw [a2 a j (by omega)]; exact h.2 a j (by unfold tC; omega)⟩)
theorem pref {n i fk : Nat} {tk ps : Nat → Nat} {B M : Mm} {K : Int32 → Mm → Prop} {x : Int32} (hn : n ≤ 400) (h : P0 n tk ps B i M) (hx : x = nI fk) (hK : ∀ M', PF B fk (ps i) M' → K 0 M') : T_X7_refuse x M K :=
  refuse_ok hn h.1 hx (fun M' a1 a2 a3 => hK M' ⟨a1, a2, fun a j z => by unfold tF at z; rw [a3 a j (by omega)]; exact h.2 a j (by unfold tC; omega)⟩)
theorem pt_y {n i c : Nat} {tk ps : Nat → Nat} {B M : Mm} {K : Int32 → Mm → Prop} {x : Int32} (hn : n ≤ 400) (h : P0 n tk ps B i M) (hi : i < n) (hx : x = nI c) (hc : tk i = c) (hK : ∀ M', P0 n tk ps B (i + 1) M' → K 1 M') : T_X7_take x M K := by
  rw [T_X7_take, h.1.2.2.2.1, hc, hx]
  exact ⟨fun _ => pstep hn h hi hK, fun z => absurd rfl z⟩
theorem pt_n {n i c : Nat} {tk ps : Nat → Nat} {B M : Mm} {K : Int32 → Mm → Prop} {x : Int32} (hn : n ≤ 400) (h : P0 n tk ps B i M) (hx : x = nI c) (hb : tk i ≤ 10999) (hcb : c ≤ 10999) (hc : ¬ tk i = c) (hK : ∀ M', PF B 1 (ps i) M' → K 0 M') : T_X7_take x M K := by
  have q : nI (tk i) = nI c ↔ tk i = c := nI_eq (by omega) (by omega)
  rw [T_X7_take, h.1.2.2.2.1, hx, q]
  exact ⟨fun z => absurd z hc, fun _ => pref (fk := 1) hn h rfl (fun M' h' => ⟨Or.inl rfl, hK M' h'⟩)⟩
theorem pn_y {n i v : Nat} {tk ps : Nat → Nat} {B M : Mm} {K : Int32 → Mm → Prop} {lo hi : Int32} (h : P0 n tk ps B i M) (hv : v ≤ 9999) (ht : tk i = 1000 + v) (hb : lo ≤ nI v ∧ nI v ≤ hi) (hK : K 1 M) : T_X7_isNumber lo hi M K := by
  have c1 : (1000 : Int32) ≤ nI (1000 + v) := nI_le (a := 1000) (by omega) (by omega)
  rw [T_X7_isNumber, h.1.2.2.2.1, ht, show (1000 : Int32) = nI 1000 from rfl, pk_sub (by omega), show 1000 + v - 1000 = v by omega, iw_pos hb, T_X7_isNumber_40]
  exact ⟨fun _ => ⟨fun z => absurd z (by decide), fun _ => hK⟩, fun z => absurd c1 z⟩
theorem pn_o {n i v : Nat} {tk ps : Nat → Nat} {B M : Mm} {K : Int32 → Mm → Prop} {lo hi : Int32} (hn : n ≤ 400) (h : P0 n tk ps B i M) (hv : v ≤ 9999) (ht : tk i = 1000 + v) (hb : ¬ (lo ≤ nI v ∧ nI v ≤ hi)) (hK : ∀ M', PF B 2 (ps i) M' → K 0 M') : T_X7_isNumber lo hi M K := by
  have c1 : (1000 : Int32) ≤ nI (1000 + v) := nI_le (a := 1000) (by omega) (by omega)
  rw [T_X7_isNumber, h.1.2.2.2.1, ht, show (1000 : Int32) = nI 1000 from rfl, pk_sub (by omega), show 1000 + v - 1000 = v by omega, iw_neg hb]
  exact ⟨fun _ => ⟨fun _ => pref (fk := 2) hn h rfl (fun M' h' => ⟨fun _ => hK M' h', fun z => absurd rfl z⟩), fun z => absurd rfl z⟩, fun z => absurd c1 z⟩
theorem pn_n {n i : Nat} {tk ps : Nat → Nat} {B M : Mm} {K : Int32 → Mm → Prop} {lo hi : Int32} (hn : n ≤ 400) (h : P0 n tk ps B i M) (ht : tk i < 1000) (hK : ∀ M', PF B 1 (ps i) M' → K 0 M') : T_X7_isNumber lo hi M K := by
  have c1 : (1000 : Int32) ≤ nI (tk i) ↔ 1000 ≤ tk i := nI_leI (a := 1000) (by decide) (by omega)
  rw [T_X7_isNumber, h.1.2.2.2.1, c1]
  exact ⟨fun z => absurd z (by omega), fun _ => pref (fk := 1) hn h rfl (fun M' h' => ⟨Or.inl rfl, hK M' h'⟩)⟩
theorem qread {ch : Nat → Nat} {k n i : Nat} {tk ps en : Nat → Nat} {B M : Mm} {K : Mm → Prop} (hS : TS ch k n tk ps en) (h : Q0 ch k n tk ps en B i M) (hi : i < n) (hK : ∀ M', Q0 ch k n tk ps en B (i + 1) M' → K M') : T_X12_reads M K :=
  read_ok hS h.1 hi (fun M' a1 a2 => hK M' ⟨a1, fun a j z => by unfold tM at z; rw [a2 a j (by omega)]; exact h.2 a j (by unfold tM; omega)⟩)
theorem qerr {ch : Nat → Nat} {k n i fk : Nat} {tk ps en : Nat → Nat} {B M : Mm} {K : Int32 → Mm → Prop} {x : Int32} (h : Q0 ch k n tk ps en B i M) (hx : x = nI fk) (hK : ∀ M', QF B fk (ps i) M' → K (-1) M') : T_X12_errs x M K :=
  errs_ok h.1 hx (fun M' a1 a2 a3 => hK M' ⟨a1, a2, fun a j z => by unfold tM at z; rw [a3 a j (by omega)]; exact h.2 a j (by unfold tM; omega)⟩)
theorem qn_y {ch : Nat → Nat} {k n i v : Nat} {tk ps en : Nat → Nat} {B M : Mm} {K : Int32 → Mm → Prop} {lo hi : Int32} (hS : TS ch k n tk ps en) (h : Q0 ch k n tk ps en B i M) (hi' : i < n) (ht : tk i = 1000 + v) (hb : lo ≤ nI v ∧ nI v ≤ hi) (hK : ∀ M', Q0 ch k n tk ps en B (i + 1) M' → K (nI v) M') : T_X12_readNumber lo hi M K := by
  obtain ⟨t1, t2⟩ := tR_n h.1.2.2.2.2 (by omega)
  rw [ht, show 1000 + v - 1000 = v by omega] at t2
  rw [T_X12_readNumber, t2, ii_pos hb]
  refine ⟨fun _ => ⟨fun z => absurd z (by decide), fun _ y6 g6 => ?_⟩, fun z => absurd t1 z⟩
  rw [t2] at g6
  rw [g6]
  exact qread hS h hi' hK
theorem qn_o {ch : Nat → Nat} {k n i v : Nat} {tk ps en : Nat → Nat} {B M : Mm} {K : Int32 → Mm → Prop} {lo hi : Int32} (h : Q0 ch k n tk ps en B i M) (ht : tk i = 1000 + v) (hb : ¬ (lo ≤ nI v ∧ nI v ≤ hi)) (hK : ∀ M', QF B 2 (ps i) M' → K (-1) M') : T_X12_readNumber lo hi M K := by
  obtain ⟨t1, t2⟩ := tR_n h.1.2.2.2.2 (by omega)
  rw [ht, show 1000 + v - 1000 = v by omega] at t2
  rw [T_X12_readNumber, t2, ii_neg hb]
  exact ⟨fun _ => ⟨fun _ => qerr (fk := 2) h rfl hK, fun z => absurd rfl z⟩, fun z => absurd t1 z⟩
theorem qn_n {ch : Nat → Nat} {k n i : Nat} {tk ps en : Nat → Nat} {B M : Mm} {K : Int32 → Mm → Prop} {lo hi : Int32} (h : Q0 ch k n tk ps en B i M) (ht : tk i < 1000) (hK : ∀ M', QF B 1 (ps i) M' → K (-1) M') : T_X12_readNumber lo hi M K := by
  rw [T_X12_readNumber]
  exact ⟨fun z => absurd ((tR_3 h.1.2.2.2.2).mp z) (by omega), fun _ => qerr (fk := 1) h rfl hK⟩
theorem tk_n {c : Nat} (h : tkc c) : (∃ v, v ≤ 9999 ∧ c = 1000 + v) ∨ c < 1000 := by
  by_cases a : 1000 ≤ c
  · exact Or.inl ⟨c - 1000, by have := tkc_b h; omega, by omega⟩
  · exact Or.inr (by omega)
/-- a number_v, in both_v -/
theorem tn_ok {ch : Nat → Nat} {k n i : Nat} {tk ps en : Nat → Nat} (hS : TS ch k n tk ps en) (hi : i ≤ n) (lo hi' : Int32) :
    (∃ fk, (∀ (B M : Mm) (K : Int32 → Mm → Prop), P0 n tk ps B i M → (∀ M', PF B fk (ps i) M' → K (-1) M') → T_X3_takeNumber lo hi' M K) ∧ (∀ (B M : Mm) (K : Int32 → Mm → Prop), Q0 ch k n tk ps en B i M → (∀ M', QF B fk (ps i) M' → K (-1) M') → T_X12_readNumber lo hi' M K)) ∨
    (∃ v, i < n ∧ v ≤ 9999 ∧ (lo ≤ nI v ∧ nI v ≤ hi') ∧ (∀ (B M : Mm) (K : Int32 → Mm → Prop), P0 n tk ps B i M → (∀ M', P0 n tk ps B (i + 1) M' → K (nI v) M') → T_X3_takeNumber lo hi' M K) ∧ (∀ (B M : Mm) (K : Int32 → Mm → Prop), Q0 ch k n tk ps en B i M → (∀ M', Q0 ch k n tk ps en B (i + 1) M' → K (nI v) M') → T_X12_readNumber lo hi' M K)) := by
  have hn := hS.n
  rcases tk_n (hS.c hi) with ⟨v, v1, v2⟩ | b
  · have hin : i < n := hS.z hi (by omega)
    by_cases hb : lo ≤ nI v ∧ nI v ≤ hi'
    · refine Or.inr ⟨v, hin, v1, hb, fun B M K h hK => ?_, fun B M K h hK => qn_y hS h hin v2 hb hK⟩
      rw [T_X3_takeNumber]
      refine pn_y h v1 v2 hb ⟨fun z => absurd z (by decide), fun _ y5 g5 => ?_⟩
      rw [h.1.2.2.2.1, v2, show (1000 : Int32) = nI 1000 from rfl, pk_sub (by omega), show 1000 + v - 1000 = v by omega] at g5
      rw [g5]
      exact pstep hn h hin hK
    · refine Or.inl ⟨2, fun B M K h hK => ?_, fun B M K h hK => qn_o h v2 hb hK⟩
      rw [T_X3_takeNumber]
      exact pn_o hn h v1 v2 hb (fun M' h' => ⟨fun _ => hK M' h', fun z => absurd rfl z⟩)
  · refine Or.inl ⟨1, fun B M K h hK => ?_, fun B M K h hK => qn_n h b hK⟩
    rw [T_X3_takeNumber]
    exact pn_n hn h b (fun M' h' => ⟨fun _ => hK M' h', fun z => absurd rfl z⟩)
/-- a word that must stand there_v, in both_v -/
theorem qw_y {ch : Nat → Nat} {k n i w : Nat} {tk ps en : Nat → Nat} {B M : Mm} {K : Int32 → Mm → Prop} {x lo hi : Int32} (hS : TS ch k n tk ps en) (h : Q0 ch k n tk ps en B i M) (hi' : i < n) (hw : w < 28) (hx : x = nI w) (hc : tk i = 256 + w) (hK : ∀ M', Q0 ch k n tk ps en B (i + 1) M' → T_X12_readNumber lo hi M' K) : T_X12_readTold x lo hi M K := by
  rw [T_X12_readTold]
  exact iwd_y h.1.2.2.2.2 hw hx hc ⟨fun z => absurd z (by decide), fun _ => qread hS h hi' hK⟩
theorem qw_n {ch : Nat → Nat} {k n i w : Nat} {tk ps en : Nat → Nat} {B M : Mm} {K : Int32 → Mm → Prop} {x lo hi : Int32} (h : Q0 ch k n tk ps en B i M) (hw : w < 28) (hx : x = nI w) (hc : ¬ tk i = 256 + w) (hK : ∀ M', QF B 1 (ps i) M' → K (-1) M') : T_X12_readTold x lo hi M K := by
  rw [T_X12_readTold]
  exact iwd_n h.1.2.2.2.2 hw hx hc ⟨fun _ => qerr (fk := 1) h rfl hK, fun z => absurd rfl z⟩
theorem qm_y {ch : Nat → Nat} {k n i : Nat} {tk ps en : Nat → Nat} {B M : Mm} {K : Int32 → Mm → Prop} (hS : TS ch k n tk ps en) (h : Q0 ch k n tk ps en B i M) (hi' : i < n) (hc : tk i = 59) (hK : ∀ M', Q0 ch k n tk ps en B (i + 1) M' → K 0 M') : T_X12_readMark 59 M K := by
  rw [T_X12_readMark]
  exact isg_y (s := 59) h.1.2.2.2.2 (by unfold isSn; omega) rfl hc ⟨fun z => absurd z (by decide), fun _ => qread hS h hi' hK⟩
theorem qm_n {ch : Nat → Nat} {k n i : Nat} {tk ps en : Nat → Nat} {B M : Mm} {K : Int32 → Mm → Prop} (h : Q0 ch k n tk ps en B i M) (hc : ¬ tk i = 59) (hK : ∀ M', QF B 1 (ps i) M' → K (-1) M') : T_X12_readMark 59 M K := by
  rw [T_X12_readMark]
  exact isg_n (s := 59) h.1.2.2.2.2 (by unfold isSn; omega) rfl hc ⟨fun _ => qerr (fk := 1) h rfl hK, fun z => absurd rfl z⟩
theorem bl_ok {n i l fw : Nat} {tk ps : Nat → Nat} {M : Mm} {K : Int32 → Mm → Prop} {x1 : Int32} (hn : n ≤ 400) (h : TC n tk ps i M) (hb : tk i ≤ 10999) (hl : l ≤ 16) (hx : (x1 = 2 ∧ fw = 277) ∨ ((x1 = 1 ∨ x1 = 3) ∧ fw = 275)) (k0 : ¬ tk i = fw → ∀ M', M' 132 7 = nI 1 → M' 132 8 = nI (ps i) → (∀ a j, ¬ (a = 132 ∧ 7 ≤ j ∧ j ≤ 8) → M' a j = M a j) → K 0 M') (k1 : tk i = fw → l = 16 → ∀ M', M' 132 7 = nI 3 → M' 132 8 = nI (ps i) → (∀ a j, ¬ (a = 132 ∧ 7 ≤ j ∧ j ≤ 8) → M' a j = M a j) → K 0 M') (k2 : tk i = fw → l < 16 → K 1 M) : T_X3_beginsLine x1 (nI l) M K := by
  have g : ∀ s1 : Int32, s1 = nI fw → T_X3_beginsLine_45 (nI l) (M 132 6) s1 M K := by
    intro s1 hs
    have q : nI (tk i) = nI fw ↔ tk i = fw := nI_eq (by omega) (by omega)
    rw [T_X3_beginsLine_45, h.2.2.2.1, hs, q]
    refine ⟨fun z => ?_, fun z => ?_⟩
    · rw [T_X3_beginsLine_53]
      exact b54 hn h hl (fun y => absurd y (by decide)) (fun _ y => k1 z y) (fun _ y => k2 z y)
    · rw [T_X3_beginsLine_53]
      exact b54 hn h hl (fun _ => k0 z) (fun y => absurd rfl y) (fun y => absurd rfl y)
  rw [T_X3_beginsLine]
  rcases hx with ⟨rfl, e⟩ | ⟨rfl | rfl, e⟩
  · exact ⟨fun z => absurd z (by decide), fun _ => ⟨fun _ => g 277 (by rw [e]; rfl), fun z => absurd rfl z⟩⟩
  · exact ⟨fun z => absurd z (by decide), fun _ => ⟨fun z => absurd z (by decide), fun _ => g 275 (by rw [e]; rfl)⟩⟩
  · exact ⟨fun z => absurd z (by decide), fun _ => ⟨fun z => absurd z (by decide), fun _ => g 275 (by rw [e]; rfl)⟩⟩
theorem TS.e {ch : Nat → Nat} {k n : Nat} {tk ps en : Nat → Nat} (hS : TS ch k n tk ps en) {i : Nat} (hi : i ≤ n) (t0 : tk i = 0) : i = n := by
  rcases Nat.lt_or_ge i n with z | z
  · obtain ⟨-, -, -, -, t5, -⟩ := hS.2.2.1 i z
    rw [t0] at t5
    rcases t5 with ⟨-, ⟨w, w1, w2, w3, w4⟩ | ⟨-, w⟩⟩ | ⟨q, ⟨-, w⟩ | ⟨w1, w⟩⟩ | ⟨-, -, ⟨w1, w⟩ | ⟨-, w⟩⟩
    · omega
    · omega
    · omega
    · omega
    · rw [← w] at w1; unfold isSn at w1; omega
    · omega
  · omega
set_option maxHeartbeats 1000000 in
/-- a plain_v text, line by line: what its lines are is told_v -/
theorem gl_ok {S : Type} {ch : Nat → Nat} {k n : Nat} {tk ps en : Nat → Nat} (hS : TS ch k n tk ps en) {x1 : Int32} {fw w : Nat} {cl : Mm → (Int32 → Mm → Prop) → Prop} {ml : Int32 → Mm → (Int32 → Mm → Prop) → Prop} {TL : Nat → Int32 → Mm → (Int32 → Mm → Prop) → Prop} {CL ML : Mm → Nat → Nat → S → Mm → Prop} {CF MF : Mm → Nat → Nat → Mm → Prop} {bC bM : Mm → Prop}
    (hx : (x1 = 2 ∧ fw = 277) ∨ ((x1 = 1 ∨ x1 = 3) ∧ fw = 275)) (hw : fw = 256 + w) (hw28 : w < 28)
    (h78 : ∀ (B : Int32 → Int32 → Int32 → Mm → Prop) (x3 x4 : Int32) (M : Mm) (K : Int32 → Mm → Prop), cl M (fun r M' => T_X3_parse_127 B 2 x1 x3 x4 r M' K) → T_X3_parse_78 B 2 x1 x3 x4 1 M K)
    (hTL : ∀ (f : Nat) (x : Int32) (M : Mm) (K : Int32 → Mm → Prop), T_X12_isWord (nI w) M (fun r3 M2 => (r3 = 0 → (M2 159 18 = 0 → K x M2) ∧ (¬ M2 159 18 = 0 → T_X12_errs 1 M2 (fun r8 M7 => K r8 M7))) ∧ (¬ r3 = 0 → (x = 16 → T_X12_errs 3 M2 (fun r17 M16 => K r17 M16)) ∧ (¬ x = 16 → ml x M2 (fun r12 M11 => (r12 = -1 → K (-1) M11) ∧ (¬ r12 = -1 → ∀ y14 : Int32, y14 = x + 1 → TL f y14 M11 K))))) → TL (f + 1) x M K)
    (hCT : ∀ B i l s M, CL B i l s M → TC n tk ps i M) (hMT : ∀ B i l s M, ML B i l s M → TM ch k n tk ps en i M)
    (hCF : ∀ B i l s fk M M', CL B i l s M → M' 132 7 = nI fk → M' 132 8 = nI (ps i) → (∀ a j, ¬ (a = 132 ∧ 7 ≤ j ∧ j ≤ 8) → M' a j = M a j) → CF B fk (ps i) M')
    (hMF : ∀ B i l s fk M M', ML B i l s M → M' 159 33 = nI fk → M' 159 34 = nI (ps i) → (∀ a j, ¬ (a = 159 ∧ 33 ≤ j ∧ j ≤ 34) → M' a j = M a j) → MF B fk (ps i) M')
    (hln : ∀ i l s, i < n → tk i = fw → l < 16 → (∃ fk p, (∀ B M K, bC B → CL B i l s M → (∀ M', CF B fk p M' → K 0 M') → cl M K) ∧ (∀ B M K, bM B → ML B i l s M → (∀ M', MF B fk p M' → K (-1) M') → ml (nI l) M K)) ∨ (∃ i' s', i' ≤ n ∧ (∀ B M K, bC B → CL B i l s M → (∀ M', CL B i' (l + 1) s' M' → K 1 M') → cl M K) ∧ (∀ B M K, bM B → ML B i l s M → (∀ M', ML B i' (l + 1) s' M' → K 0 M') → ml (nI l) M K))) :
    ∀ m l i s, l + m = 16 → i ≤ n → (∃ fk p, (∀ B M K f, bC B → CL B i l s M → m < f → (∀ M', CF B fk p M' → K (-1) M') → T_X3_parse_35 2 f x1 (nI l) (nI l) M K) ∧ (∀ B M K f, bM B → ML B i l s M → m < f → (∀ M', MF B fk p M' → K (-1) M') → TL f (nI l) M K)) ∨ (∃ l' s', l' ≤ 16 ∧ (∀ B M K f, bC B → CL B i l s M → m < f → (∀ M', CL B n l' s' M' → K (nI l') M') → T_X3_parse_35 2 f x1 (nI l) (nI l) M K) ∧ (∀ B M K f, bM B → ML B i l s M → m < f → (∀ M', ML B n l' s' M' → K (nI l') M') → TL f (nI l) M K)) := by
  have hn := hS.n
  have x0 : ¬ x1 = 0 := by
    rcases hx with ⟨e, -⟩ | ⟨e | e, -⟩ <;> (rw [e]; decide)
  intro m
  induction m with
  | zero =>
    intro l i s hlm hi
    have tb := tkc_b (hS.c hi)
    have c0 : nI (tk i) = (0 : Int32) ↔ tk i = 0 := nI_eq (b := 0) (by omega) (by decide)
    have hl : l = 16 := by omega
    by_cases t0 : tk i = 0
    · have hin := hS.e hi t0
      subst hin
      refine Or.inr ⟨l, s, by omega, fun B M K f hB h hf hK => ?_, fun B M K f hB h hf hK => ?_⟩
      · obtain ⟨f, rfl⟩ : ∃ g, f = g + 1 := ⟨f - 1, by omega⟩
        rw [T_X3_parse_35, (hCT _ _ _ _ _ h).2.2.2.1, c0]
        exact pk_lt 16 l (fun z => absurd z (by omega)) (fun _ => ⟨fun _ => hK M h, fun z => absurd t0 z⟩)
      · obtain ⟨f, rfl⟩ : ∃ g, f = g + 1 := ⟨f - 1, by omega⟩
        have hr := (hMT _ _ _ _ _ h).2.2.2.2
        exact hTL f _ M K (iwd_n hr hw28 rfl (by omega) ⟨fun _ => ⟨fun _ => hK M h, fun z => absurd ((tR_0 hr).mpr t0) z⟩, fun z => absurd rfl z⟩)
    · by_cases tw : tk i = fw
      · refine Or.inl ⟨3, ps i, fun B M K f hB h hf hK => ?_, fun B M K f hB h hf hK => ?_⟩
        · obtain ⟨f, rfl⟩ : ∃ g, f = g + 1 := ⟨f - 1, by omega⟩
          have ht := hCT _ _ _ _ _ h
          rw [T_X3_parse_35, ht.2.2.2.1, c0]
          refine pk_lt 16 l (fun z => absurd z (by omega)) (fun _ => ⟨fun z => absurd z t0, fun _ => ?_⟩)
          exact bl_ok hn ht tb (by omega) hx (fun z => absurd tw z) (fun _ _ M' a1 a2 a3 => ⟨fun _ => p78_0 (hK M' (hCF _ _ _ _ _ _ _ h a1 a2 a3)), fun q => absurd rfl q⟩) (fun _ z => absurd z (by omega))
        · obtain ⟨f, rfl⟩ : ∃ g, f = g + 1 := ⟨f - 1, by omega⟩
          have hr := hMT _ _ _ _ _ h
          exact hTL f _ M K (iwd_y hr.2.2.2.2 hw28 rfl (by omega) ⟨fun z => absurd z (by decide), fun _ => ⟨fun _ => errs_ok (fk := 3) hr rfl (fun M' a1 a2 a3 => hK M' (hMF _ _ _ _ _ _ _ h a1 a2 a3)), fun z => absurd (by rw [hl]; rfl) z⟩⟩)
      · refine Or.inl ⟨1, ps i, fun B M K f hB h hf hK => ?_, fun B M K f hB h hf hK => ?_⟩
        · obtain ⟨f, rfl⟩ : ∃ g, f = g + 1 := ⟨f - 1, by omega⟩
          have ht := hCT _ _ _ _ _ h
          rw [T_X3_parse_35, ht.2.2.2.1, c0]
          refine pk_lt 16 l (fun z => absurd z (by omega)) (fun _ => ⟨fun z => absurd z t0, fun _ => ?_⟩)
          exact bl_ok hn ht tb (by omega) hx (fun _ M' a1 a2 a3 => ⟨fun _ => p78_0 (hK M' (hCF _ _ _ _ _ _ _ h a1 a2 a3)), fun q => absurd rfl q⟩) (fun z => absurd z tw) (fun z => absurd z tw)
        · obtain ⟨f, rfl⟩ : ∃ g, f = g + 1 := ⟨f - 1, by omega⟩
          have hr := hMT _ _ _ _ _ h
          exact hTL f _ M K (iwd_n hr.2.2.2.2 hw28 rfl (by omega) ⟨fun _ => ⟨fun z => absurd ((tR_0 hr.2.2.2.2).mp z) t0, fun _ => errs_ok (fk := 1) hr rfl (fun M' a1 a2 a3 => hK M' (hMF _ _ _ _ _ _ _ h a1 a2 a3))⟩, fun z => absurd rfl z⟩)
  | succ m ih =>
    intro l i s hlm hi
    have tb := tkc_b (hS.c hi)
    have c0 : nI (tk i) = (0 : Int32) ↔ tk i = 0 := nI_eq (b := 0) (by omega) (by decide)
    by_cases t0 : tk i = 0
    · have hin := hS.e hi t0
      subst hin
      refine Or.inr ⟨l, s, by omega, fun B M K f hB h hf hK => ?_, fun B M K f hB h hf hK => ?_⟩
      · obtain ⟨f, rfl⟩ : ∃ g, f = g + 1 := ⟨f - 1, by omega⟩
        rw [T_X3_parse_35, (hCT _ _ _ _ _ h).2.2.2.1, c0]
        exact pk_lt 16 l (fun z => absurd z (by omega)) (fun _ => ⟨fun _ => hK M h, fun z => absurd t0 z⟩)
      · obtain ⟨f, rfl⟩ : ∃ g, f = g + 1 := ⟨f - 1, by omega⟩
        have hr := (hMT _ _ _ _ _ h).2.2.2.2
        exact hTL f _ M K (iwd_n hr hw28 rfl (by omega) ⟨fun _ => ⟨fun _ => hK M h, fun z => absurd ((tR_0 hr).mpr t0) z⟩, fun z => absurd rfl z⟩)
    · have hin : i < n := hS.z hi t0
      by_cases tw : tk i = fw
      · have l16 : ¬ nI l = (16 : Int32) := fun z => absurd ((nI_eq (b := 16) (by omega) (by decide)).mp z) (by omega)
        have cgo : ∀ (B M : Mm) (K : Int32 → Mm → Prop) (f : Nat), CL B i l s M → cl M (fun r M' => T_X3_parse_127 (fun x1 x3 x4 M => T_X3_parse_35 2 f x1 x3 x4 M K) 2 x1 (nI l) (nI l) r M' K) → T_X3_parse_35 2 (f + 1) x1 (nI l) (nI l) M K := by
          intro B M K f h hK
          have ht := hCT _ _ _ _ _ h
          rw [T_X3_parse_35, ht.2.2.2.1, c0]
          refine pk_lt 16 l (fun z => absurd z (by omega)) (fun _ => ⟨fun z => absurd z t0, fun _ => ?_⟩)
          exact bl_ok hn ht tb (by omega) hx (fun z => absurd tw z) (fun _ z => absurd z (by omega)) (fun _ _ => ⟨fun z => absurd z (by decide), fun _ => ⟨fun z => absurd z x0, fun _ => h78 _ _ _ _ _ hK⟩⟩)
        have mgo : ∀ (B M : Mm) (K : Int32 → Mm → Prop) (f : Nat), ML B i l s M → ml (nI l) M (fun r12 M11 => (r12 = -1 → K (-1) M11) ∧ (¬ r12 = -1 → ∀ y14 : Int32, y14 = nI l + 1 → TL f y14 M11 K)) → TL (f + 1) (nI l) M K := by
          intro B M K f h hK
          have hr := hMT _ _ _ _ _ h
          exact hTL f _ M K (iwd_y hr.2.2.2.2 hw28 rfl (by omega) ⟨fun z => absurd z (by decide), fun _ => ⟨fun z => absurd z l16, fun _ => hK⟩⟩)
        rcases hln i l s hin tw (by omega) with ⟨fk, p, a1, a2⟩ | ⟨i1, s1, ai, a1, a2⟩
        · refine Or.inl ⟨fk, p, fun B M K f hB h hf hK => ?_, fun B M K f hB h hf hK => ?_⟩
          · obtain ⟨f, rfl⟩ : ∃ g, f = g + 1 := ⟨f - 1, by omega⟩
            exact cgo B M K f h (a1 B M _ hB h (fun M' h' => p127_0 (hK M' h')))
          · obtain ⟨f, rfl⟩ : ∃ g, f = g + 1 := ⟨f - 1, by omega⟩
            exact mgo B M K f h (a2 B M _ hB h (fun M' h' => ⟨fun _ => hK M' h', fun z => absurd rfl z⟩))
        · rcases ih (l + 1) i1 s1 (by omega) ai with ⟨fk, p, b1, b2⟩ | ⟨l', s', bl, b1, b2⟩
          · refine Or.inl ⟨fk, p, fun B M K f hB h hf hK => ?_, fun B M K f hB h hf hK => ?_⟩
            · obtain ⟨f, rfl⟩ : ∃ g, f = g + 1 := ⟨f - 1, by omega⟩
              refine cgo B M K f h (a1 B M _ hB h (fun M' h' => p127_1 ?_))
              rw [nI_1]
              exact b1 B M' K f hB h' (by omega) hK
            · obtain ⟨f, rfl⟩ : ∃ g, f = g + 1 := ⟨f - 1, by omega⟩
              refine mgo B M K f h (a2 B M _ hB h (fun M' h' => ⟨fun z => absurd z (by decide), fun _ y14 g14 => ?_⟩))
              rw [g14, nI_1]
              exact b2 B M' K f hB h' (by omega) hK
          · refine Or.inr ⟨l', s', bl, fun B M K f hB h hf hK => ?_, fun B M K f hB h hf hK => ?_⟩
            · obtain ⟨f, rfl⟩ : ∃ g, f = g + 1 := ⟨f - 1, by omega⟩
              refine cgo B M K f h (a1 B M _ hB h (fun M' h' => p127_1 ?_))
              rw [nI_1]
              exact b1 B M' K f hB h' (by omega) hK
            · obtain ⟨f, rfl⟩ : ∃ g, f = g + 1 := ⟨f - 1, by omega⟩
              refine mgo B M K f h (a2 B M _ hB h (fun M' h' => ⟨fun z => absurd z (by decide), fun _ y14 g14 => ?_⟩))
              rw [g14, nI_1]
              exact b2 B M' K f hB h' (by omega) hK
      · refine Or.inl ⟨1, ps i, fun B M K f hB h hf hK => ?_, fun B M K f hB h hf hK => ?_⟩
        · obtain ⟨f, rfl⟩ : ∃ g, f = g + 1 := ⟨f - 1, by omega⟩
          have ht := hCT _ _ _ _ _ h
          rw [T_X3_parse_35, ht.2.2.2.1, c0]
          refine pk_lt 16 l (fun z => absurd z (by omega)) (fun _ => ⟨fun z => absurd z t0, fun _ => ?_⟩)
          exact bl_ok hn ht tb (by omega) hx (fun _ M' a1 a2 a3 => ⟨fun _ => p78_0 (hK M' (hCF _ _ _ _ _ _ _ h a1 a2 a3)), fun q => absurd rfl q⟩) (fun z => absurd z tw) (fun z => absurd z tw)
        · obtain ⟨f, rfl⟩ : ∃ g, f = g + 1 := ⟨f - 1, by omega⟩
          have hr := hMT _ _ _ _ _ h
          exact hTL f _ M K (iwd_n hr.2.2.2.2 hw28 rfl (by omega) ⟨fun _ => ⟨fun z => absurd ((tR_0 hr.2.2.2.2).mp z) t0, fun _ => errs_ok (fk := 1) hr rfl (fun M' a1 a2 a3 => hK M' (hMF _ _ _ _ _ _ _ h a1 a2 a3))⟩, fun z => absurd rfl z⟩)
