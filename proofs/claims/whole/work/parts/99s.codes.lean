/-! TEXT: codes_v -/
def cN (x : Nat × Nat) : Nat := match x.1 with
  | 0 => x.2 | 1 => 10000 + x.2 | 2 => 20043 | 3 => 20045 | 4 => 20042 | 5 => 20047 | 6 => 20060 | 7 => 20061 | 8 => 20062 | 9 => 20262 | 10 => 20261 | _ => 20260
def okc (x : Nat × Nat) : Prop := (x.1 = 0 ∧ x.2 ≤ 9999) ∨ (x.1 = 1 ∧ x.2 ≤ 11) ∨ (2 ≤ x.1 ∧ x.1 ≤ 11)
theorem sn_get {cs : List (Nat × Nat)} {y x : Nat × Nat} {j : Nat} (h : (cs ++ [y])[j]? = some x) : (j < cs.length ∧ cs[j]? = some x) ∨ (j = cs.length ∧ x = y) := by
  rcases Nat.lt_trichotomy j cs.length with z | z | z
  · rw [List.getElem?_append_left z] at h
    exact Or.inl ⟨z, h⟩
  · subst z
    rw [List.getElem?_append_right (Nat.le_refl _), Nat.sub_self] at h
    have h2 : some y = some x := h
    exact Or.inr ⟨rfl, (Option.some.inj h2).symm⟩
  · rw [List.getElem?_append_right (by omega)] at h
    have : [y][j - cs.length]? = none := List.getElem?_eq_none (by show 1 ≤ j - cs.length; omega)
    rw [this] at h
    cases h
/-- one code: what stands on the stack before_v it and behind_v it; p: the code before_v it -/
def stL (p x : Nat × Nat) (u t : List Bool) : Prop :=
  ((x.1 = 0 ∨ x.1 = 1) ∧ u.length ≤ 30 ∧ t = false :: u) ∨
  ((x.1 = 2 ∨ x.1 = 3 ∨ x.1 = 4) ∧ ∃ s, u = false :: false :: s ∧ t = false :: s) ∨
  (x.1 = 5 ∧ p.1 = 0 ∧ ¬ p.2 = 0 ∧ ∃ s, u = false :: false :: s ∧ t = false :: s) ∨
  ((x.1 = 6 ∨ x.1 = 7 ∨ x.1 = 8) ∧ ∃ s, u = false :: false :: s ∧ t = true :: s) ∨
  (x.1 = 9 ∧ ∃ s, u = true :: s ∧ t = true :: s) ∨
  ((x.1 = 10 ∨ x.1 = 11) ∧ ∃ s, u = true :: true :: s ∧ t = true :: s)
def tyL : Nat × Nat → List (Nat × Nat) → List Bool → List Bool → Prop
  | _, [], u, t => u = t
  | p, x :: r, u, t => ∃ u', stL p x u u' ∧ tyL x r u' t
def tyA (e : List (Nat × Nat)) (u t : List Bool) : Prop := ∀ p, tyL p e u t
theorem tyL.app {b : List (Nat × Nat)} {t v : List Bool} (hb : tyA b t v) : ∀ (a : List (Nat × Nat)) (p : Nat × Nat) (u : List Bool), tyL p a u t → tyL p (a ++ b) u v
  | [], p, u, h => by
    have h2 : u = t := h
    rw [h2]
    exact hb p
  | x :: r, p, u, h => by
    obtain ⟨u', h1, h2⟩ := h
    exact ⟨u', h1, tyL.app hb r x u' h2⟩
theorem tyA.app {a b : List (Nat × Nat)} {u t v : List Bool} (ha : tyA a u t) (hb : tyA b t v) : tyA (a ++ b) u v := fun p => tyL.app hb a p u (ha p)
theorem tyA.nil {u : List Bool} : tyA [] u u := fun _ => rfl
theorem tyA.one {x : Nat × Nat} {u t : List Bool} (h : ∀ p, stL p x u t) : tyA [x] u t := fun p => ⟨t, h p, rfl⟩
/-- codes_v from token i to i': of one thing_v more_v on the stack -/
def EX (t : Bool) (L i i' : Nat) (ex : List (Nat × Nat)) : Prop := i < i' ∧ ex.length + i ≤ i' ∧ (∀ x, x ∈ ex → okc x) ∧ ∀ u : List Bool, u.length ≤ L → tyA ex u (t :: u)
def EL (t : Bool) (L i i' : Nat) (ex : List (Nat × Nat)) : Prop := i ≤ i' ∧ ex.length + i ≤ i' ∧ (∀ x, x ∈ ex → okc x) ∧ ∀ u : List Bool, u.length ≤ L → tyA ex (t :: u) (t :: u)
theorem EL.nil {t : Bool} {L i : Nat} : EL t L i i [] := ⟨by omega, by show 0 + i ≤ i; omega, fun x hx => absurd hx (by simp), fun u _ => tyA.nil⟩
theorem ok_app {a b : List (Nat × Nat)} (ha : ∀ x, x ∈ a → okc x) (hb : ∀ x, x ∈ b → okc x) : ∀ x, x ∈ a ++ b → okc x := fun x hx => (List.mem_append.mp hx).elim (ha x) (hb x)
theorem ok_1 {y : Nat × Nat} (h : okc y) : ∀ x, x ∈ [y] → okc x := fun x hx => by rw [List.mem_singleton.mp hx]; exact h
theorem EX.el {t : Bool} {L i i1 i2 : Nat} {a b : List (Nat × Nat)} (ha : EX t L i i1 a) (hb : EL t L i1 i2 b) : EX t L i i2 (a ++ b) := by
  obtain ⟨a1, a2, a3, a4⟩ := ha
  obtain ⟨b1, b2, b3, b4⟩ := hb
  exact ⟨by omega, by rw [List.length_append]; omega, ok_app a3 b3, fun u hu => (a4 u hu).app (b4 u hu)⟩
theorem EL.el {t : Bool} {L i i1 i2 : Nat} {a b : List (Nat × Nat)} (ha : EL t L i i1 a) (hb : EL t L i1 i2 b) : EL t L i i2 (a ++ b) := by
  obtain ⟨a1, a2, a3, a4⟩ := ha
  obtain ⟨b1, b2, b3, b4⟩ := hb
  exact ⟨by omega, by rw [List.length_append]; omega, ok_app a3 b3, fun u hu => (a4 u hu).app (b4 u hu)⟩
/-! what the class and the model write while they read an expression -/
def xC (a j : Nat) : Prop := (a = 132 ∧ 5 ≤ j ∧ j ≤ 6) ∨ (a = 137 ∧ j = 6) ∨ a = 138
def xF (a j : Nat) : Prop := xC a j ∨ (a = 132 ∧ 7 ≤ j ∧ j ≤ 8)
def sM (a j : Nat) : Prop := (a = 159 ∧ ((16 ≤ j ∧ j ≤ 19) ∨ j = 29 ∨ j = 33 ∨ j = 34)) ∨ ((a = 176 ∨ a = 177) ∧ 800 ≤ j)
def CQ (n : Nat) (tk ps : Nat → Nat) (B : Mm) (i : Nat) (cs : List (Nat × Nat)) (M : Mm) : Prop := TC n tk ps i M ∧ M 137 6 = nI cs.length ∧ (∀ j x, cs[j]? = some x → M 138 j = nI (cN x)) ∧ ∀ a j, ¬ xC a j → M a j = B a j
def CFt (B : Mm) (fk p : Nat) (M : Mm) : Prop := M 132 7 = nI fk ∧ M 132 8 = nI p ∧ ∀ a j, ¬ xF a j → M a j = B a j
def ME (ch : Nat → Nat) (k n : Nat) (tk ps en : Nat → Nat) (B : Mm) (i : Nat) (cs : List (Nat × Nat)) (M : Mm) : Prop := TM ch k n tk ps en i M ∧ M 159 29 = nI cs.length ∧ (∀ j x, cs[j]? = some x → M 176 (800 + j) = nI x.1 ∧ M 177 (800 + j) = nI x.2) ∧ ∀ a j, ¬ sM a j → M a j = B a j
def MFs (B : Mm) (fk p : Nat) (M : Mm) : Prop := M 159 33 = nI fk ∧ M 159 34 = nI p ∧ ∀ a j, ¬ sM a j → M a j = B a j
theorem cstep {n i : Nat} {tk ps : Nat → Nat} {B M : Mm} {K : Mm → Prop} {cs : List (Nat × Nat)} (hn : n ≤ 400) (h : CQ n tk ps B i cs M) (hi : i < n) (hK : ∀ M', CQ n tk ps B (i + 1) cs M' → K M') : T_X7_step M K := by
  obtain ⟨h1, h2, h3, h4⟩ := h
  refine step_ok hn h1 hi (fun M' a1 a2 => hK M' ⟨a1, by rw [a2 137 6 (by omega)]; exact h2, fun j x hx => by rw [a2 138 j (by omega)]; exact h3 j x hx, fun a j z => ?_⟩)
  unfold xC at z
  rw [a2 a j (by omega)]
  exact h4 a j z
theorem cref {n i fk : Nat} {tk ps : Nat → Nat} {B M : Mm} {K : Int32 → Mm → Prop} {cs : List (Nat × Nat)} {x : Int32} (hn : n ≤ 400) (h : CQ n tk ps B i cs M) (hx : x = nI fk) (hK : ∀ M', CFt B fk (ps i) M' → K 0 M') : T_X7_refuse x M K := by
  obtain ⟨h1, h2, h3, h4⟩ := h
  refine refuse_ok hn h1 hx (fun M' a1 a2 a3 => hK M' ⟨a1, a2, fun a j z => ?_⟩)
  rw [a3 a j (fun w => z (Or.inr w))]
  exact h4 a j (fun w => z (Or.inl w))
theorem cadd {n i : Nat} {tk ps : Nat → Nat} {B M : Mm} {K : Int32 → Mm → Prop} {cs : List (Nat × Nat)} {c : Int32} (x : Nat × Nat) (h : CQ n tk ps B i cs M) (hl : cs.length < 400) (hc : c = nI (cN x)) (hK : ∀ M', CQ n tk ps B i (cs ++ [x]) M' → K 1 M') : T_X2_add 137 c M K := by
  obtain ⟨h1, h2, h3, h4⟩ := h
  rw [T_X2_add, h2, nI_clamp (n := cs.length) (by omega), show rf 137 0 = 138 from by decide]
  refine pk_le 400 cs.length (fun z => absurd z (by omega)) (fun _ => ⟨vp_in_nI (by omega) (by decide), fun M2 g2 M4 g4 => ?_⟩)
  have w : M2 137 6 = nI cs.length := by rw [g2, mu, if_neg (by omega)]; exact h2
  rw [w, nI_1] at g4
  have E : ∀ a j, ¬ (a = 137 ∧ j = 6) → ¬ (a = 138 ∧ j = cs.length) → M4 a j = M a j := fun a j z1 z2 => by rw [g4, mu, if_neg z1, g2, mu, if_neg z2]
  refine hK M4 ⟨h1.cg (fun j _ _ => E 132 j (by omega) (by omega)) (fun j => E 134 j (by omega) (by omega)) (fun j => E 135 j (by omega) (by omega)), ?_, fun j y hy => ?_, fun a j z => ?_⟩
  · rw [g4, mu, if_pos ⟨rfl, rfl⟩, List.length_append]; rfl
  · rcases sn_get hy with ⟨z1, z2⟩ | ⟨z1, z2⟩
    · rw [E 138 j (by omega) (by omega)]; exact h3 j y z2
    · rw [z1, z2, g4, mu, if_neg (by omega), g2, mu, if_pos ⟨rfl, rfl⟩]; exact hc
  · unfold xC at z
    rw [E a j (by omega) (by omega)]
    exact h4 a j z
theorem mread {ch : Nat → Nat} {k n i : Nat} {tk ps en : Nat → Nat} {B M : Mm} {K : Mm → Prop} {cs : List (Nat × Nat)} (hS : TS ch k n tk ps en) (h : ME ch k n tk ps en B i cs M) (hi : i < n) (hK : ∀ M', ME ch k n tk ps en B (i + 1) cs M' → K M') : T_X12_reads M K := by
  obtain ⟨h1, h2, h3, h4⟩ := h
  refine read_ok hS h1 hi (fun M' a1 a2 => hK M' ⟨a1, by rw [a2 159 29 (by omega)]; exact h2, fun j x hx => by rw [a2 176 _ (by omega), a2 177 _ (by omega)]; exact h3 j x hx, fun a j z => ?_⟩)
  unfold sM at z
  rw [a2 a j (by omega)]
  exact h4 a j z
theorem merr {ch : Nat → Nat} {k n i fk : Nat} {tk ps en : Nat → Nat} {B M : Mm} {K : Int32 → Mm → Prop} {cs : List (Nat × Nat)} {x : Int32} (h : ME ch k n tk ps en B i cs M) (hx : x = nI fk) (hK : ∀ M', MFs B fk (ps i) M' → K (-1) M') : T_X12_errs x M K := by
  obtain ⟨h1, h2, h3, h4⟩ := h
  refine errs_ok h1 hx (fun M' a1 a2 a3 => hK M' ⟨a1, a2, fun a j z => ?_⟩)
  unfold sM at z
  rw [a3 a j (by omega)]
  exact h4 a j z
theorem memit {ch : Nat → Nat} {k n i : Nat} {tk ps en : Nat → Nat} {B M : Mm} {K : Mm → Prop} {cs : List (Nat × Nat)} {c d : Int32} (x : Nat × Nat) (h : ME ch k n tk ps en B i cs M) (hl : cs.length < 400) (hc : c = nI x.1) (hd : d = nI x.2) (hK : ∀ M', ME ch k n tk ps en B i (cs ++ [x]) M' → K M') : T_X12_emits c d M K := by
  obtain ⟨h1, h2, h3, h4⟩ := h
  have e8 : (800 : Int32) + nI cs.length = nI (800 + cs.length) := nI_add 800 cs.length
  rw [T_X12_emits, h2, e8, nI_clamp (n := 800 + cs.length) (by omega)]
  have v : vp_in (nI (800 + cs.length)) 1200 := vp_in_nI (by omega) (by decide)
  refine ⟨v, fun M1 g1 => ?_⟩
  have w1 : M1 159 29 = nI cs.length := by rw [g1, mu, if_neg (by omega)]; exact h2
  rw [w1, e8, nI_clamp (n := 800 + cs.length) (by omega)]
  refine ⟨v, fun M3 g3 M5 g5 => ?_⟩
  have w3 : M3 159 29 = nI cs.length := by rw [g3, mu, if_neg (by omega)]; exact w1
  rw [w3, nI_1] at g5
  have E : ∀ a j, ¬ (a = 159 ∧ j = 29) → ¬ ((a = 176 ∨ a = 177) ∧ j = 800 + cs.length) → M5 a j = M a j := fun a j z1 z2 => by rw [g5, mu, if_neg z1, g3, mu, if_neg (by omega), g1, mu, if_neg (by omega)]
  refine hK M5 ⟨h1.cg (fun j _ _ => E 159 j (by omega) (by omega)) (fun j => E 169 j (by omega) (by omega)) (fun j => E 170 j (by omega) (by omega)), ?_, fun j y hy => ?_, fun a j z => ?_⟩
  · rw [g5, mu, if_pos ⟨rfl, rfl⟩, List.length_append]; rfl
  · rcases sn_get hy with ⟨z1, z2⟩ | ⟨z1, z2⟩
    · rw [E 176 _ (by omega) (by omega), E 177 _ (by omega) (by omega)]; exact h3 j y z2
    · rw [z1, z2, g5, mu, if_neg (by omega), g3, mu, if_neg (by omega), g1, mu, if_pos ⟨rfl, rfl⟩, mu, if_neg (by omega), mu, if_pos ⟨rfl, rfl⟩]; exact ⟨hc, hd⟩
  · unfold sM at z
    rw [E a j (by omega) (by omega)]
    exact h4 a j z
/-! units_v -/
theorem tk_u {c : Nat} (h : tkc c) : (∃ v, v ≤ 9999 ∧ c = 1000 + v) ∨ (∃ w, w ≤ 11 ∧ c = 263 + w) ∨ (c < 1000 ∧ (c < 263 ∨ 274 < c)) := by
  by_cases a : 1000 ≤ c
  · exact Or.inl ⟨c - 1000, by have := tkc_b h; omega, by omega⟩
  · by_cases b : 263 ≤ c ∧ c ≤ 274
    · exact Or.inr (Or.inl ⟨c - 263, by omega, by omega⟩)
    · exact Or.inr (Or.inr (by omega))
theorem cu_98 {n i : Nat} {tk ps : Nat → Nat} {B M : Mm} {K : Int32 → Mm → Prop} {cs : List (Nat × Nat)} (hn : n ≤ 400) (hi : i < n) (h : CQ n tk ps B i cs M) (hK : ∀ M', CQ n tk ps B (i + 1) cs M' → K 1 M') : T_X3_parseUnit_98 M K := by
  rw [T_X3_parseUnit_98]
  exact cstep hn h hi hK
theorem cu_num {n i v : Nat} {tk ps : Nat → Nat} {B M : Mm} {K : Int32 → Mm → Prop} {cs : List (Nat × Nat)} {x1 : Int32} (hn : n ≤ 400) (hi : i < n) (hl : cs.length < 400) (ht : tk i = 1000 + v) (hv : v ≤ 9999) (hx : x1 = 0 ∨ ¬ v = 0) (h : CQ n tk ps B i cs M) (hK : ∀ M', CQ n tk ps B (i + 1) (cs ++ [(0, v)]) M' → K 1 M') : T_X3_parseUnit x1 M K := by
  have h6 : M 132 6 = nI (1000 + v) := by rw [h.1.2.2.2.1, ht]
  rw [T_X3_parseUnit]
  intro y9 g9
  rw [g9, h6]
  have c1 : nI (1000 + v) < (1000 : Int32) ↔ 1000 + v < 1000 := nI_ltI (b := 1000) (by omega) (by decide)
  have c2 : nI (1000 + v) = (1000 : Int32) ↔ 1000 + v = 1000 := nI_eq (b := 1000) (by omega) (by decide)
  have go : T_X3_parseUnit_35 (nI (1000 + v)) M K := by
    rw [T_X3_parseUnit_35, show (1000 : Int32) = nI 1000 from rfl, pk_sub (by omega)]
    exact cadd (0, v) h hl (by rw [show 1000 + v - 1000 = v by omega]; rfl) (fun M' h' => cu_98 hn hi h' hK)
  rw [c1, c2]
  exact ⟨fun z => absurd z (by omega), fun _ => ⟨fun _ => go, fun z => ⟨fun y => absurd hx (fun q => q.elim z (fun q => q (by omega))), fun _ => go⟩⟩⟩
theorem cu_wrd {n i w : Nat} {tk ps : Nat → Nat} {B M : Mm} {K : Int32 → Mm → Prop} {cs : List (Nat × Nat)} (hn : n ≤ 400) (hi : i < n) (hl : cs.length < 400) (ht : tk i = 263 + w) (hw : w ≤ 11) (h : CQ n tk ps B i cs M) (hK : ∀ M', CQ n tk ps B (i + 1) (cs ++ [(1, w)]) M' → K 1 M') : T_X3_parseUnit 0 M K := by
  have h6 : M 132 6 = nI (263 + w) := by rw [h.1.2.2.2.1, ht]
  rw [T_X3_parseUnit]
  intro y9 g9
  rw [g9, h6]
  have c1 : nI (263 + w) < (1000 : Int32) ↔ 263 + w < 1000 := nI_ltI (b := 1000) (by omega) (by decide)
  have c2 : nI (263 + w) < (263 : Int32) ↔ 263 + w < 263 := nI_ltI (b := 263) (by omega) (by decide)
  have c3 : (274 : Int32) < nI (263 + w) ↔ 274 < 263 + w := nI_ltI (a := 274) (by decide) (by omega)
  rw [c1, c2, c3, show (10000 : Int32) = nI 10000 from rfl, nI_add, show (263 : Int32) = nI 263 from rfl, pk_sub (by omega)]
  refine ⟨fun _ => ⟨fun _ => ⟨fun z => absurd z (by omega), fun _ => ⟨fun z => absurd z (by omega), fun _ => ?_⟩⟩, fun z => absurd rfl z⟩, fun z => absurd (by omega) z⟩
  exact cadd (1, w) h hl (by rw [show 10000 + (263 + w) - 263 = 10000 + w by omega]; rfl) (fun M' h' => cu_98 hn hi h' hK)
theorem cu_89 {n i : Nat} {tk ps : Nat → Nat} {B M : Mm} {K : Int32 → Mm → Prop} {cs : List (Nat × Nat)} (hn : n ≤ 400) (h : CQ n tk ps B i cs M) (hK : ∀ M', CFt B 1 (ps i) M' → K 0 M') : T_X3_parseUnit_89 M K := by
  rw [T_X3_parseUnit_89]
  exact cref (fk := 1) hn h rfl (fun M' h' => ⟨Or.inl rfl, hK M' h'⟩)
theorem cu_bad {n i : Nat} {tk ps : Nat → Nat} {B M : Mm} {K : Int32 → Mm → Prop} {cs : List (Nat × Nat)} {x1 : Int32} (hn : n ≤ 400) (h1 : tk i < 1000) (h2 : ¬ x1 = 0 ∨ tk i < 263 ∨ 274 < tk i) (h : CQ n tk ps B i cs M) (hK : ∀ M', CFt B 1 (ps i) M' → K 0 M') : T_X3_parseUnit x1 M K := by
  rw [T_X3_parseUnit]
  intro y9 g9
  rw [g9, h.1.2.2.2.1]
  have c1 : nI (tk i) < (1000 : Int32) ↔ tk i < 1000 := nI_ltI (b := 1000) (by omega) (by decide)
  have c2 : nI (tk i) < (263 : Int32) ↔ tk i < 263 := nI_ltI (b := 263) (by omega) (by decide)
  have c3 : (274 : Int32) < nI (tk i) ↔ 274 < tk i := nI_ltI (a := 274) (by decide) (by omega)
  rw [c1, c2, c3]
  have go := cu_89 hn h hK
  exact ⟨fun _ => ⟨fun z => ⟨fun _ => go, fun y => ⟨fun _ => go, fun y2 => absurd h2 (fun q => q.elim (fun q => q z) (fun q => by omega))⟩⟩, fun _ => go⟩, fun z => absurd h1 z⟩
theorem cu_zero {n i : Nat} {tk ps : Nat → Nat} {B M : Mm} {K : Int32 → Mm → Prop} {cs : List (Nat × Nat)} {x1 : Int32} (hn : n ≤ 400) (h1 : tk i = 1000) (h2 : ¬ x1 = 0) (h : CQ n tk ps B i cs M) (hK : ∀ M', CFt B 2 (ps i) M' → K 0 M') : T_X3_parseUnit x1 M K := by
  rw [T_X3_parseUnit]
  intro y9 g9
  rw [g9, h.1.2.2.2.1, h1]
  exact ⟨fun z => absurd z (by decide), fun _ => ⟨fun z => absurd z h2, fun _ => ⟨fun _ => cref (fk := 2) hn h rfl (fun M' h' => ⟨Or.inl rfl, hK M' h'⟩), fun z => absurd rfl z⟩⟩⟩
theorem mu_71 {ch : Nat → Nat} {k n i : Nat} {tk ps en : Nat → Nat} {B M : Mm} {K : Int32 → Mm → Prop} {cs : List (Nat × Nat)} {c d : Int32} (x : Nat × Nat) (hS : TS ch k n tk ps en) (hi : i < n) (hl : cs.length < 400) (hc : c = nI x.1) (hd : d = nI x.2) (h : ME ch k n tk ps en B i cs M) (hK : ∀ M', ME ch k n tk ps en B (i + 1) (cs ++ [x]) M' → K 0 M') : T_X12_readUnit_71 c d M K := by
  rw [T_X12_readUnit_71]
  exact memit x h hl hc hd (fun M2 h2 => mread hS h2 hi hK)
theorem mu_num {ch : Nat → Nat} {k n i v : Nat} {tk ps en : Nat → Nat} {B M : Mm} {K : Int32 → Mm → Prop} {cs : List (Nat × Nat)} (hS : TS ch k n tk ps en) (hi : i < n) (hl : cs.length < 400) (ht : tk i = 1000 + v) (h : ME ch k n tk ps en B i cs M) (hK : ∀ M', ME ch k n tk ps en B (i + 1) (cs ++ [(0, v)]) M' → K 0 M') : T_X12_readUnit M K := by
  obtain ⟨a, b⟩ := tR_n h.1.2.2.2.2 (by omega)
  rw [ht, show 1000 + v - 1000 = v by omega] at b
  rw [T_X12_readUnit, a, T_X12_readUnit_23, T_X12_readUnit_24, a, T_X12_readUnit_43, T_X12_readUnit_53, b]
  exact ⟨fun z => absurd z (by decide), fun _ => ⟨fun _ => ⟨fun _ => ⟨fun _ => ⟨fun _ => mu_71 (0, v) hS hi hl rfl rfl h hK, fun z => absurd rfl z⟩, fun z => absurd rfl z⟩, fun z => absurd rfl z⟩, fun z => absurd rfl z⟩⟩
theorem mu_wrd {ch : Nat → Nat} {k n i w : Nat} {tk ps en : Nat → Nat} {B M : Mm} {K : Int32 → Mm → Prop} {cs : List (Nat × Nat)} (hS : TS ch k n tk ps en) (hi : i < n) (hl : cs.length < 400) (ht : tk i = 263 + w) (hw : w ≤ 11) (h : ME ch k n tk ps en B i cs M) (hK : ∀ M', ME ch k n tk ps en B (i + 1) (cs ++ [(1, w)]) M' → K 0 M') : T_X12_readUnit M K := by
  obtain ⟨a, b⟩ := tR_w h.1.2.2.2.2 (by omega) (by omega)
  rw [ht, show 263 + w - 256 = 7 + w by omega] at b
  rw [T_X12_readUnit]
  refine ⟨fun _ => ?_, fun z => absurd a z⟩
  have hh : (7 : Int32) ≤ nI (7 + w) ∧ nI (7 + w) ≤ (18 : Int32) := ⟨nI_le (a := 7) (by omega) (by omega), nI_le (b := 18) (by omega) (by decide)⟩
  rw [T_X12_canAsk, b, ii_pos hh]
  refine ⟨Or.inr rfl, fun z => absurd z (by decide), fun _ => ?_⟩
  rw [T_X12_readUnit_24]
  refine ⟨fun z => absurd z (by decide), fun _ => ?_⟩
  rw [T_X12_readUnit_43]
  refine ⟨fun z => absurd z (by decide), fun _ => ?_⟩
  rw [T_X12_readUnit_53]
  refine ⟨fun z => absurd z (by decide), fun _ => mu_71 (1, w) hS hi hl rfl ?_ h hK⟩
  rw [b, show (7 : Int32) = nI 7 from rfl, pk_sub (by omega)]
  rw [show 7 + w - 7 = w by omega]
theorem mu_bad {ch : Nat → Nat} {k n i : Nat} {tk ps en : Nat → Nat} {B M : Mm} {K : Int32 → Mm → Prop} {cs : List (Nat × Nat)} (h1 : tk i < 1000) (h2 : tk i < 263 ∨ 274 < tk i) (h : ME ch k n tk ps en B i cs M) (hK : ∀ M', MFs B 1 (ps i) M' → K (-1) M') : T_X12_readUnit M K := by
  have hr := h.1.2.2.2.2
  have n3 : ¬ M 159 18 = 3 := fun z => absurd ((tR_3 hr).mp z) (by omega)
  have go : T_X12_readUnit_23 M K := by
    rw [T_X12_readUnit_23, T_X12_readUnit_24]
    exact ⟨fun _ => ⟨fun z => absurd z n3, fun _ => merr (fk := 1) h rfl hK⟩, fun z => absurd rfl z⟩
  rw [T_X12_readUnit]
  refine ⟨fun z => ?_, fun _ => go⟩
  obtain ⟨w1, w2⟩ := (tR_2 hr).mp z
  have b := (tR_w hr w1 w2).2
  have c1 : (7 : Int32) ≤ nI (tk i - 256) ↔ 7 ≤ tk i - 256 := nI_leI (a := 7) (by decide) (by omega)
  have c2 : nI (tk i - 256) ≤ (18 : Int32) ↔ tk i - 256 ≤ 18 := nI_leI (b := 18) (by omega) (by decide)
  rw [T_X12_canAsk, b, ii_neg (by rw [c1, c2]; omega)]
  exact ⟨Or.inl rfl, fun _ => go, fun y => absurd rfl y⟩
