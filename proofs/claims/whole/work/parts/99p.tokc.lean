/-! TEXT: tokens, in the class -/
def isBn (c : Nat) : Prop := c = 32 ∨ c = 10
/-- the token that begins at p ends_v before_v e -/
def BH (ch : Nat → Nat) (k p e : Nat) : Prop := p < e ∧ e ≤ k ∧ (isLn (ch p) → (∀ j, p ≤ j → j < e → isLn (ch j)) ∧ (e < k → ¬ isLn (ch e))) ∧ (isDn (ch p) → (∀ j, p ≤ j → j < e → isDn (ch j)) ∧ (e < k → ¬ isDn (ch e))) ∧ (¬ isLn (ch p) → ¬ isDn (ch p) → e = p + 1)
def dvl (ch : Nat → Nat) (p : Nat) : Nat → Nat
  | 0 => 0
  | j + 1 => 10 * dvl ch p j + (ch (p + j) - 48)
theorem dvl_lt {ch : Nat → Nat} {p : Nat} : ∀ j, (∀ t, t < j → isDn (ch (p + t))) → dvl ch p j < 10 ^ j
  | 0, _ => by rw [dvl]; exact Nat.one_pos
  | j + 1, h => by
    have h1 := dvl_lt j (fun t ht => h t (by omega))
    have h2 := h j (by omega)
    unfold isDn at h2
    rw [dvl, Nat.pow_succ]
    omega
theorem dvl_4 {ch : Nat → Nat} {p j : Nat} (hj : j ≤ 4) (h : ∀ t, t < j → isDn (ch (p + t))) : dvl ch p j ≤ 9999 := by
  have h1 := dvl_lt j h
  have h2 : 10 ^ j ≤ 10 ^ 4 := Nat.pow_le_pow_right (by omega) hj
  have h3 : 10 ^ 4 = 10000 := by decide
  omega
/-- the token from p to e has the number_v c in the class -/
def TCd (ch : Nat → Nat) (p e c : Nat) : Prop :=
  (isLn (ch p) ∧ ((∃ w, w < 28 ∧ wm ch p e w ∧ (∀ w', w' < w → ¬ wm ch p e w') ∧ c = 256 + w) ∨ ((∀ w, w < 28 → ¬ wm ch p e w) ∧ c = 1))) ∨
  (isDn (ch p) ∧ ((4 < e - p ∧ c = 1) ∨ (e - p ≤ 4 ∧ c = 1000 + dvl ch p (e - p)))) ∨
  (¬ isLn (ch p) ∧ ¬ isDn (ch p) ∧ ((isSn (ch p) ∧ c = ch p) ∨ (¬ isSn (ch p) ∧ c = 1)))
theorem ln_dn {c : Nat} (h : isLn c) : ¬ isDn c := by
  unfold isLn at h
  unfold isDn
  omega
/-- the tape in the class -/
def CTp (ch : Nat → Nat) (k : Nat) (M : Mm) : Prop := k ≤ 400 ∧ M 132 1 = nI k ∧ ∀ i, i < k → M 133 i = nI (ch i) ∧ ch i ≤ 255
theorem bh_L {ch : Nat → Nat} {k p : Nat} {M : Mm} {K : Int32 → Mm → Prop} (h : CTp ch k M) (hK : ∀ e, p < e → e ≤ k → (∀ j, p ≤ j → j < e → isLn (ch j)) → (e < k → ¬ isLn (ch e)) → K (nI e) M) : ∀ m j f, j + m = k → p < j → m < f → (∀ t, p ≤ t → t < j → isLn (ch t)) → T_X7_behindToken_25 f 1 0 (nI j) M K := by
  obtain ⟨h1, h2, h3⟩ := h
  intro m
  induction m with
  | zero =>
    intro j f hj hp hf hl
    obtain ⟨f, rfl⟩ : ∃ g, f = g + 1 := ⟨f - 1, by omega⟩
    rw [T_X7_behindToken_25, h2]
    exact pk_le k j (fun _ => hK j hp (by omega) hl (fun z => absurd z (by omega))) (fun z => absurd z (by omega))
  | succ m ih =>
    intro j f hj hp hf hl
    obtain ⟨f, rfl⟩ : ∃ g, f = g + 1 := ⟨f - 1, by omega⟩
    obtain ⟨c1, c2⟩ := h3 j (by omega)
    rw [T_X7_behindToken_25, h2, nI_clamp (n := j) (by omega), c1]
    refine pk_le k j (fun z => absurd z (by omega)) (fun _ => pk_le 400 j (fun z => absurd z (by omega)) (fun _ => ⟨fun z => absurd z (by decide), fun _ => ⟨vp_in_nI (by omega) (by decide), ?_⟩⟩))
    by_cases c : isLn (ch j)
    · refine cl_y c2 c ⟨fun z => absurd z (by decide), fun _ => ?_⟩
      rw [T_X7_behindToken_76]
      intro y g
      rw [g, nI_1]
      refine ih (j + 1) f (by omega) (by omega) (by omega) (fun t t1 t2 => ?_)
      by_cases d : t = j
      · rw [d]; exact c
      · exact hl t t1 (by omega)
    · refine cl_n c2 c ⟨fun _ => ?_, fun z => absurd rfl z⟩
      rw [T_X7_behindToken_59]
      exact ⟨fun _ => hK j hp (by omega) hl (fun _ => c), fun z => absurd rfl z⟩
theorem bh_D {ch : Nat → Nat} {k p : Nat} {M : Mm} {K : Int32 → Mm → Prop} (h : CTp ch k M) (hK : ∀ e, p < e → e ≤ k → (∀ j, p ≤ j → j < e → isDn (ch j)) → (e < k → ¬ isDn (ch e)) → K (nI e) M) : ∀ m j f, j + m = k → p < j → m < f → (∀ t, p ≤ t → t < j → isDn (ch t)) → T_X7_behindToken_25 f 0 1 (nI j) M K := by
  obtain ⟨h1, h2, h3⟩ := h
  intro m
  induction m with
  | zero =>
    intro j f hj hp hf hl
    obtain ⟨f, rfl⟩ : ∃ g, f = g + 1 := ⟨f - 1, by omega⟩
    rw [T_X7_behindToken_25, h2]
    exact pk_le k j (fun _ => hK j hp (by omega) hl (fun z => absurd z (by omega))) (fun z => absurd z (by omega))
  | succ m ih =>
    intro j f hj hp hf hl
    obtain ⟨f, rfl⟩ : ∃ g, f = g + 1 := ⟨f - 1, by omega⟩
    obtain ⟨c1, c2⟩ := h3 j (by omega)
    rw [T_X7_behindToken_25, h2]
    refine pk_le k j (fun z => absurd z (by omega)) (fun _ => pk_le 400 j (fun z => absurd z (by omega)) (fun _ => ⟨fun _ => ?_, fun z => absurd rfl z⟩))
    rw [T_X7_behindToken_59, nI_clamp (n := j) (by omega), c1]
    refine ⟨fun z => absurd z (by decide), fun _ => ⟨vp_in_nI (by omega) (by decide), ?_⟩⟩
    by_cases c : isDn (ch j)
    · refine cd_y c2 c ⟨fun z => absurd z (by decide), fun _ => ?_⟩
      rw [T_X7_behindToken_76]
      intro y g
      rw [g, nI_1]
      refine ih (j + 1) f (by omega) (by omega) (by omega) (fun t t1 t2 => ?_)
      by_cases d : t = j
      · rw [d]; exact c
      · exact hl t t1 (by omega)
    · exact cd_n c2 c ⟨fun _ => hK j hp (by omega) hl (fun _ => c), fun z => absurd rfl z⟩
theorem bh_ok {ch : Nat → Nat} {k p : Nat} {M : Mm} {K : Int32 → Mm → Prop} (h : CTp ch k M) (hp : p < k) (hK : ∀ e, BH ch k p e → K (nI e) M) : T_X7_behindToken (nI p) M K := by
  obtain ⟨h1, h2, h3⟩ := id h
  obtain ⟨c1, c2⟩ := h3 p hp
  rw [T_X7_behindToken, nI_clamp (n := p) (by omega), c1]
  have v : vp_in (nI p) 400 := vp_in_nI (by omega) (by decide)
  refine ⟨v, ?_⟩
  by_cases c : isLn (ch p)
  · refine cl_y c2 c ⟨v, ?_⟩
    rw [c1]
    refine cd_n c2 (ln_dn c) (fun y g => ?_)
    rw [g, nI_1]
    refine bh_L h (fun e e1 e2 e3 e4 => hK e ⟨e1, e2, fun _ => ⟨e3, e4⟩, fun z => absurd z (ln_dn c), fun z => absurd c z⟩) (k - (p + 1)) (p + 1) 5000 (by omega) (by omega) (by omega) (fun t t1 t2 => ?_)
    rw [show t = p by omega]; exact c
  · refine cl_n c2 c ⟨v, ?_⟩
    rw [c1]
    by_cases d : isDn (ch p)
    · refine cd_y c2 d (fun y g => ?_)
      rw [g, nI_1]
      refine bh_D h (fun e e1 e2 e3 e4 => hK e ⟨e1, e2, fun z => absurd z c, fun _ => ⟨e3, e4⟩, fun _ z => absurd d z⟩) (k - (p + 1)) (p + 1) 5000 (by omega) (by omega) (by omega) (fun t t1 t2 => ?_)
      rw [show t = p by omega]; exact d
    · refine cd_n c2 d (fun y g => ?_)
      rw [g, nI_1]
      have kk := hK (p + 1) ⟨by omega, by omega, fun z => absurd z c, fun z => absurd z d, fun _ _ => rfl⟩
      show T_X7_behindToken_25 (4999 + 1) 0 0 (nI (p + 1)) M K
      rw [T_X7_behindToken_25, T_X7_behindToken_59]
      exact ⟨fun _ => kk, fun _ => ⟨fun _ => kk, fun _ => ⟨fun _ => ⟨fun _ => kk, fun z => absurd rfl z⟩, fun z => absurd rfl z⟩⟩⟩
theorem num_lp {ch : Nat → Nat} {k p e : Nat} {M : Mm} {K : Int32 → Mm → Prop} (h : CTp ch k M) (he : e ≤ k) (hd : ∀ j, p ≤ j → j < e → isDn (ch j)) (hK : K (nI (1000 + dvl ch p (e - p))) M) : ∀ m j f, j + m = e → p ≤ j → m < f → T_X7_number_14 f (nI e) (nI (dvl ch p (j - p))) (nI j) M K := by
  obtain ⟨h1, h2, h3⟩ := h
  intro m
  induction m with
  | zero =>
    intro j f hj hp hf
    obtain ⟨f, rfl⟩ : ∃ g, f = g + 1 := ⟨f - 1, by omega⟩
    have e0 : j = e := by omega
    subst e0
    rw [T_X7_number_14, T_X7_number_50]
    refine pk_le j j (fun _ => ?_) (fun z => absurd z (by omega))
    rw [show (1000 : Int32) = nI 1000 from rfl, nI_add]
    exact hK
  | succ m ih =>
    intro j f hj hp hf
    obtain ⟨f, rfl⟩ : ∃ g, f = g + 1 := ⟨f - 1, by omega⟩
    obtain ⟨c1, c2⟩ := h3 j (by omega)
    have hd1 := hd j hp (by omega)
    unfold isDn at hd1
    rw [T_X7_number_14, nI_clamp (n := j) (by omega), c1]
    refine pk_le e j (fun z => absurd z (by omega)) (fun _ => pk_le 400 j (fun z => absurd z (by omega)) (fun _ => ⟨vp_in_nI (by omega) (by decide), fun y4 g4 y5 g5 => ?_⟩))
    have ev : y4 = nI (dvl ch p (j + 1 - p)) := by
      rw [g4, show j + 1 - p = (j - p) + 1 by omega, dvl, show p + (j - p) = j by omega, show (10 : Int32) = nI 10 from rfl, pk_mul, nI_add, show (48 : Int32) = nI 48 from rfl, pk_sub (by omega)]
      congr 1; omega
    rw [g5, ev, nI_1]
    exact ih (j + 1) f (by omega) (by omega) (by omega)
theorem num_ok {ch : Nat → Nat} {k p e : Nat} {M : Mm} {K : Int32 → Mm → Prop} (h : CTp ch k M) (hpe : p < e) (he : e ≤ k) (hd : ∀ j, p ≤ j → j < e → isDn (ch j)) (k1 : 4 < e - p → K 1 M) (k2 : e - p ≤ 4 → K (nI (1000 + dvl ch p (e - p))) M) : T_X7_number (nI p) (nI e) M K := by
  have hk := h.1
  rw [T_X7_number, pk_sub (by omega)]
  refine pk_le (e - p) 4 (fun z => ?_) k1
  have := num_lp h he hd (k2 z) (e - p) p 5000 (by omega) (by omega) (by omega)
  rw [Nat.sub_self, dvl] at this
  exact this
theorem tof_ok {ch : Nat → Nat} {k p e : Nat} {M : Mm} {K : Int32 → Mm → Prop} (h : CTp ch k M) (hb : BH ch k p e) (hK : ∀ c, TCd ch p e c → K (nI c) M) : T_X7_tokenOf (nI p) (nI e) M K := by
  obtain ⟨h1, h2, h3⟩ := id h
  obtain ⟨b1, b2, b3, b4, b5⟩ := hb
  obtain ⟨c1, c2⟩ := h3 p (by omega)
  have v : vp_in (nI p) 400 := vp_in_nI (by omega) (by decide)
  rw [T_X7_tokenOf, nI_clamp (n := p) (by omega), c1]
  refine ⟨v, ?_⟩
  by_cases c : isLn (ch p)
  · refine cl_y c2 c ⟨fun z => absurd z (by decide), fun _ => ?_⟩
    refine kwc_ok (by omega) (by omega) (fun i hi => h3 i (by omega)) (fun w w1 w2 w3 => ?_) (fun w1 => ?_)
    · rw [show (256 : Int32) = nI 256 from rfl, nI_add]
      exact hK _ (Or.inl ⟨c, Or.inl ⟨w, w1, w2, w3, rfl⟩⟩)
    · exact hK 1 (Or.inl ⟨c, Or.inr ⟨w1, rfl⟩⟩)
  · refine cl_n c2 c ⟨fun _ => ⟨v, ?_⟩, fun z => absurd rfl z⟩
    rw [c1]
    by_cases d : isDn (ch p)
    · refine cd_y c2 d ⟨fun z => absurd z (by decide), fun _ => ?_⟩
      exact num_ok h b1 b2 (b4 d).1 (fun z => hK 1 (Or.inr (Or.inl ⟨d, Or.inl ⟨z, rfl⟩⟩))) (fun z => hK _ (Or.inr (Or.inl ⟨d, Or.inr ⟨z, rfl⟩⟩)))
    · refine cd_n c2 d ⟨fun _ => ⟨v, ?_⟩, fun z => absurd rfl z⟩
      rw [c1]
      refine sg_ok c2 (fun r hr => ⟨fun z => hK 1 (Or.inr (Or.inr ⟨c, d, Or.inr ⟨hr.mp z, rfl⟩⟩)), fun z => ⟨v, ?_⟩⟩)
      rw [c1]
      exact hK _ (Or.inr (Or.inr ⟨c, d, Or.inl ⟨Classical.byContradiction (fun y => z (hr.mpr y)), rfl⟩⟩))
/-- where the token before_v i ends_v -/
def pre (en : Nat → Nat) (i : Nat) : Nat := if i = 0 then 0 else en (i - 1)
/-- token i of a stream -/
def tki (ch : Nat → Nat) (k : Nat) (tk ps en : Nat → Nat) (i : Nat) : Prop := pre en i ≤ ps i ∧ ps i < k ∧ ¬ isBn (ch (ps i)) ∧ BH ch k (ps i) (en i) ∧ TCd ch (ps i) (en i) (tk i) ∧ ∀ j, pre en i ≤ j → j < ps i → isBn (ch j)
/-- the tokens of a tape: n of them, the end behind_v them -/
def TS (ch : Nat → Nat) (k n : Nat) (tk ps en : Nat → Nat) : Prop := k ≤ 400 ∧ n ≤ k ∧ (∀ i, i < n → tki ch k tk ps en i) ∧ pre en n ≤ k ∧ (∀ j, pre en n ≤ j → j < k → isBn (ch j)) ∧ tk n = 0 ∧ ps n = k ∧ en n = k
def fup (f : Nat → Nat) (m x : Nat) : Nat → Nat := fun j => if j = m then x else f j
theorem fup_e {f : Nat → Nat} {m x : Nat} : fup f m x m = x := if_pos rfl
theorem fup_n {f : Nat → Nat} {m x j : Nat} (h : j ≠ m) : fup f m x j = f j := if_neg h
theorem pre_u {en : Nat → Nat} {m x i : Nat} (h : i ≤ m) : pre (fup en m x) i = pre en i := by
  unfold pre
  by_cases c : i = 0
  · rw [if_pos c, if_pos c]
  · rw [if_neg c, if_neg c, fup_n (by omega)]
theorem pre_s {en : Nat → Nat} {i : Nat} : pre en (i + 1) = en i := by
  unfold pre
  rw [if_neg (by omega)]
  rfl
theorem tki_u {ch : Nat → Nat} {k : Nat} {tk ps en : Nat → Nat} {i m a b c : Nat} (hi : i < m) (h : tki ch k tk ps en i) : tki ch k (fup tk m a) (fup ps m b) (fup en m c) i := by
  unfold tki at h ⊢
  rw [pre_u (by omega), fup_n (by omega), fup_n (by omega), fup_n (by omega)]
  exact h
theorem adt_ok {m t p : Nat} {M : Mm} {K : Mm → Prop} {x y : Int32} (hm : M 132 4 = nI m) (h : m ≤ 400) (hK : ∀ M', M' 132 4 = nI (m + 1) → M' 134 m = x → M' 135 m = y → (∀ a j, ¬ (a = 132 ∧ j = 4) → ¬ (a = 134 ∧ j = m) → ¬ (a = 135 ∧ j = m) → M' a j = M a j) → K M') : T_X7_addToken x y M K := by
  have v : vp_in (nI m) 401 := vp_in_nI (by omega) (by decide)
  rw [T_X7_addToken, hm, nI_clamp (n := m) (by omega)]
  refine pk_lt 400 m (fun z => absurd z (by omega)) (fun _ => ⟨v, fun M2 g2 => ?_⟩)
  have w2 : M2 132 4 = nI m := by rw [g2, mu, if_neg (by omega)]; exact hm
  rw [w2, nI_clamp (n := m) (by omega)]
  refine ⟨v, fun M4 g4 M6 g6 => ?_⟩
  have w4 : M4 132 4 = nI m := by rw [g4, mu, if_neg (by omega)]; exact w2
  rw [w4, nI_1] at g6
  refine hK M6 (by rw [g6, mu, if_pos ⟨rfl, rfl⟩]) (by rw [g6, mu, if_neg (by omega), g4, mu, if_neg (by omega), g2, mu, if_pos ⟨rfl, rfl⟩]) (by rw [g6, mu, if_neg (by omega), g4, mu, if_pos ⟨rfl, rfl⟩]) (fun a j z1 z2 z3 => by rw [g6, mu, if_neg z1, g4, mu, if_neg z3, g2, mu, if_neg z2])
theorem beg_lp {ch : Nat → Nat} {k : Nat} {B : Mm} {K : Mm → Prop} (hB : CTp ch k B) (hK : ∀ n tk ps en M', TS ch k n tk ps en → M' 132 4 = nI (n + 1) → M' 132 5 = 0 → M' 132 6 = nI (tk 0) → (∀ j, j ≤ n → M' 134 j = nI (tk j) ∧ M' 135 j = nI (ps j)) → (∀ a j, ¬ (a = 132 ∧ 4 ≤ j ∧ j ≤ 6) → a ≠ 134 → a ≠ 135 → M' a j = B a j) → K M') : ∀ f p q m tk ps en M, k - p < f → p ≤ k → q ≤ p → m ≤ p → (∀ i, i < m → tki ch k tk ps en i) → pre en m ≤ p → (∀ j, pre en m ≤ j → j < p → isBn (ch j)) → M 132 4 = nI m → (∀ j, j < m → M 134 j = nI (tk j) ∧ M 135 j = nI (ps j)) → (∀ a j, ¬ (a = 132 ∧ j = 4) → a ≠ 134 → a ≠ 135 → M a j = B a j) → T_X7_begin_19 f (nI p) (nI q) M K := by
  obtain ⟨h1, h2, h3⟩ := id hB
  intro f
  induction f with
  | zero => intro p q m tk ps en M hf; exact absurd hf (by omega)
  | succ f ih =>
    intro p q m tk ps en M hf hp hq hm ht hpe hbl h4 hr hfr
    have k1 : M 132 1 = nI k := by rw [hfr 132 1 (by omega) (by omega) (by omega)]; exact h2
    have endp : p = k → T_X7_begin_82 M K := by
      intro e
      subst e
      rw [T_X7_begin_82, k1]
      refine adt_ok (t := 0) (p := p) h4 (by omega) (fun M2 a1 a2 a3 a4 M3 g3 M4 g4 => ?_)
      have E : ∀ a j, ¬ (a = 132 ∧ 4 ≤ j ∧ j ≤ 6) → ¬ (a = 134 ∧ j = m) → ¬ (a = 135 ∧ j = m) → M4 a j = M a j := fun a j z1 z2 z3 => by rw [g4, mu, if_neg (by omega), g3, mu, if_neg (by omega), a4 a j (by omega) z2 z3]
      have R : ∀ j, j ≤ m → M4 134 j = nI (fup tk m 0 j) ∧ M4 135 j = nI (fup ps m p j) := by
        intro j hj
        by_cases c : j = m
        · subst c
          rw [fup_e, fup_e, g4, mu, if_neg (by omega), g3, mu, if_neg (by omega), a2, mu, if_neg (by omega), mu, if_neg (by omega), a3]
          exact ⟨rfl, rfl⟩
        · rw [fup_n c, fup_n c, E 134 j (by omega) (by omega) (by omega), E 135 j (by omega) (by omega) (by omega)]
          exact hr j (by omega)
      refine hK m (fup tk m 0) (fup ps m p) (fup en m p) M4 ⟨h1, by omega, fun i hi => tki_u hi (ht i hi), by rw [pre_u (by omega)]; exact hpe, by rw [pre_u (by omega)]; exact hbl, fup_e, fup_e, fup_e⟩ ?_ ?_ ?_ R (fun a j z1 z2 z3 => by rw [E a j z1 (by omega) (by omega)]; exact hfr a j (by omega) z2 z3)
      · rw [g4, mu, if_neg (by omega), g3, mu, if_neg (by omega)]; exact a1
      · rw [g4, mu, if_neg (by omega), g3, mu, if_pos ⟨rfl, rfl⟩]
      · have r0 := (R 0 (by omega)).1
        rw [g4, mu, if_neg (by omega)] at r0
        rw [g4, mu, if_pos ⟨rfl, rfl⟩]
        exact r0
    rw [T_X7_begin_19, k1]
    refine pk_le 400 q (fun z => endp (by omega)) (fun _ => pk_le k p (fun z => endp (by omega)) (fun hpk => pk_le 400 p (fun z => endp (by omega)) (fun _ y9 g9 => ⟨vp_in_nI (by omega) (by decide), ?_⟩)))
    obtain ⟨c1, c2⟩ := h3 p hpk
    have c1' : M 133 p = nI (ch p) := by rw [hfr 133 p (by omega) (by omega) (by omega)]; exact c1
    have hT : CTp ch k M := ⟨h1, k1, fun i hi => by rw [hfr 133 i (by omega) (by omega) (by omega)]; exact h3 i hi⟩
    have q32 : nI (ch p) = (32 : Int32) ↔ ch p = 32 := nI_eq (b := 32) (by omega) (by decide)
    have q10 : nI (ch p) = (10 : Int32) ↔ ch p = 10 := nI_eq (b := 10) (by omega) (by decide)
    rw [nI_clamp (n := p) (by omega), c1', T_X7_isBlank, T_X7_isBlank_12, q32, q10, g9, nI_1]
    have blank : isBn (ch p) → T_X7_begin_74 (fun x1 x2 M => T_X7_begin_19 f x1 x2 M K) (nI q) (nI (p + 1)) M K := by
      intro hb
      rw [T_X7_begin_74]
      intro y5 g5
      rw [g5, nI_1]
      refine ih (p + 1) (q + 1) m tk ps en M (by omega) (by omega) (by omega) (by omega) ht (by omega) (fun j j1 j2 => ?_) h4 hr hfr
      by_cases c : j = p
      · rw [c]; exact hb
      · exact hbl j j1 (by omega)
    have tok : ¬ isBn (ch p) → T_X7_behindToken (nI p) M (fun r17 M16 => T_X7_tokenOf (nI p) r17 M16 (fun r20 M19 => T_X7_addToken r20 (nI p) M19 (fun M22 => T_X7_begin_74 (fun x1 x2 M => T_X7_begin_19 f x1 x2 M K) (nI q) r17 M22 K))) := by
      intro hb
      refine bh_ok hT hpk (fun e he => tof_ok hT he (fun c hc => adt_ok (t := c) (p := p) h4 (by omega) (fun M2 a1 a2 a3 a4 => ?_)))
      rw [T_X7_begin_74]
      intro y5 g5
      rw [g5, nI_1]
      have he1 := he.1
      have he2 := he.2.1
      refine ih e (q + 1) (m + 1) (fup tk m c) (fup ps m p) (fup en m e) M2 (by omega) (by omega) (by omega) (by omega) (fun i hi => ?_) (by rw [pre_s, fup_e]; omega) (fun j j1 j2 => ?_) a1 (fun j hj => ?_) (fun a j z1 z2 z3 => by rw [a4 a j z1 (by omega) (by omega)]; exact hfr a j z1 z2 z3)
      · by_cases d : i = m
        · subst d
          unfold tki
          rw [pre_u (by omega), fup_e, fup_e, fup_e]
          exact ⟨hpe, hpk, hb, he, hc, hbl⟩
        · exact tki_u (by omega) (ht i (by omega))
      · rw [pre_s, fup_e] at j1
        exact absurd j2 (by omega)
      · by_cases d : j = m
        · subst d
          rw [fup_e, fup_e]
          exact ⟨a2, a3⟩
        · rw [fup_n d, fup_n d, a4 134 j (by omega) (by omega) (by omega), a4 135 j (by omega) (by omega) (by omega)]
          exact hr j (by omega)
    refine ⟨fun z => ⟨fun y => absurd y (by decide), fun _ => blank (Or.inl z)⟩, fun z1 => ⟨fun z => ⟨fun y => absurd y (by decide), fun _ => blank (Or.inr z)⟩, fun z2 => ⟨fun _ => tok (fun y => y.elim z1 z2), fun y => absurd rfl y⟩⟩⟩
theorem beg_ok {ch : Nat → Nat} {k : Nat} {M : Mm} {K : Mm → Prop} (hM : CTp ch k M) (hK : ∀ n tk ps en M', TS ch k n tk ps en → M' 132 4 = nI (n + 1) → M' 132 5 = 0 → M' 132 6 = nI (tk 0) → M' 132 7 = 0 → M' 132 8 = -1 → (∀ j, j ≤ n → M' 134 j = nI (tk j) ∧ M' 135 j = nI (ps j)) → (∀ a j, ¬ (a = 132 ∧ 4 ≤ j ∧ j ≤ 8) → a ≠ 134 → a ≠ 135 → M' a j = M a j) → K M') : T_X7_begin M K := by
  obtain ⟨h1, h2, h3⟩ := id hM
  rw [T_X7_begin]
  intro M23 g23 M24 g24 M25 g25
  have E : ∀ a j, ¬ (a = 132 ∧ (j = 4 ∨ j = 7 ∨ j = 8)) → M25 a j = M a j := fun a j z => by rw [g25, mu, if_neg (by omega), g24, mu, if_neg (by omega), g23, mu, if_neg (by omega)]
  have hT : CTp ch k M25 := ⟨h1, by rw [E 132 1 (by omega)]; exact h2, fun i hi => by rw [E 133 i (by omega)]; exact h3 i hi⟩
  refine beg_lp hT (fun n tk ps en M' t1 t2 t3 t4 t5 t6 => hK n tk ps en M' t1 t2 t3 t4 ?_ ?_ t5 (fun a j z1 z2 z3 => by rw [t6 a j (by omega) z2 z3]; exact E a j (by omega))) 5000 0 0 0 (fun _ => 0) (fun _ => 0) (fun _ => 0) M25 (by omega) (by omega) (by omega) (by omega) (fun i hi => absurd hi (by omega)) (by unfold pre; rw [if_pos rfl]; omega) (fun j j1 j2 => absurd j2 (by omega)) (by rw [g25, mu, if_pos ⟨rfl, rfl⟩]; rfl) (fun j hj => absurd hj (by omega)) (fun a j _ _ _ => rfl)
  · rw [t6 132 7 (by omega) (by omega) (by omega), g25, mu, if_neg (by omega), g24, mu, if_neg (by omega), g23, mu, if_pos ⟨rfl, rfl⟩]
  · rw [t6 132 8 (by omega) (by omega) (by omega), g25, mu, if_neg (by omega), g24, mu, if_pos ⟨rfl, rfl⟩]
