/-! TEXT: the model's way_v in and out -/
def rdq (q : Nat) (M : Mm) (K : Int32 → Mm → Prop) : Prop := (nI q = 1 → T_X12_readFollows M (fun r M' => K r M')) ∧ (¬ nI q = 1 → (nI q = 2 → T_X12_readWeek M (fun r M' => K r M')) ∧ (¬ nI q = 2 → (nI q = 3 → T_X12_readWants M (fun r M' => K r M')) ∧ (¬ nI q = 3 → T_X12_readLaw M (fun r M' => K r M'))))
def KKm (q : Nat) (K : Int32 → Mm → Prop) (r20 : Int32) (M19 : Mm) : Prop := (r20 = -1 → ∀ M22 : Mm, M22 = m_up M19 159 35 (M19 159 33) → ∀ M23 : Mm, M23 = m_up M22 159 36 (M22 159 34) → T_X12_text_69 (nI q) r20 M23 K) ∧ (¬ r20 = -1 → T_X12_text_69 (nI q) r20 M19 K)
theorem mdl_beg {ch : Nat → Nat} {k n q : Nat} {tk ps en : Nat → Nat} {M1 : Mm} {K : Int32 → Mm → Prop} (hS : TS ch k n tk ps en) (hW : TW ch k M1) (hq : q ≤ 3) (hK : ∀ M3, TM ch k n tk ps en 0 M3 → M3 159 29 = 0 → M3 159 30 = 0 → M3 159 28 = 0 → M3 159 35 = 0 → M3 159 36 = -1 → (∀ a j, ¬ (a = 159 ∧ (j = 0 ∨ (16 ≤ j ∧ j ≤ 19) ∨ (28 ≤ j ∧ j ≤ 36))) → M3 a j = M1 a j) → rdq q M3 (KKm q K)) : T_X12_text (nI q) M1 K := by
  have hh : (0 : Int32) ≤ nI q ∧ nI q ≤ (3 : Int32) := ⟨nI_le (a := 0) (by omega) (by omega), nI_le (b := 3) (by omega) (by decide)⟩
  rw [T_X12_text]
  intro M8 g8 M9 g9 M10 g10 M11 g11 M12 g12 M13 g13
  rw [ii_pos hh]
  refine ⟨fun z => absurd z (by decide), fun _ => ?_⟩
  rw [T_X12_readsText]
  intro N1 h1
  have E : ∀ a j, ¬ (a = 159 ∧ (j = 0 ∨ j = 16 ∨ j = 28 ∨ j = 29 ∨ j = 30 ∨ j = 35 ∨ j = 36)) → N1 a j = M1 a j := fun a j z => by rw [h1, mu, if_neg (by omega), g13, mu, if_neg (by omega), g12, mu, if_neg (by omega), g11, mu, if_neg (by omega), g10, mu, if_neg (by omega), g9, mu, if_neg (by omega), g8, mu, if_neg (by omega)]
  have hW1 : TW ch k N1 := hW.cg (E 159 15 (by omega)) (fun j => E 169 j (by omega)) (fun j => E 170 j (by omega))
  have w16 : N1 159 16 = nI (pre en 0) := by rw [h1, mu, if_neg (by omega), g13, mu, if_neg (by omega), g12, mu, if_neg (by omega), g11, mu, if_pos ⟨rfl, rfl⟩]; rfl
  refine reads_ok hS (i := 0) (by omega) hW1 w16 (fun M3 a1 a2 a3 a4 => ?_)
  refine hK M3 ⟨by omega, hW1.f4 a4, a1, a2, a3⟩ ?_ ?_ ?_ ?_ ?_ (fun a j z => by rw [a4 a j (by omega), E a j (by omega)])
  · rw [a4 159 29 (by omega), h1, mu, if_neg (by omega), g13, mu, if_neg (by omega), g12, mu, if_pos ⟨rfl, rfl⟩]
  · rw [a4 159 30 (by omega), h1, mu, if_neg (by omega), g13, mu, if_pos ⟨rfl, rfl⟩]
  · rw [a4 159 28 (by omega), h1, mu, if_pos ⟨rfl, rfl⟩]
  · rw [a4 159 35 (by omega), h1, mu, if_neg (by omega), g13, mu, if_neg (by omega), g12, mu, if_neg (by omega), g11, mu, if_neg (by omega), g10, mu, if_neg (by omega), g9, mu, if_pos ⟨rfl, rfl⟩]
  · rw [a4 159 36 (by omega), h1, mu, if_neg (by omega), g13, mu, if_neg (by omega), g12, mu, if_neg (by omega), g11, mu, if_neg (by omega), g10, mu, if_pos ⟨rfl, rfl⟩]
theorem mpost_f {q fk p : Nat} {M19 : Mm} {K : Int32 → Mm → Prop} (h3 : M19 159 33 = nI fk) (h4 : M19 159 34 = nI p) (hK : ∀ M2, M2 159 35 = nI fk → M2 159 36 = nI p → M2 159 15 = 0 → (∀ a j, ¬ (a = 159 ∧ (j = 15 ∨ j = 35 ∨ j = 36)) → M2 a j = M19 a j) → K (-1) M2) : KKm q K (-1) M19 := by
  refine ⟨fun _ M22 g22 M23 g23 => ?_, fun z => absurd rfl z⟩
  have w : M22 159 34 = nI p := by rw [g22, mu, if_neg (by omega)]; exact h4
  rw [h3] at g22
  rw [w] at g23
  rw [T_X12_text_69]
  intro M2 g2
  refine ⟨fun _ => hK M2 ?_ ?_ ?_ (fun a j z => ?_), fun z => absurd rfl z⟩
  · rw [g2, mu, if_neg (by omega), g23, mu, if_neg (by omega), g22, mu, if_pos ⟨rfl, rfl⟩]
  · rw [g2, mu, if_neg (by omega), g23, mu, if_pos ⟨rfl, rfl⟩]
  · rw [g2, mu, if_pos ⟨rfl, rfl⟩]
  · rw [g2, mu, if_neg (by omega), g23, mu, if_neg (by omega), g22, mu, if_neg (by omega)]
theorem mpost_k {q l : Nat} {M19 : Mm} {K : Int32 → Mm → Prop} (hl : l ≤ 16) (hK : (nI q = 0 → T_X12_takesLaw (nI l) (m_up M19 159 15 0) (fun M7 => K (nI l) M7)) ∧ (¬ nI q = 0 → T_X12_takesOther (nI q) (nI l) (m_up M19 159 15 0) (fun M5 => K (nI l) M5))) : KKm q K (nI l) M19 := by
  refine ⟨fun z => absurd z (nI_m1 (by omega)), fun _ => ?_⟩
  rw [T_X12_text_69]
  intro M2 g2
  rw [g2]
  exact ⟨fun z => absurd z (nI_m1 (by omega)), fun _ => hK⟩
theorem tl_ok {l z : Nat} {M : Mm} {K : Mm → Prop} (hl : l ≤ 16) (hz : z ≤ 400) (h28 : M 159 28 = 0) (h29 : M 159 29 = nI z) (hK : ∀ M', (∀ j, j < l → M' 172 j = M 172 (32 + j) ∧ M' 173 j = M 173 (32 + j) ∧ M' 174 j = M 174 (32 + j) ∧ M' 175 j = M 175 (32 + j)) → (∀ j, j < z → M' 176 j = M 176 (800 + j) ∧ M' 177 j = M 177 (800 + j)) → M' 171 0 = nI l → (∀ a j, ¬ (171 ≤ a ∧ a ≤ 177) → M' a j = M a j) → K M') : T_X12_takesLaw (nI l) M K := by
  have e16 : ∀ i : Nat, (16 : Int32) * 0 + nI i = nI i := fun i => by rw [show (16 : Int32) * 0 = nI 0 from by decide, nI_add, Nat.zero_add]
  have e400 : ∀ i : Nat, (400 : Int32) * 0 + nI i = nI i := fun i => by rw [show (400 : Int32) * 0 = nI 0 from by decide, nI_add, Nat.zero_add]
  have e32 : ∀ i : Nat, (32 : Int32) + nI i = nI (32 + i) := fun i => nI_add 32 i
  have e800 : ∀ i : Nat, (800 : Int32) + nI i = nI (800 + i) := fun i => nI_add 800 i
  have L2 : ∀ m i f M1, i + m = z → m < f → (∀ a j, ¬ ((a = 176 ∨ a = 177) ∧ j < 400) → ¬ ((172 ≤ a ∧ a ≤ 175) ∧ j < 16) → M1 a j = M a j) → (∀ j, j < l → M1 172 j = M 172 (32 + j) ∧ M1 173 j = M 173 (32 + j) ∧ M1 174 j = M 174 (32 + j) ∧ M1 175 j = M 175 (32 + j)) → (∀ j, j < i → M1 176 j = M 176 (800 + j) ∧ M1 177 j = M 177 (800 + j)) → T_X12_takesLaw_107 f (nI l) (nI i) M1 K := by
    intro m
    induction m with
    | zero =>
      intro i f M1 hi hf c1 c2 c3
      obtain ⟨f, rfl⟩ : ∃ g, f = g + 1 := ⟨f - 1, by omega⟩
      have e : i = z := by omega
      subst e
      have d28 : M1 159 28 = 0 := by rw [c1 159 28 (by omega) (by omega)]; exact h28
      have d29 : M1 159 29 = nI i := by rw [c1 159 29 (by omega) (by omega)]; exact h29
      rw [T_X12_takesLaw_107, d29, d28]
      have v0 : vp_in (0 : Int32) 2 := by
        have := vp_in_nI (n := 0) (N := 2) (by omega) (by decide)
        rw [nI_0] at this
        exact this
      refine pk_le i i (fun _ => ⟨v0, fun M2 g2 => ?_⟩) (fun y => absurd y (by omega))
      have g2' : M2 = m_up M1 171 0 (nI l) := g2
      have E : ∀ a j, a ≠ 171 → M2 a j = M1 a j := fun a j y => by rw [g2', mu, if_neg (fun w => y w.1)]
      refine hK M2 (fun j hj => ?_) (fun j hj => ?_) (by rw [g2', mu, if_pos ⟨rfl, rfl⟩]) (fun a j y => by rw [E a j (by omega)]; exact c1 a j (by omega) (by omega))
      · rw [E 172 j (by omega), E 173 j (by omega), E 174 j (by omega), E 175 j (by omega)]; exact c2 j hj
      · rw [E 176 j (by omega), E 177 j (by omega)]; exact c3 j hj
    | succ m ih =>
      intro i f M1 hi hf c1 c2 c3
      obtain ⟨f, rfl⟩ : ∃ g, f = g + 1 := ⟨f - 1, by omega⟩
      have d28 : M1 159 28 = 0 := by rw [c1 159 28 (by omega) (by omega)]; exact h28
      have d29 : M1 159 29 = nI z := by rw [c1 159 29 (by omega) (by omega)]; exact h29
      have v1 : vp_in (nI (800 + i)) 1200 := vp_in_nI (by omega) (by decide)
      have v2 : vp_in (nI i) 1200 := vp_in_nI (by omega) (by decide)
      rw [T_X12_takesLaw_107, d29, d28, e800, e400, nI_clamp (n := 800 + i) (by omega), nI_clamp (n := i) (by omega)]
      refine pk_le z i (fun y => absurd y (by omega)) (fun _ => ⟨v1, v2, fun M5 g5 => ?_⟩)
      have d5 : M5 159 28 = 0 := by rw [g5, mu, if_neg (by omega)]; exact d28
      rw [d5, e400, nI_clamp (n := i) (by omega)]
      refine ⟨v1, v2, fun M8 g8 y10 g10 => ?_⟩
      rw [g10, nI_1]
      have E : ∀ a j, ¬ ((a = 176 ∨ a = 177) ∧ j = i) → M8 a j = M1 a j := fun a j y => by rw [g8, mu, if_neg (by omega), g5, mu, if_neg (by omega)]
      refine ih (i + 1) f M8 (by omega) (by omega) (fun a j y1 y2 => by rw [E a j (by omega)]; exact c1 a j y1 y2) (fun j hj => ?_) (fun j hj => ?_)
      · rw [E 172 j (by omega), E 173 j (by omega), E 174 j (by omega), E 175 j (by omega)]; exact c2 j hj
      · by_cases c : j = i
        · subst c
          rw [g8, mu, if_neg (by omega), g5, mu, if_pos ⟨rfl, rfl⟩, mu, if_pos ⟨rfl, rfl⟩, mu, if_neg (by omega), c1 176 (800 + j) (by omega) (by omega), c1 177 (800 + j) (by omega) (by omega)]
          exact ⟨rfl, rfl⟩
        · rw [E 176 j (by omega), E 177 j (by omega)]; exact c3 j (by omega)
  have L1 : ∀ m i f M1, i + m = l → m < f → (∀ a j, ¬ ((172 ≤ a ∧ a ≤ 175) ∧ j < 16) → M1 a j = M a j) → (∀ j, j < i → M1 172 j = M 172 (32 + j) ∧ M1 173 j = M 173 (32 + j) ∧ M1 174 j = M 174 (32 + j) ∧ M1 175 j = M 175 (32 + j)) → T_X12_takesLaw_2 f (nI l) (nI i) M1 K := by
    intro m
    induction m with
    | zero =>
      intro i f M1 hi hf c1 c2
      obtain ⟨f, rfl⟩ : ∃ g, f = g + 1 := ⟨f - 1, by omega⟩
      have e : i = l := by omega
      subst e
      rw [T_X12_takesLaw_2]
      exact pk_le i i (fun _ => L2 z 0 5000 M1 (by omega) (by omega) (fun a j _ y => c1 a j y) c2 (fun j hj => absurd hj (by omega))) (fun y => absurd y (by omega))
    | succ m ih =>
      intro i f M1 hi hf c1 c2
      obtain ⟨f, rfl⟩ : ∃ g, f = g + 1 := ⟨f - 1, by omega⟩
      have d28 : M1 159 28 = 0 := by rw [c1 159 28 (by omega)]; exact h28
      have v1 : vp_in (nI (32 + i)) 48 := vp_in_nI (by omega) (by decide)
      have v2 : vp_in (nI i) 48 := vp_in_nI (by omega) (by decide)
      rw [T_X12_takesLaw_2, d28, e32, e16, nI_clamp (n := 32 + i) (by omega), nI_clamp (n := i) (by omega)]
      refine pk_le l i (fun y => absurd y (by omega)) (fun _ => ⟨v1, v2, fun M13 g13 => ?_⟩)
      have d13 : M13 159 28 = 0 := by rw [g13, mu, if_neg (by omega)]; exact d28
      rw [d13, e16, nI_clamp (n := i) (by omega)]
      refine ⟨v1, v2, fun M16 g16 => ?_⟩
      have d16 : M16 159 28 = 0 := by rw [g16, mu, if_neg (by omega)]; exact d13
      rw [d16, e16, nI_clamp (n := i) (by omega)]
      refine ⟨v1, v2, fun M19 g19 => ?_⟩
      have d19 : M19 159 28 = 0 := by rw [g19, mu, if_neg (by omega)]; exact d16
      rw [d19, e16, nI_clamp (n := i) (by omega)]
      refine ⟨v1, v2, fun M22 g22 y24 g24 => ?_⟩
      rw [g24, nI_1]
      have E : ∀ a j, ¬ ((172 ≤ a ∧ a ≤ 175) ∧ j = i) → M22 a j = M1 a j := fun a j y => by rw [g22, mu, if_neg (by omega), g19, mu, if_neg (by omega), g16, mu, if_neg (by omega), g13, mu, if_neg (by omega)]
      refine ih (i + 1) f M22 (by omega) (by omega) (fun a j y => by rw [E a j (by omega)]; exact c1 a j y) (fun j hj => ?_)
      by_cases c : j = i
      · subst c
        refine ⟨?_, ?_, ?_, ?_⟩
        · rw [g22, mu, if_neg (by omega), g19, mu, if_neg (by omega), g16, mu, if_neg (by omega), g13, mu, if_pos ⟨rfl, rfl⟩, c1 172 (32 + j) (by omega)]
        · rw [g22, mu, if_neg (by omega), g19, mu, if_neg (by omega), g16, mu, if_pos ⟨rfl, rfl⟩, g13, mu, if_neg (by omega), c1 173 (32 + j) (by omega)]
        · rw [g22, mu, if_neg (by omega), g19, mu, if_pos ⟨rfl, rfl⟩, g16, mu, if_neg (by omega), g13, mu, if_neg (by omega), c1 174 (32 + j) (by omega)]
        · rw [g22, mu, if_pos ⟨rfl, rfl⟩, g19, mu, if_neg (by omega), g16, mu, if_neg (by omega), g13, mu, if_neg (by omega), c1 175 (32 + j) (by omega)]
      · rw [E 172 j (by omega), E 173 j (by omega), E 174 j (by omega), E 175 j (by omega)]; exact c2 j (by omega)
  rw [T_X12_takesLaw]
  exact L1 l 0 5000 M (by omega) (by omega) (fun _ _ _ => rfl) (fun j hj => absurd hj (by omega))
theorem to_1 {l : Nat} {M : Mm} {K : Mm → Prop} (hK : ∀ M', (∀ j, j < 8 → M' 179 j = M 179 (8 + j)) → M' 159 37 = nI l → M' 159 3 = 0 → (∀ a j, ¬ (a = 179 ∧ j < 8) → ¬ (a = 159 ∧ (j = 3 ∨ j = 37)) → M' a j = M a j) → K M') : T_X12_takesOther 1 (nI l) M K := by
  have e8 : ∀ i : Nat, (8 : Int32) + nI i = nI (8 + i) := fun i => nI_add 8 i
  have L : ∀ m i f M1, i + m = 8 → m < f → (∀ a j, ¬ (a = 179 ∧ j < 8) → M1 a j = M a j) → (∀ j, j < i → M1 179 j = M 179 (8 + j)) → T_X12_takesOther_47 f (nI l) (nI i) M1 K := by
    intro m
    induction m with
    | zero =>
      intro i f M1 hi hf c1 c2
      obtain ⟨f, rfl⟩ : ∃ g, f = g + 1 := ⟨f - 1, by omega⟩
      have e : i = 8 := by omega
      subst e
      rw [T_X12_takesOther_47]
      refine pk_le 8 8 (fun _ M9 g9 => ?_) (fun y => absurd y (by omega))
      rw [T_X12_takesOther_117]
      intro N1 h1
      refine hK N1 (fun j hj => by rw [h1, mu, if_neg (by omega), g9, mu, if_neg (by omega)]; exact c2 j hj) (by rw [h1, mu, if_neg (by omega), g9, mu, if_pos ⟨rfl, rfl⟩]) (by rw [h1, mu, if_pos ⟨rfl, rfl⟩]) (fun a j y1 y2 => by rw [h1, mu, if_neg (by omega), g9, mu, if_neg (by omega)]; exact c1 a j y1)
    | succ m ih =>
      intro i f M1 hi hf c1 c2
      obtain ⟨f, rfl⟩ : ∃ g, f = g + 1 := ⟨f - 1, by omega⟩
      rw [T_X12_takesOther_47, e8, nI_clamp (n := 8 + i) (by omega), nI_clamp (n := i) (by omega)]
      refine pk_le 8 i (fun y => absurd y (by omega)) (fun _ => ⟨vp_in_nI (by omega) (by decide), vp_in_nI (by omega) (by decide), fun M11 g11 y13 g13 => ?_⟩)
      rw [g13, nI_1]
      refine ih (i + 1) f M11 (by omega) (by omega) (fun a j y => by rw [g11, mu, if_neg (by omega)]; exact c1 a j y) (fun j hj => ?_)
      rw [g11, mu]
      by_cases c : j = i
      · rw [if_pos ⟨rfl, c⟩, c]; exact c1 179 (8 + i) (by omega)
      · rw [if_neg (by omega)]; exact c2 j (by omega)
  rw [T_X12_takesOther]
  exact ⟨fun y => absurd y (by decide), fun _ => ⟨fun _ => L 8 0 5000 M (by omega) (by omega) (fun _ _ _ => rfl) (fun j hj => absurd hj (by omega)), fun y => absurd rfl y⟩⟩
theorem to_3 {l : Nat} {M : Mm} {K : Mm → Prop} (hK : ∀ M', (∀ j, j < 64 → M' 181 j = M 181 (64 + j)) → M' 159 41 = nI l → (∀ a j, ¬ (a = 181 ∧ j < 64) → ¬ (a = 159 ∧ j = 41) → M' a j = M a j) → K M') : T_X12_takesOther 3 (nI l) M K := by
  have e8 : ∀ i : Nat, (64 : Int32) + nI i = nI (64 + i) := fun i => nI_add 64 i
  have L : ∀ m i f M1, i + m = 64 → m < f → (∀ a j, ¬ (a = 181 ∧ j < 64) → M1 a j = M a j) → (∀ j, j < i → M1 181 j = M 181 (64 + j)) → T_X12_takesOther_7 f (nI l) (nI i) M1 K := by
    intro m
    induction m with
    | zero =>
      intro i f M1 hi hf c1 c2
      obtain ⟨f, rfl⟩ : ∃ g, f = g + 1 := ⟨f - 1, by omega⟩
      have e : i = 64 := by omega
      subst e
      rw [T_X12_takesOther_7]
      exact pk_le 64 64 (fun _ M9 g9 => hK M9 (fun j hj => by rw [g9, mu, if_neg (by omega)]; exact c2 j hj) (by rw [g9, mu, if_pos ⟨rfl, rfl⟩]) (fun a j y1 y2 => by rw [g9, mu, if_neg (by omega)]; exact c1 a j y1)) (fun y => absurd y (by omega))
    | succ m ih =>
      intro i f M1 hi hf c1 c2
      obtain ⟨f, rfl⟩ : ∃ g, f = g + 1 := ⟨f - 1, by omega⟩
      rw [T_X12_takesOther_7, e8, nI_clamp (n := 64 + i) (by omega), nI_clamp (n := i) (by omega)]
      refine pk_le 64 i (fun y => absurd y (by omega)) (fun _ => ⟨vp_in_nI (by omega) (by decide), vp_in_nI (by omega) (by decide), fun M11 g11 y13 g13 => ?_⟩)
      rw [g13, nI_1]
      refine ih (i + 1) f M11 (by omega) (by omega) (fun a j y => by rw [g11, mu, if_neg (by omega)]; exact c1 a j y) (fun j hj => ?_)
      rw [g11, mu]
      by_cases c : j = i
      · rw [if_pos ⟨rfl, c⟩, c]; exact c1 181 (64 + i) (by omega)
      · rw [if_neg (by omega)]; exact c2 j (by omega)
  rw [T_X12_takesOther]
  exact ⟨fun _ => L 64 0 5000 M (by omega) (by omega) (fun _ _ _ => rfl) (fun j hj => absurd hj (by omega)), fun y => absurd rfl y⟩
theorem to_2 {l : Nat} {M : Mm} {K : Mm → Prop} (hl : l ≤ 16) (hK : ∀ M', (∀ j, j < 4 * l → M' 180 j = M 180 (64 + j)) → M' 159 39 = nI l → M' 159 3 = 0 → (∀ a j, ¬ (a = 180 ∧ j < 64) → ¬ (a = 159 ∧ (j = 3 ∨ j = 39)) → M' a j = M a j) → K M') : T_X12_takesOther 2 (nI l) M K := by
  have e8 : ∀ i : Nat, (64 : Int32) + nI i = nI (64 + i) := fun i => nI_add 64 i
  have e4 : (4 : Int32) * nI l = nI (4 * l) := pk_mul 4 l
  have L : ∀ m i f M1, i + m = 4 * l → m < f → (∀ a j, ¬ (a = 180 ∧ j < 64) → M1 a j = M a j) → (∀ j, j < i → M1 180 j = M 180 (64 + j)) → T_X12_takesOther_84 f (nI l) (nI i) M1 K := by
    intro m
    induction m with
    | zero =>
      intro i f M1 hi hf c1 c2
      obtain ⟨f, rfl⟩ : ∃ g, f = g + 1 := ⟨f - 1, by omega⟩
      rw [T_X12_takesOther_84, e4]
      refine pk_le (4 * l) i (fun _ M9 g9 => ?_) (fun y => absurd y (by omega))
      rw [T_X12_takesOther_117]
      intro N1 h1
      refine hK N1 (fun j hj => by rw [h1, mu, if_neg (by omega), g9, mu, if_neg (by omega)]; exact c2 j (by omega)) (by rw [h1, mu, if_neg (by omega), g9, mu, if_pos ⟨rfl, rfl⟩]) (by rw [h1, mu, if_pos ⟨rfl, rfl⟩]) (fun a j y1 y2 => by rw [h1, mu, if_neg (by omega), g9, mu, if_neg (by omega)]; exact c1 a j y1)
    | succ m ih =>
      intro i f M1 hi hf c1 c2
      obtain ⟨f, rfl⟩ : ∃ g, f = g + 1 := ⟨f - 1, by omega⟩
      rw [T_X12_takesOther_84, e4, e8, nI_clamp (n := 64 + i) (by omega), nI_clamp (n := i) (by omega)]
      refine pk_le (4 * l) i (fun y => absurd y (by omega)) (fun _ => ⟨vp_in_nI (by omega) (by decide), vp_in_nI (by omega) (by decide), fun M11 g11 y13 g13 => ?_⟩)
      rw [g13, nI_1]
      refine ih (i + 1) f M11 (by omega) (by omega) (fun a j y => by rw [g11, mu, if_neg (by omega)]; exact c1 a j y) (fun j hj => ?_)
      rw [g11, mu]
      by_cases c : j = i
      · rw [if_pos ⟨rfl, c⟩, c]; exact c1 180 (64 + i) (by omega)
      · rw [if_neg (by omega)]; exact c2 j (by omega)
  rw [T_X12_takesOther]
  exact ⟨fun y => absurd y (by decide), fun _ => ⟨fun y => absurd y (by decide), fun _ => L (4 * l) 0 5000 M (by omega) (by omega) (fun _ _ _ => rfl) (fun j hj => absurd hj (by omega))⟩⟩
/-- a draft row_v begins empty -/
theorem rf_2 {M : Mm} {K : Int32 → Mm → Prop} (hK : ∀ M', (∀ j, j < 8 → M' 179 (8 + j) = 0) → (∀ a j, ¬ (a = 179 ∧ 8 ≤ j) → M' a j = M a j) → T_X12_readFollows_26 5000 0 M' K) : T_X12_readFollows M K := by
  have e8 : ∀ i : Nat, (8 : Int32) + nI i = nI (8 + i) := fun i => nI_add 8 i
  have L : ∀ m i f M1, i + m = 8 → m < f → (∀ a j, ¬ (a = 179 ∧ 8 ≤ j) → M1 a j = M a j) → (∀ j, j < i → M1 179 (8 + j) = 0) → T_X12_readFollows_2 f (nI i) M1 K := by
    intro m
    induction m with
    | zero =>
      intro i f M1 hi hf c1 c2
      obtain ⟨f, rfl⟩ : ∃ g, f = g + 1 := ⟨f - 1, by omega⟩
      have e : i = 8 := by omega
      subst e
      rw [T_X12_readFollows_2]
      exact pk_le 8 8 (fun _ => hK M1 c2 c1) (fun y => absurd y (by omega))
    | succ m ih =>
      intro i f M1 hi hf c1 c2
      obtain ⟨f, rfl⟩ : ∃ g, f = g + 1 := ⟨f - 1, by omega⟩
      rw [T_X12_readFollows_2, e8, nI_clamp (n := 8 + i) (by omega)]
      refine pk_le 8 i (fun y => absurd y (by omega)) (fun _ => ⟨vp_in_nI (by omega) (by decide), fun M19 g19 y21 g21 => ?_⟩)
      rw [g21, nI_1]
      refine ih (i + 1) f M19 (by omega) (by omega) (fun a j y => by rw [g19, mu, if_neg (by omega)]; exact c1 a j y) (fun j hj => ?_)
      rw [g19, mu]
      by_cases c : j = i
      · rw [if_pos ⟨rfl, by omega⟩]
      · rw [if_neg (by omega)]; exact c2 j (by omega)
  rw [T_X12_readFollows]
  exact L 8 0 5000 M (by omega) (by omega) (fun _ _ _ => rfl) (fun j hj => absurd hj (by omega))
theorem rw_2 {M : Mm} {K : Int32 → Mm → Prop} (hK : ∀ M', (∀ j, j < 64 → M' 181 (64 + j) = 0) → (∀ a j, ¬ (a = 181 ∧ 64 ≤ j) → M' a j = M a j) → T_X12_readWants_26 5000 0 M' K) : T_X12_readWants M K := by
  have e8 : ∀ i : Nat, (64 : Int32) + nI i = nI (64 + i) := fun i => nI_add 64 i
  have L : ∀ m i f M1, i + m = 64 → m < f → (∀ a j, ¬ (a = 181 ∧ 64 ≤ j) → M1 a j = M a j) → (∀ j, j < i → M1 181 (64 + j) = 0) → T_X12_readWants_2 f (nI i) M1 K := by
    intro m
    induction m with
    | zero =>
      intro i f M1 hi hf c1 c2
      obtain ⟨f, rfl⟩ : ∃ g, f = g + 1 := ⟨f - 1, by omega⟩
      have e : i = 64 := by omega
      subst e
      rw [T_X12_readWants_2]
      exact pk_le 64 64 (fun _ => hK M1 c2 c1) (fun y => absurd y (by omega))
    | succ m ih =>
      intro i f M1 hi hf c1 c2
      obtain ⟨f, rfl⟩ : ∃ g, f = g + 1 := ⟨f - 1, by omega⟩
      rw [T_X12_readWants_2, e8, nI_clamp (n := 64 + i) (by omega)]
      refine pk_le 64 i (fun y => absurd y (by omega)) (fun _ => ⟨vp_in_nI (by omega) (by decide), fun M19 g19 y21 g21 => ?_⟩)
      rw [g21, nI_1]
      refine ih (i + 1) f M19 (by omega) (by omega) (fun a j y => by rw [g19, mu, if_neg (by omega)]; exact c1 a j y) (fun j hj => ?_)
      rw [g19, mu]
      by_cases c : j = i
      · rw [if_pos ⟨rfl, by omega⟩]
      · rw [if_neg (by omega)]; exact c2 j (by omega)
  rw [T_X12_readWants]
  exact L 64 0 5000 M (by omega) (by omega) (fun _ _ _ => rfl) (fun j hj => absurd hj (by omega))
