/-! TEXT: a week -/
def dC (a j : Nat) : Prop := tC a j ∨ (a = 144 ∧ j = 8) ∨ (147 ≤ a ∧ a ≤ 150)
def dM (a j : Nat) : Prop := tM a j ∨ (a = 180 ∧ 64 ≤ j)
def DC (np nb n : Nat) (tk ps : Nat → Nat) (B : Mm) (i l : Nat) (t : Nat → Nat → Nat) (M : Mm) : Prop := TC n tk ps i M ∧ M 144 8 = nI l ∧ (∀ j, j < l → (M 147 j = nI (t j 0) ∧ M 148 j = nI (t j 1) ∧ M 149 j = nI (t j 2) ∧ M 150 j = nI (t j 3)) ∧ actR np nb (nI (t j 1)) (nI (t j 2)) (nI (t j 3)) (nI (t j 4)) (nI (t j 5)) (nI (t j 6))) ∧ ∀ a j, ¬ dC a j → M a j = B a j
def dF (a j : Nat) : Prop := dC a j ∨ (a = 132 ∧ 7 ≤ j ∧ j ≤ 8)
def DCf (B : Mm) (fk p : Nat) (M : Mm) : Prop := M 132 7 = nI fk ∧ M 132 8 = nI p ∧ ∀ a j, ¬ dF a j → M a j = B a j
def DM (ch : Nat → Nat) (k n : Nat) (tk ps en : Nat → Nat) (B : Mm) (i l : Nat) (t : Nat → Nat → Nat) (M : Mm) : Prop := TM ch k n tk ps en i M ∧ (∀ j, j < l → M 180 (64 + 4 * j) = nI (t j 0) ∧ M 180 (64 + 4 * j + 1) = nI (t j 4) ∧ M 180 (64 + 4 * j + 2) = nI (t j 5) ∧ M 180 (64 + 4 * j + 3) = nI (t j 6)) ∧ ∀ a j, ¬ dM a j → M a j = B a j
def DMf (B : Mm) (fk p : Nat) (M : Mm) : Prop := M 159 33 = nI fk ∧ M 159 34 = nI p ∧ ∀ a j, ¬ dM a j → M a j = B a j
/-- what stands behind_v the act: in the class, in the model -/
def CAx (c : Int32) (x1 : Int32) (M : Mm) (K : Int32 → Mm → Prop) : Prop := (c = 278 → T_X3_parseDay_97 x1 c M K) ∧ (¬ c = 278 → (c = 280 → T_X3_parseDay_97 x1 c M K) ∧ (¬ c = 280 → (c = 281 → T_X3_parseDay_97 x1 c M K) ∧ (¬ c = 281 → T_X3_parseDay_123 x1 c 0 M K)))
def EAx (w : Int32) (at0 : Nat) (M : Mm) (K : Int32 → Mm → Prop) : Prop := (w = 3 → T_X12_readDeed_83 (nI at0) w (nI at0 + 2) 0 M K) ∧ (¬ w = 3 → T_X12_mostFor w M (fun r38 M37 => T_X12_readNumber 0 r38 M37 (fun r41 M40 => T_X12_readDeed_83 (nI at0) w (nI at0 + 2) r41 M40 K)))
theorem d167f {x1 x2 x4 : Int32} {M : Mm} {K : Int32 → Mm → Prop} (k : K 0 M) : T_X3_parseDay_167 x1 x2 (-1) x4 M K := by
  rw [T_X3_parseDay_167]
  exact ⟨fun _ => k, fun z => absurd rfl z⟩
theorem d167g {x1 x2 x3 : Int32} {M : Mm} {K : Int32 → Mm → Prop} (k : K 0 M) : T_X3_parseDay_167 x1 x2 x3 (-1) M K := by
  rw [T_X3_parseDay_167]
  exact ⟨fun _ => k, fun _ => ⟨fun _ => k, fun z => absurd rfl z⟩⟩
theorem d123f {x1 x2 : Int32} {M : Mm} {K : Int32 → Mm → Prop} (k : K 0 M) : T_X3_parseDay_123 x1 x2 (-1) M K := by
  rw [T_X3_parseDay_123]
  exact ⟨fun _ => d167f k, fun z => absurd rfl z⟩
theorem m83f {at0 : Nat} {x2 : Int32} {M : Mm} {K : Int32 → Mm → Prop} (ha : at0 ≤ 124) (k : K (-1) (m_up M 180 (at0 + 2) (-1))) : T_X12_readDeed_83 (nI at0) x2 (nI at0 + 2) (-1) M K := by
  have e2 : nI at0 + 2 = nI (at0 + 2) := nI_add at0 2
  rw [T_X12_readDeed_83, e2, nI_clamp (n := at0 + 2) (by omega)]
  refine ⟨vp_in_nI (by omega) (by decide), fun M8 g8 => ⟨vp_in_nI (by omega) (by decide), fun _ => by rw [g8]; exact k, fun z => absurd (by rw [g8, mu, if_pos ⟨rfl, rfl⟩]) z⟩⟩
theorem m83 {at0 q2 : Nat} {x2 : Int32} {M : Mm} {K : Int32 → Mm → Prop} (ha : at0 ≤ 124) (hq : q2 ≤ 9999) (k4 : x2 = 4 → T_X12_readNumber 0 99 (m_up M 180 (at0 + 2) (nI q2)) (fun r M' => T_X12_readDeed_137 (nI at0) (nI at0 + 3) r M' K)) (k5 : x2 = 5 → T_X12_readNumber 1 999 (m_up M 180 (at0 + 2) (nI q2)) (fun r M' => T_X12_readDeed_137 (nI at0) (nI at0 + 3) r M' K)) (k0 : ¬ x2 = 4 → ¬ x2 = 5 → T_X12_readDeed_137 (nI at0) (nI at0 + 3) 0 (m_up M 180 (at0 + 2) (nI q2)) K) : T_X12_readDeed_83 (nI at0) x2 (nI at0 + 2) (nI q2) M K := by
  have e2 : nI at0 + 2 = nI (at0 + 2) := nI_add at0 2
  rw [T_X12_readDeed_83, e2, nI_clamp (n := at0 + 2) (by omega)]
  refine ⟨vp_in_nI (by omega) (by decide), fun M8 g8 => ⟨vp_in_nI (by omega) (by decide), fun z => ?_, fun _ => ?_⟩⟩
  · rw [g8, mu, if_pos ⟨rfl, rfl⟩] at z
    exact absurd z (nI_m1 (by omega))
  · rw [← g8] at k4 k5 k0
    exact ⟨k4, fun z => ⟨k5 , k0 z⟩⟩
theorem m137f {at0 : Nat} {M : Mm} {K : Int32 → Mm → Prop} (ha : at0 ≤ 124) (k : K (-1) (m_up M 180 (at0 + 3) (-1))) : T_X12_readDeed_137 (nI at0) (nI at0 + 3) (-1) M K := by
  have e2 : nI at0 + 3 = nI (at0 + 3) := nI_add at0 3
  rw [T_X12_readDeed_137, e2, nI_clamp (n := at0 + 3) (by omega)]
  refine ⟨vp_in_nI (by omega) (by decide), fun M8 g8 => ⟨vp_in_nI (by omega) (by decide), fun _ => by rw [g8]; exact k, fun z => absurd (by rw [g8, mu, if_pos ⟨rfl, rfl⟩]) z⟩⟩
theorem m137 {at0 q3 : Nat} {M : Mm} {K : Int32 → Mm → Prop} (ha : at0 ≤ 124) (hq : q3 ≤ 9999) (k : T_X12_readMark 59 (m_up M 180 (at0 + 3) (nI q3)) (fun r M' => K r M')) : T_X12_readDeed_137 (nI at0) (nI at0 + 3) (nI q3) M K := by
  have e2 : nI at0 + 3 = nI (at0 + 3) := nI_add at0 3
  rw [T_X12_readDeed_137, e2, nI_clamp (n := at0 + 3) (by omega)]
  refine ⟨vp_in_nI (by omega) (by decide), fun M8 g8 => ⟨vp_in_nI (by omega) (by decide), fun z => ?_, fun _ => by rw [g8]; exact k⟩⟩
  rw [g8, mu, if_pos ⟨rfl, rfl⟩] at z
  exact absurd z (nI_m1 (by omega))
theorem Q0.up {ch : Nat → Nat} {k n i : Nat} {tk ps en : Nat → Nat} {B M : Mm} {j0 : Nat} {x : Int32} (h : Q0 ch k n tk ps en B i M) : Q0 ch k n tk ps en (m_up B 180 j0 x) i (m_up M 180 j0 x) := by
  have E : ∀ a j, a ≠ 180 → m_up M 180 j0 x a j = M a j := fun a j z => by rw [mu, if_neg (fun w => z w.1)]
  exact ⟨h.1.cg (fun j _ _ => E 159 j (by omega)) (fun j => E 169 j (by omega)) (fun j => E 170 j (by omega)), fun a j z => up_cg (h.2 a j z)⟩
theorem QF.d {B B1 M : Mm} {fk p : Nat} (h : QF B1 fk p M) (h1 : ∀ a j, ¬ dM a j → B1 a j = B a j) : DMf B fk p M := ⟨h.1, h.2.1, fun a j z => by rw [h.2.2 a j (fun w => z (Or.inl w))]; exact h1 a j z⟩
theorem DMf.up {B M : Mm} {fk p j0 : Nat} {x : Int32} (h : DMf B fk p M) (h0 : 64 ≤ j0) : DMf B fk p (m_up M 180 j0 x) := by
  refine ⟨by rw [mu, if_neg (by omega)]; exact h.1, by rw [mu, if_neg (by omega)]; exact h.2.1, fun a j z => ?_⟩
  have z2 := z
  unfold dM at z2
  rw [mu, if_neg (by omega)]
  exact h.2.2 a j z
theorem upd_d {B : Mm} {j0 : Nat} {x : Int32} (h0 : 64 ≤ j0) : ∀ a j, ¬ dM a j → m_up B 180 j0 x a j = B a j := fun a j z => by
  unfold dM at z
  rw [mu, if_neg (by omega)]
/-- two_v numbers_v -/
theorem ap2 {ch : Nat → Nat} {k n np nb N i at0 : Nat} {tk ps en : Nat → Nat} (hS : TS ch k n tk ps en) (hi : i ≤ n) (ha : at0 ≤ 124) (h64 : 64 ≤ at0) (hN : N ≤ 16) {c w lo hi' : Int32} (hcw : (c = 280 ∧ w = 4 ∧ lo = 0 ∧ hi' = 99 ∧ N = np) ∨ (c = 281 ∧ w = 5 ∧ lo = 1 ∧ hi' = 999 ∧ N = nb)) :
    (∃ fk p, (∀ (B M : Mm) (K : Int32 → Mm → Prop) (x1 : Int32), P0 n tk ps B i M → B 136 3 = nI np → B 136 4 = nI nb → (∀ M', PF B fk p M' → K 0 M') → CAx c x1 M K) ∧ (∀ (B M : Mm) (K : Int32 → Mm → Prop), Q0 ch k n tk ps en B i M → B 159 6 = nI np → B 159 7 = nI nb → (∀ M', DMf B fk p M' → K (-1) M') → EAx w at0 M K)) ∨
    (∃ i' ww mm q2 q3, i' ≤ n ∧ ww ≤ 9999 ∧ mm ≤ 9999 ∧ actR np nb c (nI ww) (nI mm) w (nI q2) (nI q3) ∧ (∀ (B M : Mm) (K : Int32 → Mm → Prop) (x1 : Int32), P0 n tk ps B i M → B 136 3 = nI np → B 136 4 = nI nb → (∀ M', P0 n tk ps B i' M' → T_X3_parseDay_167 x1 c (nI ww) (nI mm) M' K) → CAx c x1 M K) ∧ (∀ (B M : Mm) (K : Int32 → Mm → Prop), Q0 ch k n tk ps en B i M → B 159 6 = nI np → B 159 7 = nI nb → (∀ M', Q0 ch k n tk ps en (m_up (m_up B 180 (at0 + 2) (nI q2)) 180 (at0 + 3) (nI q3)) i' M' → T_X12_readMark 59 M' (fun r M' => K r M')) → EAx w at0 M K)) := by
  have cgo : ∀ (B M : Mm) (K : Int32 → Mm → Prop) (x1 : Int32), P0 n tk ps B i M → B 136 3 = nI np → B 136 4 = nI nb → T_X3_takeNumber 0 (nI N - 1) M (fun r21 M20 => T_X3_parseDay_123 x1 c r21 M20 K) → CAx c x1 M K := by
    intro B M K x1 h h3 h4 hK
    have e3 : M 136 3 = nI np := by rw [h.2 136 3 (by unfold tC; omega)]; exact h3
    have e4 : M 136 4 = nI nb := by rw [h.2 136 4 (by unfold tC; omega)]; exact h4
    rcases hcw with ⟨rfl, -, -, -, rfl⟩ | ⟨rfl, -, -, -, rfl⟩
    · refine ⟨fun z => absurd z (by decide), fun _ => ⟨fun _ => ?_, fun z => absurd rfl z⟩⟩
      rw [T_X3_parseDay_97, e3, T_X3_parseDay_117]
      exact ⟨fun z => absurd z (by decide), fun _ => hK⟩
    · refine ⟨fun z => absurd z (by decide), fun _ => ⟨fun z => absurd z (by decide), fun _ => ⟨fun _ => ?_, fun z => absurd rfl z⟩⟩⟩
      rw [T_X3_parseDay_97, e4, T_X3_parseDay_117]
      exact ⟨fun _ => hK, fun z => absurd rfl z⟩
  have mgo : ∀ (B M : Mm) (K : Int32 → Mm → Prop), Q0 ch k n tk ps en B i M → B 159 6 = nI np → B 159 7 = nI nb → T_X12_readNumber 0 (nI N - 1) M (fun r41 M40 => T_X12_readDeed_83 (nI at0) w (nI at0 + 2) r41 M40 K) → EAx w at0 M K := by
    intro B M K h h3 h4 hK
    have e3 : M 159 6 = nI np := by rw [h.2 159 6 (by unfold tM; omega)]; exact h3
    have e4 : M 159 7 = nI nb := by rw [h.2 159 7 (by unfold tM; omega)]; exact h4
    rcases hcw with ⟨-, rfl, -, -, rfl⟩ | ⟨-, rfl, -, -, rfl⟩
    · refine ⟨fun z => absurd z (by decide), fun _ => ?_⟩
      rw [T_X12_mostFor, T_X12_mostFor_9, e3]
      exact ⟨fun z => absurd z (by decide), fun _ => ⟨fun _ => hK, fun z => absurd rfl z⟩⟩
    · refine ⟨fun z => absurd z (by decide), fun _ => ?_⟩
      rw [T_X12_mostFor, e4]
      exact ⟨fun z => absurd z (by decide), fun _ => ⟨fun z => absurd z (by decide), fun _ => ⟨fun z => absurd z (by decide), fun _ => ⟨fun z => absurd z (by decide), fun _ => hK⟩⟩⟩⟩
  rcases tn_ok hS hi 0 (nI N - 1) with ⟨fk, a1, a2⟩ | ⟨v, ai, av, ab, a1, a2⟩
  · exact Or.inl ⟨fk, ps i, fun B M K x1 h h3 h4 hK => cgo B M K x1 h h3 h4 (a1 B M _ h (fun M' h' => d123f (hK M' h'))), fun B M K h h3 h4 hK => mgo B M K h h3 h4 (a2 B M _ h (fun M' h' => m83f ha (hK _ (DMf.up (h'.d (fun _ _ _ => rfl)) (by omega)))))⟩
  have hv : v < N := nbd av hN ab.2
  have nm : ¬ nI v = -1 := nI_m1 (by omega)
  have c2 : ∀ (B M : Mm) (K : Int32 → Mm → Prop) (x1 : Int32), P0 n tk ps B i M → B 136 3 = nI np → B 136 4 = nI nb → (∀ M', P0 n tk ps B (i + 1) M' → T_X3_takeNumber lo hi' M' (fun r14 M13 => T_X3_parseDay_167 x1 c (nI v) r14 M13 K)) → CAx c x1 M K := by
    intro B M K x1 h h3 h4 hK
    refine cgo B M K x1 h h3 h4 (a1 B M _ h (fun M' h' => ?_))
    have := hK M' h'
    rw [T_X3_parseDay_123]
    refine ⟨fun z => absurd z nm, fun _ => ?_⟩
    rcases hcw with ⟨rfl, -, rfl, rfl, rfl⟩ | ⟨rfl, -, rfl, rfl, rfl⟩
    · refine ⟨fun z => absurd z (by decide), fun _ => ⟨fun z => absurd z (by decide), fun _ => ⟨fun z => absurd z (by decide), fun _ => ?_⟩⟩⟩
      rw [T_X3_parseDay_158, T_X3_mostOf]
      exact ⟨fun z => absurd z (by decide), fun _ => ⟨fun z => absurd z (by decide), fun _ => ⟨fun _ => this, fun z => absurd rfl z⟩⟩⟩
    · refine ⟨fun z => absurd z (by decide), fun _ => ⟨fun z => absurd z (by decide), fun _ => ⟨fun _ => ?_, fun z => absurd rfl z⟩⟩⟩
      rw [T_X3_parseDay_158, T_X3_mostOf]
      exact ⟨fun z => absurd z (by decide), fun _ => ⟨fun z => absurd z (by decide), fun _ => ⟨fun z => absurd z (by decide), fun _ => this⟩⟩⟩
  have m2 : ∀ (B M : Mm) (K : Int32 → Mm → Prop), Q0 ch k n tk ps en B i M → B 159 6 = nI np → B 159 7 = nI nb → (∀ M', Q0 ch k n tk ps en (m_up B 180 (at0 + 2) (nI v)) (i + 1) M' → T_X12_readNumber lo hi' M' (fun r M' => T_X12_readDeed_137 (nI at0) (nI at0 + 3) r M' K)) → EAx w at0 M K := by
    intro B M K h h3 h4 hK
    refine mgo B M K h h3 h4 (a2 B M _ h (fun M' h' => ?_))
    have := hK _ h'.up
    rcases hcw with ⟨-, rfl, rfl, rfl, rfl⟩ | ⟨-, rfl, rfl, rfl, rfl⟩
    · exact m83 ha av (fun _ => this) (fun z => absurd z (by decide)) (fun z => absurd rfl z)
    · exact m83 ha av (fun z => absurd z (by decide)) (fun _ => this) (fun _ z => absurd rfl z)
  rcases tn_ok hS (i := i + 1) (by omega) lo hi' with ⟨fk, b1, b2⟩ | ⟨u, bi, bv, bb, b1, b2⟩
  · exact Or.inl ⟨fk, ps (i + 1), fun B M K x1 h h3 h4 hK => c2 B M K x1 h h3 h4 (fun M' h' => b1 B M' _ h' (fun M2 h2 => d167g (hK M2 h2))), fun B M K h h3 h4 hK => m2 B M K h h3 h4 (fun M' h' => b2 _ M' _ h' (fun M2 h2 => m137f ha (hK _ (DMf.up (h2.d (upd_d (by omega))) (by omega)))))⟩
  · refine Or.inr ⟨i + 2, v, u, v, u, by omega, av, bv, ?_, fun B M K x1 h h3 h4 hK => c2 B M K x1 h h3 h4 (fun M' h' => b1 B M' _ h' hK), fun B M K h h3 h4 hK => m2 B M K h h3 h4 (fun M' h' => b2 _ M' _ h' (fun M2 h2 => m137 ha bv (hK _ h2.up)))⟩
    rcases hcw with ⟨rfl, rfl, rfl, rfl, rfl⟩ | ⟨rfl, rfl, rfl, rfl, rfl⟩
    · exact Or.inr (Or.inr (Or.inr (Or.inr (Or.inl ⟨rfl, rfl, rfl, rfl, ⟨v, hv, rfl⟩, ⟨u, (nI_leI (b := 99) (by omega) (by decide)).mp bb.2, rfl⟩⟩))))
    · exact Or.inr (Or.inr (Or.inr (Or.inr (Or.inr ⟨rfl, rfl, rfl, rfl, ⟨v, hv, rfl⟩, ⟨u, (nI_leI (b := 999) (by omega) (by decide)).mp bb.2, rfl⟩⟩))))
/-- one number_v -/
theorem ap1 {ch : Nat → Nat} {k n np nb i at0 : Nat} {tk ps en : Nat → Nat} (hS : TS ch k n tk ps en) (hi : i ≤ n) (ha : at0 ≤ 124) (h64 : 64 ≤ at0) (hN : np ≤ 16) {c w : Int32} (hcw : (c = 278 ∧ w = 0) ∨ (c = 272 ∧ w = 1) ∨ (c = 271 ∧ w = 2)) :
    (∃ fk p, (∀ (B M : Mm) (K : Int32 → Mm → Prop) (x1 : Int32), P0 n tk ps B i M → B 136 3 = nI np → B 136 4 = nI nb → (∀ M', PF B fk p M' → K 0 M') → CAx c x1 M K) ∧ (∀ (B M : Mm) (K : Int32 → Mm → Prop), Q0 ch k n tk ps en B i M → B 159 6 = nI np → B 159 7 = nI nb → (∀ M', DMf B fk p M' → K (-1) M') → EAx w at0 M K)) ∨
    (∃ i' ww mm q2 q3, i' ≤ n ∧ ww ≤ 9999 ∧ mm ≤ 9999 ∧ actR np nb c (nI ww) (nI mm) w (nI q2) (nI q3) ∧ (∀ (B M : Mm) (K : Int32 → Mm → Prop) (x1 : Int32), P0 n tk ps B i M → B 136 3 = nI np → B 136 4 = nI nb → (∀ M', P0 n tk ps B i' M' → T_X3_parseDay_167 x1 c (nI ww) (nI mm) M' K) → CAx c x1 M K) ∧ (∀ (B M : Mm) (K : Int32 → Mm → Prop), Q0 ch k n tk ps en B i M → B 159 6 = nI np → B 159 7 = nI nb → (∀ M', Q0 ch k n tk ps en (m_up (m_up B 180 (at0 + 2) (nI q2)) 180 (at0 + 3) (nI q3)) i' M' → T_X12_readMark 59 M' (fun r M' => K r M')) → EAx w at0 M K)) := by
  obtain ⟨top, htop⟩ : ∃ top : Int32, (c = 278 → top = nI np - 1) ∧ (c = 272 → top = 9) ∧ (c = 271 → top = 99) := by
    rcases hcw with ⟨rfl, -⟩ | ⟨rfl, -⟩ | ⟨rfl, -⟩
    · exact ⟨nI np - 1, fun _ => rfl, fun z => absurd z (by decide), fun z => absurd z (by decide)⟩
    · exact ⟨9, fun z => absurd z (by decide), fun _ => rfl, fun z => absurd z (by decide)⟩
    · exact ⟨99, fun z => absurd z (by decide), fun z => absurd z (by decide), fun _ => rfl⟩
  have cgo : ∀ (B M : Mm) (K : Int32 → Mm → Prop) (x1 : Int32), P0 n tk ps B i M → B 136 3 = nI np → T_X3_takeNumber 0 top M (fun r M20 => if c = 278 then T_X3_parseDay_123 x1 c r M20 K else T_X3_parseDay_167 x1 c 0 r M20 K) → CAx c x1 M K := by
    intro B M K x1 h h3 hK
    have e3 : M 136 3 = nI np := by rw [h.2 136 3 (by unfold tC; omega)]; exact h3
    rcases hcw with ⟨rfl, -⟩ | ⟨rfl, -⟩ | ⟨rfl, -⟩
    · rw [htop.1 rfl] at hK
      refine ⟨fun _ => ?_, fun z => absurd rfl z⟩
      rw [T_X3_parseDay_97, e3, T_X3_parseDay_117]
      exact ⟨fun z => absurd z (by decide), fun _ => hK⟩
    · rw [htop.2.1 rfl] at hK
      refine ⟨fun z => absurd z (by decide), fun _ => ⟨fun z => absurd z (by decide), fun _ => ⟨fun z => absurd z (by decide), fun _ => ?_⟩⟩⟩
      rw [T_X3_parseDay_123]
      refine ⟨fun z => absurd z (by decide), fun _ => ⟨fun z => absurd z (by decide), fun _ => ⟨fun z => absurd z (by decide), fun _ => ⟨fun z => absurd z (by decide), fun _ => ?_⟩⟩⟩⟩
      rw [T_X3_parseDay_158, T_X3_mostOf]
      exact ⟨fun z => absurd z (by decide), fun _ => ⟨fun _ => hK, fun z => absurd rfl z⟩⟩
    · rw [htop.2.2 rfl] at hK
      refine ⟨fun z => absurd z (by decide), fun _ => ⟨fun z => absurd z (by decide), fun _ => ⟨fun z => absurd z (by decide), fun _ => ?_⟩⟩⟩
      rw [T_X3_parseDay_123]
      refine ⟨fun z => absurd z (by decide), fun _ => ⟨fun z => absurd z (by decide), fun _ => ⟨fun z => absurd z (by decide), fun _ => ⟨fun z => absurd z (by decide), fun _ => ?_⟩⟩⟩⟩
      rw [T_X3_parseDay_158, T_X3_mostOf]
      exact ⟨fun _ => hK, fun z => absurd rfl z⟩
  have mgo : ∀ (B M : Mm) (K : Int32 → Mm → Prop), Q0 ch k n tk ps en B i M → B 159 6 = nI np → T_X12_readNumber 0 top M (fun r41 M40 => T_X12_readDeed_83 (nI at0) w (nI at0 + 2) r41 M40 K) → EAx w at0 M K := by
    intro B M K h h3 hK
    have e3 : M 159 6 = nI np := by rw [h.2 159 6 (by unfold tM; omega)]; exact h3
    rcases hcw with ⟨e, rfl⟩ | ⟨e, rfl⟩ | ⟨e, rfl⟩
    · rw [htop.1 e] at hK
      refine ⟨fun z => absurd z (by decide), fun _ => ?_⟩
      rw [T_X12_mostFor, T_X12_mostFor_9, e3]
      exact ⟨fun _ => hK, fun z => absurd rfl z⟩
    · rw [htop.2.1 e] at hK
      refine ⟨fun z => absurd z (by decide), fun _ => ?_⟩
      rw [T_X12_mostFor]
      exact ⟨fun z => absurd z (by decide), fun _ => ⟨fun z => absurd z (by decide), fun _ => ⟨fun _ => hK, fun z => absurd rfl z⟩⟩⟩
    · rw [htop.2.2 e] at hK
      refine ⟨fun z => absurd z (by decide), fun _ => ?_⟩
      rw [T_X12_mostFor]
      exact ⟨fun z => absurd z (by decide), fun _ => ⟨fun z => absurd z (by decide), fun _ => ⟨fun z => absurd z (by decide), fun _ => ⟨fun _ => hK, fun z => absurd rfl z⟩⟩⟩⟩
  have w45 : ¬ w = 4 ∧ ¬ w = 5 := by
    rcases hcw with ⟨-, rfl⟩ | ⟨-, rfl⟩ | ⟨-, rfl⟩ <;> decide
  rcases tn_ok hS hi 0 top with ⟨fk, a1, a2⟩ | ⟨v, ai, av, ab, a1, a2⟩
  · refine Or.inl ⟨fk, ps i, fun B M K x1 h h3 h4 hK => cgo B M K x1 h h3 (a1 B M _ h (fun M' h' => ?_)), fun B M K h h3 h4 hK => mgo B M K h h3 (a2 B M _ h (fun M' h' => m83f ha (hK _ (DMf.up (h'.d (fun _ _ _ => rfl)) (by omega)))))⟩
    by_cases e : c = 278
    · show (if c = 278 then _ else _)
      rw [if_pos e]
      exact d123f (hK M' h')
    · show (if c = 278 then _ else _)
      rw [if_neg e]
      exact d167g (hK M' h')
  · have nm : ¬ nI v = -1 := nI_m1 (by omega)
    have m3 : ∀ (B M : Mm) (K : Int32 → Mm → Prop), Q0 ch k n tk ps en B i M → B 159 6 = nI np → (∀ M', Q0 ch k n tk ps en (m_up (m_up B 180 (at0 + 2) (nI v)) 180 (at0 + 3) (nI 0)) (i + 1) M' → T_X12_readMark 59 M' (fun r M' => K r M')) → EAx w at0 M K := fun B M K h h3 hK => mgo B M K h h3 (a2 B M _ h (fun M' h' => m83 ha av (fun z => absurd z w45.1) (fun z => absurd z w45.2) (fun _ _ => m137 (q3 := 0) ha (by omega) (hK _ h'.up.up))))
    rcases hcw with ⟨rfl, rfl⟩ | ⟨rfl, rfl⟩ | ⟨rfl, rfl⟩
    · have hv : v < np := by
        rw [htop.1 rfl] at ab
        exact nbd av hN ab.2
      refine Or.inr ⟨i + 1, v, 0, v, 0, by omega, av, by omega, Or.inl ⟨rfl, rfl, rfl, rfl, v, hv, rfl⟩, fun B M K x1 h h3 h4 hK => cgo B M K x1 h h3 (a1 B M _ h (fun M' h' => ?_)), fun B M K h h3 h4 hK => m3 B M K h h3 hK⟩
      show (if (278 : Int32) = 278 then _ else _)
      rw [if_pos rfl, T_X3_parseDay_123]
      exact ⟨fun z => absurd z nm, fun _ => ⟨fun _ => hK M' h', fun z => absurd rfl z⟩⟩
    · rw [htop.2.1 rfl] at ab
      refine Or.inr ⟨i + 1, 0, v, v, 0, by omega, by omega, av, Or.inr (Or.inl ⟨rfl, rfl, rfl, rfl, v, (nI_leI (b := 9) (by omega) (by decide)).mp ab.2, rfl⟩), fun B M K x1 h h3 h4 hK => cgo B M K x1 h h3 (a1 B M _ h (fun M' h' => ?_)), fun B M K h h3 h4 hK => m3 B M K h h3 hK⟩
      show (if (272 : Int32) = 278 then _ else _)
      rw [if_neg (by decide)]
      exact hK M' h'
    · rw [htop.2.2 rfl] at ab
      refine Or.inr ⟨i + 1, 0, v, v, 0, by omega, by omega, av, Or.inr (Or.inr (Or.inl ⟨rfl, rfl, rfl, rfl, v, (nI_leI (b := 99) (by omega) (by decide)).mp ab.2, rfl⟩)), fun B M K x1 h h3 h4 hK => cgo B M K x1 h h3 (a1 B M _ h (fun M' h' => ?_)), fun B M K h h3 h4 hK => m3 B M K h h3 hK⟩
      show (if (271 : Int32) = 278 then _ else _)
      rw [if_neg (by decide)]
      exact hK M' h'
