/-! TEXT: a line of a week -/
theorem apx {ch : Nat → Nat} {k n np nb i at0 : Nat} {tk ps en : Nat → Nat} (hS : TS ch k n tk ps en) (hi : i ≤ n) (ha : at0 ≤ 124) (h64 : 64 ≤ at0) (hp : np ≤ 16) (hb : nb ≤ 8) {c w : Int32} (hcw : (c = 278 ∧ w = 0) ∨ (c = 272 ∧ w = 1) ∨ (c = 271 ∧ w = 2) ∨ (c = 279 ∧ w = 3) ∨ (c = 280 ∧ w = 4) ∨ (c = 281 ∧ w = 5)) :
    (∃ fk p, (∀ (B M : Mm) (K : Int32 → Mm → Prop) (x1 : Int32), P0 n tk ps B i M → B 136 3 = nI np → B 136 4 = nI nb → (∀ M', PF B fk p M' → K 0 M') → CAx c x1 M K) ∧ (∀ (B M : Mm) (K : Int32 → Mm → Prop), Q0 ch k n tk ps en B i M → B 159 6 = nI np → B 159 7 = nI nb → (∀ M', DMf B fk p M' → K (-1) M') → EAx w at0 M K)) ∨
    (∃ i' ww mm q2 q3, i' ≤ n ∧ ww ≤ 9999 ∧ mm ≤ 9999 ∧ actR np nb c (nI ww) (nI mm) w (nI q2) (nI q3) ∧ (∀ (B M : Mm) (K : Int32 → Mm → Prop) (x1 : Int32), P0 n tk ps B i M → B 136 3 = nI np → B 136 4 = nI nb → (∀ M', P0 n tk ps B i' M' → T_X3_parseDay_167 x1 c (nI ww) (nI mm) M' K) → CAx c x1 M K) ∧ (∀ (B M : Mm) (K : Int32 → Mm → Prop), Q0 ch k n tk ps en B i M → B 159 6 = nI np → B 159 7 = nI nb → (∀ M', Q0 ch k n tk ps en (m_up (m_up B 180 (at0 + 2) (nI q2)) 180 (at0 + 3) (nI q3)) i' M' → T_X12_readMark 59 M' (fun r M' => K r M')) → EAx w at0 M K)) := by
  rcases hcw with e | e | e | ⟨rfl, rfl⟩ | ⟨rfl, rfl⟩ | ⟨rfl, rfl⟩
  · exact ap1 hS hi ha h64 hp (Or.inl e)
  · exact ap1 hS hi ha h64 hp (Or.inr (Or.inl e))
  · exact ap1 hS hi ha h64 hp (Or.inr (Or.inr e))
  · refine Or.inr ⟨i, 0, 0, 0, 0, hi, by omega, by omega, Or.inr (Or.inr (Or.inr (Or.inl ⟨rfl, rfl, rfl, rfl⟩))), fun B M K x1 h h3 h4 hK => ?_, fun B M K h h3 h4 hK => ?_⟩
    · refine ⟨fun z => absurd z (by decide), fun _ => ⟨fun z => absurd z (by decide), fun _ => ⟨fun z => absurd z (by decide), fun _ => ?_⟩⟩⟩
      rw [T_X3_parseDay_123]
      exact ⟨fun z => absurd z (by decide), fun _ => ⟨fun z => absurd z (by decide), fun _ => ⟨fun _ => hK M h, fun z => absurd rfl z⟩⟩⟩
    · exact ⟨fun _ => m83 (q2 := 0) ha (by omega) (fun z => absurd z (by decide)) (fun z => absurd z (by decide)) (fun _ _ => m137 (q3 := 0) ha (by omega) (hK _ h.up.up)), fun z => absurd rfl z⟩
  · exact ap2 hS hi ha h64 hp (Or.inl ⟨rfl, rfl, rfl, rfl, rfl⟩)
  · exact ap2 hS hi ha h64 (by omega : nb ≤ 16) (Or.inr ⟨rfl, rfl, rfl, rfl, rfl⟩)
/-- which act -/
theorem kd_n {c : Nat} {M : Mm} {K : Int32 → Mm → Prop} (h : tokR c (M 159 18) (M 159 19)) (hc : ¬ (c = 278 ∨ c = 272 ∨ c = 271 ∨ c = 279 ∨ c = 280 ∨ c = 281)) (k : K (-1) M) : T_X12_kindOfDeed M K := by
  rw [T_X12_kindOfDeed]
  refine iwd_n (w := 22) h (by omega) rfl (by omega) ⟨fun _ => ?_, fun z => absurd rfl z⟩
  refine iwd_n (w := 16) h (by omega) rfl (by omega) ⟨fun _ => ?_, fun z => absurd rfl z⟩
  refine iwd_n (w := 15) h (by omega) rfl (by omega) ⟨fun _ => ?_, fun z => absurd rfl z⟩
  refine iwd_n (w := 23) h (by omega) rfl (by omega) ⟨fun _ => ?_, fun z => absurd rfl z⟩
  refine iwd_n (w := 24) h (by omega) rfl (by omega) ⟨fun _ => ?_, fun z => absurd rfl z⟩
  exact iwd_n (w := 25) h (by omega) rfl (by omega) ⟨fun _ => k, fun z => absurd rfl z⟩
theorem kd_y {c w : Nat} {M : Mm} {K : Int32 → Mm → Prop} (h : tokR c (M 159 18) (M 159 19)) (hc : (c = 278 ∧ w = 0) ∨ (c = 272 ∧ w = 1) ∨ (c = 271 ∧ w = 2) ∨ (c = 279 ∧ w = 3) ∨ (c = 280 ∧ w = 4) ∨ (c = 281 ∧ w = 5)) (k : K (nI w) M) : T_X12_kindOfDeed M K := by
  rw [T_X12_kindOfDeed]
  by_cases e0 : c = 278
  · have ew : w = 0 := by omega
    subst ew
    exact iwd_y (w := 22) h (by omega) rfl (by omega) ⟨fun z => absurd z (by decide), fun _ => k⟩
  refine iwd_n (w := 22) h (by omega) rfl (by omega) ⟨fun _ => ?_, fun z => absurd rfl z⟩
  by_cases e1 : c = 272
  · have ew : w = 1 := by omega
    subst ew
    exact iwd_y (w := 16) h (by omega) rfl (by omega) ⟨fun z => absurd z (by decide), fun _ => k⟩
  refine iwd_n (w := 16) h (by omega) rfl (by omega) ⟨fun _ => ?_, fun z => absurd rfl z⟩
  by_cases e2 : c = 271
  · have ew : w = 2 := by omega
    subst ew
    exact iwd_y (w := 15) h (by omega) rfl (by omega) ⟨fun z => absurd z (by decide), fun _ => k⟩
  refine iwd_n (w := 15) h (by omega) rfl (by omega) ⟨fun _ => ?_, fun z => absurd rfl z⟩
  by_cases e3 : c = 279
  · have ew : w = 3 := by omega
    subst ew
    exact iwd_y (w := 23) h (by omega) rfl (by omega) ⟨fun z => absurd z (by decide), fun _ => k⟩
  refine iwd_n (w := 23) h (by omega) rfl (by omega) ⟨fun _ => ?_, fun z => absurd rfl z⟩
  by_cases e4 : c = 280
  · have ew : w = 4 := by omega
    subst ew
    exact iwd_y (w := 24) h (by omega) rfl (by omega) ⟨fun z => absurd z (by decide), fun _ => k⟩
  refine iwd_n (w := 24) h (by omega) rfl (by omega) ⟨fun _ => ?_, fun z => absurd rfl z⟩
  have ew : w = 5 := by omega
  subst ew
  exact iwd_y (w := 25) h (by omega) rfl (by omega) ⟨fun z => absurd z (by decide), fun _ => k⟩
def tnw (v c ww mm w q2 q3 : Nat) (x : Nat) : Nat := match x with
  | 0 => v | 1 => c | 2 => ww | 3 => mm | 4 => w | 5 => q2 | _ => q3
def tup (t : Nat → Nat → Nat) (l : Nat) (r : Nat → Nat) : Nat → Nat → Nat := fun j => if j = l then r else t j
theorem tup_e {t : Nat → Nat → Nat} {l : Nat} {r : Nat → Nat} : tup t l r l = r := if_pos rfl
theorem tup_n {t : Nat → Nat → Nat} {l j : Nat} {r : Nat → Nat} (h : j ≠ l) : tup t l r j = t j := if_neg h
set_option maxHeartbeats 2000000 in
theorem dl_ok {ch : Nat → Nat} {k n np nb : Nat} {tk ps en : Nat → Nat} (hS : TS ch k n tk ps en) (hp : np ≤ 16) (hb : nb ≤ 8) {i l : Nat} {t : Nat → Nat → Nat} (hi : i < n) (ht : tk i = 277) (hl : l < 16) :
    (∃ fk p, (∀ B M K, (B 136 3 = nI np ∧ B 136 4 = nI nb) → DC np nb n tk ps B i l t M → (∀ M', DCf B fk p M' → K 0 M') → T_X3_parseDay M K) ∧ (∀ B M K, (B 159 6 = nI np ∧ B 159 7 = nI nb) → DM ch k n tk ps en B i l t M → (∀ M', DMf B fk p M' → K (-1) M') → T_X12_readDeed (64 + 4 * nI l) M K)) ∨
    (∃ i' t', i' ≤ n ∧ (∀ B M K, (B 136 3 = nI np ∧ B 136 4 = nI nb) → DC np nb n tk ps B i l t M → (∀ M', DC np nb n tk ps B i' (l + 1) t' M' → K 1 M') → T_X3_parseDay M K) ∧ (∀ B M K, (B 159 6 = nI np ∧ B 159 7 = nI nb) → DM ch k n tk ps en B i l t M → (∀ M', DM ch k n tk ps en B i' (l + 1) t' M' → K 0 M') → T_X12_readDeed (64 + 4 * nI l) M K)) := by
  have hn := hS.n
  have cf : ∀ {B M M' : Mm} {fk p : Nat}, DC np nb n tk ps B i l t M → PF M fk p M' → DCf B fk p M' := fun h h' => ⟨h'.1, h'.2.1, fun a j z => by rw [h'.2.2 a j (by unfold dF dC tC at z; unfold tF; omega)]; exact h.2.2.2 a j (fun w => z (Or.inl w))⟩
  have mf : ∀ {B M M' B1 : Mm} {fk p : Nat}, DM ch k n tk ps en B i l t M → (∀ a j, ¬ dM a j → B1 a j = M a j) → DMf B1 fk p M' → DMf B fk p M' := fun h h1 h' => ⟨h'.1, h'.2.1, fun a j z => by rw [h'.2.2 a j z, h1 a j z]; exact h.2.2 a j z⟩
  have ea : (64 : Int32) + 4 * nI l = nI (64 + 4 * l) := by
    rw [show (64 : Int32) = nI 64 from rfl, show (4 : Int32) = nI 4 from rfl, pk_mul, nI_add]
  have e1 : nI (64 + 4 * l) + 1 = nI (64 + 4 * l + 1) := nI_1 _
  have va : ∀ d, d ≤ 3 → vp_in (nI (64 + 4 * l + d)) 128 := fun d hd => vp_in_nI (by omega) (by decide)
  have va0 : vp_in (nI (64 + 4 * l)) 128 := vp_in_nI (by omega) (by decide)
  have c0 : ∀ B M K, (B 136 3 = nI np ∧ B 136 4 = nI nb) → DC np nb n tk ps B i l t M → (∀ M2, P0 n tk ps M (i + 1) M2 → T_X3_takeNumber 0 999 M2 (fun r32 M31 => (r32 = -1 → K 0 M31) ∧ (¬ r32 = -1 → ∀ y34 : Int32, y34 = M31 132 6 → T_X11_isWithin y34 278 281 M31 (fun r37 M36 => (r37 = 0 → (y34 = 272 → T_X3_parseDay_67 r32 y34 M36 K) ∧ (¬ y34 = 272 → (y34 = 271 → T_X3_parseDay_67 r32 y34 M36 K) ∧ (¬ y34 = 271 → T_X7_refuse 1 M36 (fun r43 M42 => (r43 = 0 ∨ r43 = 1) ∧ K r43 M42)))) ∧ (¬ r37 = 0 → T_X3_parseDay_67 r32 y34 M36 K))))) → T_X3_parseDay M K := by
    intro B M K hB h hK
    have h0 : P0 n tk ps M i M := ⟨h.1, fun _ _ _ => rfl⟩
    rw [T_X3_parseDay]
    exact pstep hn h0 hi hK
  have m0 : ∀ B M K, (B 159 6 = nI np ∧ B 159 7 = nI nb) → DM ch k n tk ps en B i l t M → (∀ M2, Q0 ch k n tk ps en M (i + 1) M2 → T_X12_readNumber 0 999 M2 (fun r22 M21 => vp_in (nI (64 + 4 * l)) 128 ∧ ∀ M23 : Mm, M23 = m_up M21 180 (64 + 4 * l) r22 → vp_in (nI (64 + 4 * l)) 128 ∧ (M23 180 (64 + 4 * l) = -1 → K (-1) M23) ∧ (¬ M23 180 (64 + 4 * l) = -1 → T_X12_kindOfDeed M23 (fun r29 M28 => (r29 = -1 → T_X12_errs 1 M28 (fun r44 M43 => K r44 M43)) ∧ (¬ r29 = -1 → T_X12_reads M28 (fun M32 => vp_in (nI (64 + 4 * l) + 1) 128 ∧ ∀ M33 : Mm, M33 = m_up M32 180 (nI (64 + 4 * l) + 1).toNatClampNeg r29 → EAx r29 (64 + 4 * l) M33 K)))))) → T_X12_readDeed (64 + 4 * nI l) M K := by
    intro B M K hB h hK
    have h0 : Q0 ch k n tk ps en M i M := ⟨h.1, fun _ _ _ => rfl⟩
    rw [T_X12_readDeed, ea, nI_clamp (n := 64 + 4 * l) (by omega)]
    exact qw_y (w := 21) hS h0 hi (by omega) rfl ht hK
  rcases tn_ok hS (i := i + 1) (by omega) 0 999 with ⟨fk, a1, a2⟩ | ⟨v, ai, av, ab, a1, a2⟩
  · refine Or.inl ⟨fk, ps (i + 1), fun B M K hB h hK => c0 B M K hB h (fun M2 h2 => a1 M M2 _ h2 (fun M' h' => ⟨fun _ => hK M' (cf h h'), fun z => absurd rfl z⟩)), fun B M K hB h hK => m0 B M K hB h (fun M2 h2 => a2 M M2 _ h2 (fun M' h' => ⟨va0, fun M23 g23 => ⟨va0, fun _ => hK M23 ?_, fun z => absurd (by rw [g23, mu, if_pos ⟨rfl, rfl⟩]) z⟩⟩))⟩
    rw [g23]
    exact DMf.up (mf h (fun _ _ _ => rfl) (h'.d (fun _ _ _ => rfl))) (by omega)
  have nm : ¬ nI v = -1 := nI_m1 (by omega)
  have tb2 := tkc_b (hS.c (i := i + 2) (by omega))
  have m1 : ∀ B M K, (B 159 6 = nI np ∧ B 159 7 = nI nb) → DM ch k n tk ps en B i l t M → (∀ M23, Q0 ch k n tk ps en (m_up M 180 (64 + 4 * l) (nI v)) (i + 2) M23 → T_X12_kindOfDeed M23 (fun r29 M28 => (r29 = -1 → T_X12_errs 1 M28 (fun r44 M43 => K r44 M43)) ∧ (¬ r29 = -1 → T_X12_reads M28 (fun M32 => vp_in (nI (64 + 4 * l) + 1) 128 ∧ ∀ M33 : Mm, M33 = m_up M32 180 (nI (64 + 4 * l) + 1).toNatClampNeg r29 → EAx r29 (64 + 4 * l) M33 K)))) → T_X12_readDeed (64 + 4 * nI l) M K := by
    intro B M K hB h hK
    refine m0 B M K hB h (fun M2 h2 => a2 M M2 _ h2 (fun M' h' => ⟨va0, fun M23 g23 => ⟨va0, fun z => ?_, fun _ => hK M23 (by rw [g23]; exact h'.up)⟩⟩))
    rw [g23, mu, if_pos ⟨rfl, rfl⟩] at z
    exact absurd z nm
  have q272 : nI (tk (i + 2)) = (272 : Int32) ↔ tk (i + 2) = 272 := nI_eq (b := 272) (by omega) (by decide)
  have q271 : nI (tk (i + 2)) = (271 : Int32) ↔ tk (i + 2) = 271 := nI_eq (b := 271) (by omega) (by decide)
  have q1 : (278 : Int32) ≤ nI (tk (i + 2)) ↔ 278 ≤ tk (i + 2) := nI_leI (a := 278) (by decide) (by omega)
  have q2' : nI (tk (i + 2)) ≤ (281 : Int32) ↔ tk (i + 2) ≤ 281 := nI_leI (b := 281) (by omega) (by decide)
  by_cases hact : tk (i + 2) = 278 ∨ tk (i + 2) = 272 ∨ tk (i + 2) = 271 ∨ tk (i + 2) = 279 ∨ tk (i + 2) = 280 ∨ tk (i + 2) = 281
  rotate_left
  · refine Or.inl ⟨1, ps (i + 2), fun B M K hB h hK => c0 B M K hB h (fun M2 h2 => a1 M M2 _ h2 (fun M' h' => ⟨fun z => absurd z nm, fun _ y34 g34 => ?_⟩)), fun B M K hB h hK => m1 B M K hB h (fun M23 h23 => kd_n h23.1.2.2.2.2 hact ⟨fun _ => qerr (fk := 1) h23 rfl (fun M' h' => hK M' (mf h (fun _ _ _ => rfl) (h'.d (upd_d (by omega))))), fun z => absurd rfl z⟩)⟩
    rw [g34, h'.1.2.2.2.1, iw_neg (by rw [q1, q2']; omega), q272, q271]
    exact ⟨fun _ => ⟨fun z => absurd z (by omega), fun _ => ⟨fun z => absurd z (by omega), fun _ => pref (fk := 1) hn h' rfl (fun M3 h3 => ⟨Or.inl rfl, hK M3 (cf h h3)⟩)⟩⟩, fun z => absurd rfl z⟩
  have hi2 : i + 2 < n := hS.z (by omega) (by omega)
  obtain ⟨c, w, hc, hcw⟩ : ∃ c w : Nat, tk (i + 2) = c ∧ ((c = 278 ∧ w = 0) ∨ (c = 272 ∧ w = 1) ∨ (c = 271 ∧ w = 2) ∨ (c = 279 ∧ w = 3) ∨ (c = 280 ∧ w = 4) ∨ (c = 281 ∧ w = 5)) := by
    rcases hact with e | e | e | e | e | e
    · exact ⟨278, 0, e, Or.inl ⟨rfl, rfl⟩⟩
    · exact ⟨272, 1, e, Or.inr (Or.inl ⟨rfl, rfl⟩)⟩
    · exact ⟨271, 2, e, Or.inr (Or.inr (Or.inl ⟨rfl, rfl⟩))⟩
    · exact ⟨279, 3, e, Or.inr (Or.inr (Or.inr (Or.inl ⟨rfl, rfl⟩)))⟩
    · exact ⟨280, 4, e, Or.inr (Or.inr (Or.inr (Or.inr (Or.inl ⟨rfl, rfl⟩))))⟩
    · exact ⟨281, 5, e, Or.inr (Or.inr (Or.inr (Or.inr (Or.inr ⟨rfl, rfl⟩))))⟩
  have hcw' : (nI c = 278 ∧ nI w = 0) ∨ (nI c = 272 ∧ nI w = 1) ∨ (nI c = 271 ∧ nI w = 2) ∨ (nI c = 279 ∧ nI w = 3) ∨ (nI c = 280 ∧ nI w = 4) ∨ (nI c = 281 ∧ nI w = 5) := by
    rcases hcw with ⟨rfl, rfl⟩ | ⟨rfl, rfl⟩ | ⟨rfl, rfl⟩ | ⟨rfl, rfl⟩ | ⟨rfl, rfl⟩ | ⟨rfl, rfl⟩
    · exact Or.inl ⟨rfl, rfl⟩
    · exact Or.inr (Or.inl ⟨rfl, rfl⟩)
    · exact Or.inr (Or.inr (Or.inl ⟨rfl, rfl⟩))
    · exact Or.inr (Or.inr (Or.inr (Or.inl ⟨rfl, rfl⟩)))
    · exact Or.inr (Or.inr (Or.inr (Or.inr (Or.inl ⟨rfl, rfl⟩))))
    · exact Or.inr (Or.inr (Or.inr (Or.inr (Or.inr ⟨rfl, rfl⟩))))
  have c1 : ∀ B M K, (B 136 3 = nI np ∧ B 136 4 = nI nb) → DC np nb n tk ps B i l t M → (∀ M24, P0 n tk ps M (i + 3) M24 → CAx (nI c) (nI v) M24 K) → T_X3_parseDay M K := by
    intro B M K hB h hK
    refine c0 B M K hB h (fun M2 h2 => a1 M M2 _ h2 (fun M' h' => ⟨fun z => absurd z nm, fun _ y34 g34 => ?_⟩))
    have g67 : T_X3_parseDay_67 (nI v) (nI (tk (i + 2))) M' K := by
      rw [T_X3_parseDay_67, hc]
      exact pstep hn h' hi2 hK
    rw [g34, h'.1.2.2.2.1]
    by_cases rg : 278 ≤ tk (i + 2) ∧ tk (i + 2) ≤ 281
    · rw [iw_pos (by rw [q1, q2']; exact rg)]
      exact ⟨fun z => absurd z (by decide), fun _ => g67⟩
    · rw [iw_neg (by rw [q1, q2']; exact rg), q272, q271]
      exact ⟨fun _ => ⟨fun _ => g67, fun z1 => ⟨fun _ => g67, fun z2 => absurd hact (by omega)⟩⟩, fun z => absurd rfl z⟩
  have nw : ¬ nI w = -1 := nI_m1 (by omega)
  have m2 : ∀ B M K, (B 159 6 = nI np ∧ B 159 7 = nI nb) → DM ch k n tk ps en B i l t M → (∀ M33, Q0 ch k n tk ps en (m_up (m_up M 180 (64 + 4 * l) (nI v)) 180 (64 + 4 * l + 1) (nI w)) (i + 3) M33 → EAx (nI w) (64 + 4 * l) M33 K) → T_X12_readDeed (64 + 4 * nI l) M K := by
    intro B M K hB h hK
    refine m1 B M K hB h (fun M23 h23 => kd_y h23.1.2.2.2.2 (by rw [hc]; exact hcw) ⟨fun z => absurd z nw, fun _ => qread hS h23 hi2 (fun M32 h32 => ?_)⟩)
    rw [e1, nI_clamp (n := 64 + 4 * l + 1) (by omega)]
    refine ⟨va 1 (by omega), fun M33 g33 => hK M33 ?_⟩
    rw [g33]
    exact h32.up
  have fr1 : ∀ (M : Mm), ∀ a j, ¬ dM a j → m_up (m_up M 180 (64 + 4 * l) (nI v)) 180 (64 + 4 * l + 1) (nI w) a j = M a j := fun M a j z => by rw [upd_d (by omega) a j z, upd_d (by omega) a j z]
  have e3 : ∀ {B M : Mm}, (B 136 3 = nI np ∧ B 136 4 = nI nb) → DC np nb n tk ps B i l t M → M 136 3 = nI np := fun hB h => by rw [h.2.2.2 136 3 (by unfold dC tC; omega)]; exact hB.1
  have e4 : ∀ {B M : Mm}, (B 136 3 = nI np ∧ B 136 4 = nI nb) → DC np nb n tk ps B i l t M → M 136 4 = nI nb := fun hB h => by rw [h.2.2.2 136 4 (by unfold dC tC; omega)]; exact hB.2
  have e6 : ∀ {B M : Mm}, (B 159 6 = nI np ∧ B 159 7 = nI nb) → DM ch k n tk ps en B i l t M → m_up (m_up M 180 (64 + 4 * l) (nI v)) 180 (64 + 4 * l + 1) (nI w) 159 6 = nI np := fun hB h => by rw [fr1 _ 159 6 (by unfold dM tM; omega), h.2.2 159 6 (by unfold dM tM; omega)]; exact hB.1
  have e7 : ∀ {B M : Mm}, (B 159 6 = nI np ∧ B 159 7 = nI nb) → DM ch k n tk ps en B i l t M → m_up (m_up M 180 (64 + 4 * l) (nI v)) 180 (64 + 4 * l + 1) (nI w) 159 7 = nI nb := fun hB h => by rw [fr1 _ 159 7 (by unfold dM tM; omega), h.2.2 159 7 (by unfold dM tM; omega)]; exact hB.2
  rcases apx hS (i := i + 3) (at0 := 64 + 4 * l) (by omega) (by omega) (by omega) hp hb hcw' with ⟨fk, p, b1, b2⟩ | ⟨i', ww, mm, q2, q3, bi, bw, bm, bR, b1, b2⟩
  · exact Or.inl ⟨fk, p, fun B M K hB h hK => c1 B M K hB h (fun M24 h24 => b1 M M24 K _ h24 (e3 hB h) (e4 hB h) (fun M' h' => hK M' (cf h h'))), fun B M K hB h hK => m2 B M K hB h (fun M33 h33 => b2 _ M33 K h33 (e6 hB h) (e7 hB h) (fun M' h' => hK M' (mf h (fr1 M) h')))⟩
  have tb3 := tkc_b (hS.c bi)
  have nww : ¬ nI ww = -1 := nI_m1 (by omega)
  have nmm : ¬ nI mm = -1 := nI_m1 (by omega)
  have c2 : ∀ B M K, (B 136 3 = nI np ∧ B 136 4 = nI nb) → DC np nb n tk ps B i l t M → (∀ M4, P0 n tk ps M i' M4 → T_X7_take 59 M4 (fun r5 M4 => (r5 = 0 → K 0 M4) ∧ (¬ r5 = 0 → T_X5_addDay 144 (nI v) (nI c) (nI ww) (nI mm) M4 (fun M8 => K 1 M8)))) → T_X3_parseDay M K := by
    intro B M K hB h hK
    refine c1 B M K hB h (fun M24 h24 => b1 M M24 K _ h24 (e3 hB h) (e4 hB h) (fun M' h' => ?_))
    rw [T_X3_parseDay_167]
    exact ⟨fun z => absurd z nww, fun _ => ⟨fun z => absurd z nmm, fun _ => hK M' h'⟩⟩
  have m3 : ∀ B M K, (B 159 6 = nI np ∧ B 159 7 = nI nb) → DM ch k n tk ps en B i l t M → (∀ M5, Q0 ch k n tk ps en (m_up (m_up (m_up (m_up M 180 (64 + 4 * l) (nI v)) 180 (64 + 4 * l + 1) (nI w)) 180 (64 + 4 * l + 2) (nI q2)) 180 (64 + 4 * l + 3) (nI q3)) i' M5 → T_X12_readMark 59 M5 (fun r M' => K r M')) → T_X12_readDeed (64 + 4 * nI l) M K := fun B M K hB h hK => m2 B M K hB h (fun M33 h33 => b2 _ M33 K h33 (e6 hB h) (e7 hB h) hK)
  have fr4' : ∀ (M : Mm), ∀ a j, ¬ dM a j → m_up (m_up (m_up (m_up M 180 (64 + 4 * l) (nI v)) 180 (64 + 4 * l + 1) (nI w)) 180 (64 + 4 * l + 2) (nI q2)) 180 (64 + 4 * l + 3) (nI q3) a j = M a j := fun M a j z => by rw [upd_d (by omega) a j z, upd_d (by omega) a j z, fr1 M a j z]
  by_cases e59 : tk i' = 59
  rotate_left
  · exact Or.inl ⟨1, ps i', fun B M K hB h hK => c2 B M K hB h (fun M18 h18 => pt_n (c := 59) hn h18 rfl tb3 (by omega) e59 (fun M3 h3 => ⟨fun _ => hK M3 (cf h h3), fun z => absurd rfl z⟩)), fun B M K hB h hK => m3 B M K hB h (fun M5 h5 => qm_n h5 e59 (fun M' h' => hK M' (mf h (fr4' M) (h'.d (fun _ _ _ => rfl)))))⟩
  have hi' : i' < n := hS.z bi (by omega)
  refine Or.inr ⟨i' + 1, tup t l (tnw v c ww mm w q2 q3), by omega, fun B M K hB h hK => c2 B M K hB h (fun M18 h18 => pt_y (c := 59) hn h18 hi' rfl e59 (fun M20 h20 => ⟨fun z => absurd z (by decide), fun _ => ?_⟩)), fun B M K hB h hK => m3 B M K hB h (fun M5 h5 => qm_y hS h5 hi' e59 (fun M' h' => hK M' ⟨h'.1, fun j hj => ?_, fun a j z => ?_⟩))⟩
  · obtain ⟨f1, f2, f3, f4⟩ := h
    have w8 : M20 144 8 = nI l := by rw [h20.2 144 8 (by unfold tC; omega)]; exact f2
    have v16 : vp_in (nI l) 16 := vp_in_nI (by omega) (by decide)
    rw [T_X5_addDay, w8, nI_clamp (n := l) (by omega), show rf 144 2 = 147 from by decide, show rf 144 3 = 148 from by decide, show rf 144 4 = 149 from by decide, show rf 144 5 = 150 from by decide]
    refine pk_le 16 l (fun z => absurd z (by omega)) (fun _ => ⟨v16, fun N2 g2 => ?_⟩)
    have w2 : N2 144 8 = nI l := by rw [g2, mu, if_neg (by omega)]; exact w8
    rw [w2, nI_clamp (n := l) (by omega)]
    refine ⟨v16, fun N4 g4 => ?_⟩
    have w4 : N4 144 8 = nI l := by rw [g4, mu, if_neg (by omega)]; exact w2
    rw [w4, nI_clamp (n := l) (by omega)]
    refine ⟨v16, fun N6 g6 => ?_⟩
    have w6 : N6 144 8 = nI l := by rw [g6, mu, if_neg (by omega)]; exact w4
    rw [w6, nI_clamp (n := l) (by omega)]
    refine ⟨v16, fun N8 g8 N10 g10 => hK N10 ?_⟩
    have w8' : N8 144 8 = nI l := by rw [g8, mu, if_neg (by omega)]; exact w6
    rw [w8', nI_1] at g10
    have E : ∀ a j, ¬ (a = 144 ∧ j = 8) → ¬ ((147 ≤ a ∧ a ≤ 150) ∧ j = l) → N10 a j = M20 a j := fun a j z1 z2 => by rw [g10, mu, if_neg z1, g8, mu, if_neg (by omega), g6, mu, if_neg (by omega), g4, mu, if_neg (by omega), g2, mu, if_neg (by omega)]
    refine ⟨h20.1.cg (fun j _ _ => E 132 j (by omega) (by omega)) (fun j => E 134 j (by omega) (by omega)) (fun j => E 135 j (by omega) (by omega)), by rw [g10, mu, if_pos ⟨rfl, rfl⟩], fun j hj => ?_, fun a j z => ?_⟩
    · by_cases cj : j = l
      · subst cj
        rw [tup_e]
        refine ⟨?_, bR⟩
        rw [g10, mu, if_neg (by omega), mu, if_neg (by omega), mu, if_neg (by omega), mu, if_neg (by omega), g8, mu, if_neg (by omega), mu, if_neg (by omega), mu, if_neg (by omega), mu, if_pos ⟨rfl, rfl⟩, g6, mu, if_neg (by omega), mu, if_neg (by omega), mu, if_pos ⟨rfl, rfl⟩, g4, mu, if_neg (by omega), mu, if_pos ⟨rfl, rfl⟩, g2, mu, if_pos ⟨rfl, rfl⟩]
        exact ⟨rfl, rfl, rfl, rfl⟩
      · rw [tup_n cj, E 147 j (by omega) (by omega), E 148 j (by omega) (by omega), E 149 j (by omega) (by omega), E 150 j (by omega) (by omega), h20.2 147 j (by unfold tC; omega), h20.2 148 j (by unfold tC; omega), h20.2 149 j (by unfold tC; omega), h20.2 150 j (by unfold tC; omega)]
        exact f3 j (by omega)
    · have z2 := z
      unfold dC at z2
      rw [E a j (by omega) (by omega), h20.2 a j (fun w => z (Or.inl w))]
      exact f4 a j z
  · have t180 : ∀ y, ¬ tM 180 y := fun y => by unfold tM; omega
    rw [h'.2 180 _ (t180 _), h'.2 180 _ (t180 _), h'.2 180 _ (t180 _), h'.2 180 _ (t180 _)]
    by_cases cj : j = l
    · subst cj
      rw [tup_e, mu, if_neg (by omega), mu, if_neg (by omega), mu, if_neg (by omega), mu, if_pos ⟨rfl, rfl⟩, mu, if_neg (by omega), mu, if_neg (by omega), mu, if_pos ⟨rfl, rfl⟩, mu, if_neg (by omega), mu, if_pos ⟨rfl, rfl⟩, mu, if_pos ⟨rfl, rfl⟩]
      exact ⟨rfl, rfl, rfl, rfl⟩
    · have far_v : ∀ d, d ≤ 3 → m_up (m_up (m_up (m_up M 180 (64 + 4 * l) (nI v)) 180 (64 + 4 * l + 1) (nI w)) 180 (64 + 4 * l + 2) (nI q2)) 180 (64 + 4 * l + 3) (nI q3) 180 (64 + 4 * j + d) = M 180 (64 + 4 * j + d) := fun d hd => by rw [mu, if_neg (by omega), mu, if_neg (by omega), mu, if_neg (by omega), mu, if_neg (by omega)]
      have f0 : m_up (m_up (m_up (m_up M 180 (64 + 4 * l) (nI v)) 180 (64 + 4 * l + 1) (nI w)) 180 (64 + 4 * l + 2) (nI q2)) 180 (64 + 4 * l + 3) (nI q3) 180 (64 + 4 * j) = M 180 (64 + 4 * j) := far_v 0 (by omega)
      rw [tup_n cj, f0, far_v 1 (by omega), far_v 2 (by omega), far_v 3 (by omega)]
      exact h.2.1 j (by omega)
  · rw [h'.2 a j (fun w => z (Or.inl w)), fr4' M a j z]
    exact h.2.2 a j z
