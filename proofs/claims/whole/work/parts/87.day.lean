theorem fX.up {o q_v c_v i : Nat} {X_v : Mm} {v : Int32} (h_v : q_v ≤ c_v ∧ c_v ≤ q_v + 6) : fX o q_v X_v (m_up X_v c_v i v) := fun a j w1_v _ _ _ _ => by rw [mu, if_neg (by omega)]
theorem fY.up {j : Nat} {Y : Mm} {v : Int32} : fY Y (m_up Y 160 j v) := fun a k w1_v _ _ _ _ => by rw [mu, if_neg (by omega)]
/-- the sides of_v one_v cell_v, where they are nothing_v -/
theorem csd_4 {N_v np nb q_v i : Nat} {v : Int32} (h_v : sm v 9999) : csd N_v np nb q_v (q_v + 4) i v := ⟨fun z_v => absurd z_v (by omega), fun z_v => absurd z_v (by omega), fun z_v => absurd z_v (by omega), fun _ => h_v, fun z_v => absurd z_v (by omega), fun z_v => absurd z_v (by omega), fun z_v => absurd z_v (by omega)⟩
theorem csd_3 {N_v np nb q_v i : Nat} {v : Int32} (h_v : i < np ∧ sm v 99) : csd N_v np nb q_v (q_v + 3) i v := ⟨fun z_v => absurd z_v (by omega), fun z_v => absurd z_v (by omega), fun _ => h_v, fun z_v => absurd z_v (by omega), fun z_v => absurd z_v (by omega), fun z_v => absurd z_v (by omega), fun z_v => absurd z_v (by omega)⟩
theorem csd_5 {N_v np nb q_v i : Nat} {v : Int32} (h_v : i < nb ∧ sm v (100 * N_v)) : csd N_v np nb q_v (q_v + 5) i v := ⟨fun z_v => absurd z_v (by omega), fun z_v => absurd z_v (by omega), fun z_v => absurd z_v (by omega), fun z_v => absurd z_v (by omega), fun _ => h_v, fun z_v => absurd z_v (by omega), fun z_v => absurd z_v (by omega)⟩
theorem csd_6 {N_v np nb q_v i : Nat} {v : Int32} (h_v : i < 8 * nb ∧ sm v N_v) : csd N_v np nb q_v (q_v + 6) i v := ⟨fun z_v => absurd z_v (by omega), fun z_v => absurd z_v (by omega), fun z_v => absurd z_v (by omega), fun z_v => absurd z_v (by omega), fun z_v => absurd z_v (by omega), fun _ => h_v, fun z_v => absurd z_v (by omega)⟩
theorem csd_0 {N_v np nb q_v i : Nat} {v : Int32} (h_v : (i = 12 → sm v 150) ∧ (i = 8 → sm v 99) ∧ (i = 9 → sm v 9)) : csd N_v np nb q_v q_v i v := ⟨fun z_v => absurd z_v (by omega), fun z_v => absurd z_v (by omega), fun z_v => absurd z_v (by omega), fun z_v => absurd z_v (by omega), fun z_v => absurd z_v (by omega), fun z_v => absurd z_v (by omega), fun _ => h_v⟩
theorem QR.up4 {N_v np nb q_v b : Nat} {X_v Y : Mm} {v : Int32} (h_v : QR N_v np nb q_v X_v Y) (hq : ¬ (q_v ≤ 15 ∧ 15 ≤ q_v + 6)) (hb_v : b < 8) (hv : sm v 9999) : QR N_v np nb q_v (m_up X_v (q_v + 4) b v) (m_up Y 160 (55 + b) v) := h_v.upd (Nat.le_refl _) hq (by unfold clp; omega) (fun z_v => absurd z_v (by omega)) (fun _ => rfl) (csd_4 hv)
theorem QR.up6 {N_v N' np nb q_v i : Nat} {X_v Y : Mm} {v : Int32} (h_v : QR N_v np nb q_v X_v Y) (hN_v : N_v ≤ N') (hq : ¬ (q_v ≤ 15 ∧ 15 ≤ q_v + 6)) (hi_v : i < 64) (hv : i < 8 * nb ∧ sm v N') : QR N' np nb q_v (m_up X_v (q_v + 6) i v) (m_up Y 160 (71 + i) v) := h_v.upd hN_v hq (by unfold clp; omega) (fun z_v => absurd z_v (by omega)) (fun _ => rfl) (csd_6 hv)
theorem QR.up0 {N_v np nb q_v i j : Nat} {X_v Y : Mm} {v : Int32} (h_v : QR N_v np nb q_v X_v Y) (hq : ¬ (q_v ≤ 15 ∧ 15 ≤ q_v + 6)) (hi_v : (i = 10 ∧ j = 0) ∨ (i = 6 ∧ j = 1) ∨ (i = 12 ∧ j = 2) ∨ (i = 7 ∧ j = 3) ∨ (i = 8 ∧ j = 4) ∨ (i = 9 ∧ j = 5) ∨ (i = 11 ∧ j = 6)) (hv : (i = 12 → sm v 150) ∧ (i = 8 → sm v 99) ∧ (i = 9 → sm v 9)) : QR N_v np nb q_v (m_up X_v q_v i v) (m_up Y 160 j v) := h_v.upd (Nat.le_refl _) hq (Or.inl ⟨rfl, hi_v⟩) (fun z_v => absurd z_v (by omega)) (fun _ => rfl) (csd_0 hv)
theorem lesserM_ok {x y_v : Int32} {M_v : Mm} {K_v : Int32 → Mm → Prop} (h_v : K_v (if x < y_v then x else y_v) M_v) : T_X12_lesser x y_v M_v K_v := by
  rw [T_X12_lesser]
  refine ⟨fun z_v => ?_, fun z_v => ?_⟩
  · rw [if_neg (Int32.not_lt.mpr z_v)] at h_v; exact h_v
  · rw [if_pos (Int32.not_le.mp z_v)] at h_v; exact h_v
theorem greaterM_ok {x y_v : Int32} {M_v : Mm} {K_v : Int32 → Mm → Prop} (h_v : K_v (if y_v < x then x else y_v) M_v) : T_X12_greater x y_v M_v K_v := by
  rw [T_X12_greater]
  refine ⟨fun z_v => ?_, fun z_v => ?_⟩
  · rw [if_neg (Int32.not_lt.mpr z_v)] at h_v; exact h_v
  · rw [if_pos (Int32.not_le.mp z_v)] at h_v; exact h_v
theorem min_sw (x y_v : Int32) : (if x < y_v then x else y_v) = (if y_v < x then y_v else x) := by
  simp only [lt_I]
  split <;> split <;> first | rfl | (exfalso; omega) | (apply Int32.toInt_inj.mp; omega)
theorem max_sw (x y_v : Int32) : (if x < y_v then y_v else x) = (if y_v < x then x else y_v) := by
  simp only [lt_I]
  split <;> split <;> first | rfl | (exfalso; omega) | (apply Int32.toInt_inj.mp; omega)
set_option maxHeartbeats 1000000 in
theorem pay_ok {N_v np nb o q_v b k : Nat} {X_v Y : Mm} (hS_v : ST o q_v np nb X_v Y) (h_v : QR N_v np nb q_v X_v Y) (hb_v : b < nb) (hk : k ≤ 999) : ∃ X' Y', VC (T_X0_payOut o (nI b) (nI k)) X_v X' ∧ VM (T_X12_paysMore (nI b) (nI k)) Y Y' ∧ QR N_v np nb q_v X' Y' ∧ fX o q_v X_v X' ∧ fY Y Y' := by
  obtain ⟨hA, ⟨⟨-, -, en, eb, hnp, hnb⟩, -⟩, -⟩ := id hS_v
  obtain ⟨r0, r1_v, -, -, r4, z0, z1, z2, z3, z4, z5⟩ := hA.rf
  have hl := hA.lt
  have q15_v := hA.nq.1
  obtain ⟨v55, c55⟩ := vp_nat (x := 55 + nI b) (k := 55 + b) (n := 135) (nI_add 55 b) (by omega) (by decide)
  have vb : vp_in (nI b) 8 := vp_in_nI (by omega) (by decide)
  have cb : (nI b).toNatClampNeg = b := nI_clamp (by omega)
  obtain ⟨u_v, hu, eu⟩ := h_v.2.1.1.1.2 b (by omega)
  have ep : Y 160 (55 + b) = X_v (q_v + 4) b := h_v.1.purse (by omega)
  have hv : sm (if X_v (q_v + 4) b + nI k < 9999 then X_v (q_v + 4) b + nI k else 9999) 9999 := by
    rw [eu, nI_add]
    by_cases c_v : u_v + k < 9999
    · have c1_v : nI (u_v + k) < (9999 : Int32) := nI_lt (b := 9999) c_v (by decide)
      rw [if_pos c1_v]; exact sm_nI (by omega)
    · have c1_v : ¬ nI (u_v + k) < (9999 : Int32) := nI_nlt (b := 9999) (by omega) (by omega)
      rw [if_neg c1_v]; exact ⟨9999, by omega, rfl⟩
  refine ⟨_, _, fun Z_v K_v k1_v => ?_, fun Z_v K_v k1_v => ?_, h_v.up4 (b := b) q15_v (by omega) hv, fX.up (by omega), fY.up⟩
  · rw [T_X0_payOut, r0, r4, z3, hb_pos rfl hb_v hnb (by rw [jl 1 (by omega)]; exact eb), cb, jl b (by omega)]
    refine ⟨fun z_v => absurd z_v (by decide), fun _ => ⟨vb, vb, fun M6_v e6_v => ?_⟩⟩
    rw [e6_v, jn_upl (by omega)]
    exact k1_v
  · rw [T_X12_paysMore, c55, jh (55 + b) (by omega), ep]
    refine ⟨v55, lesserM_ok ⟨v55, fun M5_v e5_v => ?_⟩⟩
    rw [e5_v, min_sw, jn_uph (by omega)]
    exact k1_v
theorem thn_0 {f_v : Nat → Int32} {b : Nat} : ∀ k, (∀ j, 1 ≤ j → j ≤ k → f_v (8 * b + j) = 0) → thn f_v b k = 0
  | 0, _ => rfl
  | k + 1, h_v => by rw [thn, thn_0 k (fun j h1 h2 => h_v j h1 (by omega)), h_v (k + 1) (by omega) (by omega)]; rfl
set_option maxHeartbeats 2000000 in
/-- one_v of_v his_v things is_v taken_v -/
theorem seize_ok {N_v np nb o q_v b : Nat} {X_v Y : Mm} (hS_v : ST o q_v np nb X_v Y) (h_v : QR N_v np nb q_v X_v Y) (hb_v : b < nb) (hN_v : N_v < 2 ^ 30) (ht : ¬ thn (X_v (q_v + 6)) b 7 ≤ 0) : ∃ X' Y', VC (T_X0_seize o (nI b)) X_v X' ∧ VM (T_X12_policeTake_63 5000 (nI b) 1) Y Y' ∧ QR N_v np nb q_v X' Y' ∧ fX o q_v X_v X' ∧ fY Y Y' := by
  obtain ⟨hA, ⟨⟨-, -, en, eb, hnp, hnb⟩, -⟩, -⟩ := id hS_v
  obtain ⟨r0, r1_v, -, -, r4, z0, z1, z2, z3, z4, z5⟩ := hA.rf
  have hl := hA.lt
  obtain ⟨q15_v, q21, q22, qo, q7_v, ho⟩ := hA.nq
  have ex_v : ∃ k, 1 ≤ k ∧ k ≤ 7 ∧ ¬ X_v (q_v + 6) (8 * b + k) = 0 := Classical.byContradiction fun hn => ht (by
    rw [thn_0 7 (fun j h1 h2 => Classical.byContradiction fun h3 => hn ⟨j, h1, h2, h3⟩)]
    decide)
  obtain ⟨κ, ⟨k1_v, k2_v, k3_v⟩, k4_v⟩ := pk_least _ ex_v
  obtain ⟨u_v, hu, eu⟩ := h_v.2.1.2.2.1 (8 * b + κ) (by omega)
  have hu1 : 1 ≤ u_v := by
    rcases Nat.eq_zero_or_pos u_v with z_v | z_v
    · rw [z_v] at eu; exact absurd eu k3_v
    · exact z_v
  have ehas : ∀ i, i < 64 → Y 160 (71 + i) = X_v (q_v + 6) i := fun i hi_v => h_v.1.2.2.2 i hi_v
  have h1 := h_v.up6 (i := 8 * b + κ) (v := X_v (q_v + 6) (8 * b + κ) - 1) (Nat.le_refl _) q15_v (by omega) ⟨by omega, by
    rw [eu, show (1 : Int32) = nI 1 from rfl, pk_sub hu1]
    exact sm_nI (by omega)⟩
  have h2 := h1.up0 (i := 11) (j := 6) (v := X_v q_v 11 + 1) q15_v (by omega) ⟨fun z_v => absurd z_v (by omega), fun z_v => absurd z_v (by omega), fun z_v => absurd z_v (by omega)⟩
  have fA : fX o q_v X_v (m_up (m_up X_v (q_v + 6) (8 * b + κ) (X_v (q_v + 6) (8 * b + κ) - 1)) q_v 11 (X_v q_v 11 + 1)) := fX.tr (fX.up (by omega)) (fX.up (by omega))
  have fB_v : fY Y (m_up (m_up Y 160 (71 + (8 * b + κ)) (X_v (q_v + 6) (8 * b + κ) - 1)) 160 6 (X_v q_v 11 + 1)) := fY.tr fY.up fY.up
  obtain ⟨X3, Y3, n1_v, n2_v, n3_v, n4_v, n5_v⟩ := note_ok 3 (nI b) (nI κ) (hS_v.fr fA fB_v) h2
  have y6 : Y 160 6 = X_v q_v 11 := h_v.1.1.2.2.2.2.2.2
  have L1 : ∀ (Z_v : Mm) (K_v : Mm → Prop), K_v (jn X3 Z_v) → ∀ m_v k f_v, k + m_v = κ → 1 ≤ k → m_v < f_v → T_X0_seize_2 o f_v (nI b) (nI k) (jn X_v Z_v) K_v := by
    intro Z_v K_v kk m_v
    induction m_v with
    | zero =>
      intro k f_v e_v hk hf
      have e_v : k = κ := by omega
      subst e_v
      obtain ⟨f_v, rfl⟩ : ∃ g_v, f_v = g_v + 1 := ⟨f_v - 1, by omega⟩
      have e1_v : nI b * 8 + nI k = nI (8 * b + k) := by
        rw [show (8 : Int32) = nI 8 from rfl, pk_mul, nI_add]
        congr 1; omega
      have v64 : vp_in (nI (8 * b + k)) 64 := vp_in_nI (by omega) (by decide)
      rw [T_X0_seize_2, r4, z5, e1_v, nI_clamp (n := 8 * b + k) (by omega), jl (8 * b + k) (by omega)]
      refine pk_lt 7 k (fun z_v => absurd z_v (by omega)) (fun _ => ⟨v64, fun z_v => ?_, fun _ => ⟨v64, v64, fun M6_v e6_v M8_v e8 => ?_⟩⟩)
      · rw [eu] at z_v
        exact absurd z_v (nI_nle hu1 (by omega))
      · have w_v : M6_v q_v 11 = X_v q_v 11 := by rw [e6_v, mu, if_neg (by omega), jl 11 (by omega)]
        rw [e8, w_v, e6_v, jn_upl (by omega), jn_upl (by omega)]
        exact n1_v Z_v _ kk
    | succ m_v ih_v =>
      intro k f_v e_v hk hf
      obtain ⟨f_v, rfl⟩ : ∃ g_v, f_v = g_v + 1 := ⟨f_v - 1, by omega⟩
      have e1_v : nI b * 8 + nI k = nI (8 * b + k) := by
        rw [show (8 : Int32) = nI 8 from rfl, pk_mul, nI_add]
        congr 1; omega
      have v64 : vp_in (nI (8 * b + k)) 64 := vp_in_nI (by omega) (by decide)
      have e0_v : X_v (q_v + 6) (8 * b + k) = 0 := Classical.byContradiction fun z_v => k4_v k (by omega) ⟨hk, by omega, z_v⟩
      rw [T_X0_seize_2, r4, z5, e1_v, nI_clamp (n := 8 * b + k) (by omega), jl (8 * b + k) (by omega), e0_v]
      refine pk_lt 7 k (fun z_v => absurd z_v (by omega)) (fun _ => ⟨v64, fun _ y4 e4_v => ?_, fun z_v => absurd (by decide) z_v⟩)
      rw [e4_v, nI_1]
      exact ih_v (k + 1) f_v (by omega) (by omega) (by omega)
  have L2_v : ∀ (Z_v : Mm) (K_v : Mm → Prop), K_v (jn Z_v Y3) → ∀ m_v k f_v, k + m_v = κ → 1 ≤ k → m_v < f_v → T_X12_policeTake_63 f_v (nI b) (nI k) (jn Z_v Y) K_v := by
    intro Z_v K_v kk m_v
    induction m_v with
    | zero =>
      intro k f_v e_v hk hf
      have e_v : k = κ := by omega
      subst e_v
      obtain ⟨f_v, rfl⟩ : ∃ g_v, f_v = g_v + 1 := ⟨f_v - 1, by omega⟩
      have e1_v : (71 : Int32) + 8 * nI b + nI k = nI (71 + (8 * b + k)) := by
        rw [show (71 : Int32) = nI 71 from rfl, show (8 : Int32) = nI 8 from rfl, pk_mul, nI_add, nI_add]
        congr 1; omega
      have v64 : vp_in (nI (71 + (8 * b + k))) 135 := vp_in_nI (by omega) (by decide)
      rw [T_X12_policeTake_63, T_X12_hasOf, e1_v, nI_clamp (n := 71 + (8 * b + k)) (by omega), jh (71 + (8 * b + k)) (by omega), ehas _ (by omega)]
      refine ⟨v64, fun z_v => absurd z_v k3_v, fun _ => ?_⟩
      rw [T_X12_hasMore, e1_v, nI_clamp (n := 71 + (8 * b + k)) (by omega), jh (71 + (8 * b + k)) (by omega), ehas _ (by omega)]
      refine ⟨v64, v64, fun M2_v e2_v M7_v e7_v => ?_⟩
      have w_v : M2_v 160 6 = X_v q_v 11 := by rw [e2_v, mu, if_neg (by omega), jh 6 (by omega)]; exact y6
      have s1_v : X_v (q_v + 6) (8 * b + k) + -1 = X_v (q_v + 6) (8 * b + k) - 1 := (Int32.sub_eq_add_neg _ _).symm
      rw [e7_v, w_v, e2_v, s1_v, jn_uph (by omega), jn_uph (by omega)]
      exact n2_v Z_v _ kk
    | succ m_v ih_v =>
      intro k f_v e_v hk hf
      obtain ⟨f_v, rfl⟩ : ∃ g_v, f_v = g_v + 1 := ⟨f_v - 1, by omega⟩
      have e1_v : (71 : Int32) + 8 * nI b + nI k = nI (71 + (8 * b + k)) := by
        rw [show (71 : Int32) = nI 71 from rfl, show (8 : Int32) = nI 8 from rfl, pk_mul, nI_add, nI_add]
        congr 1; omega
      have v64 : vp_in (nI (71 + (8 * b + k))) 135 := vp_in_nI (by omega) (by decide)
      have e0_v : X_v (q_v + 6) (8 * b + k) = 0 := Classical.byContradiction fun z_v => k4_v k (by omega) ⟨hk, by omega, z_v⟩
      rw [T_X12_policeTake_63, T_X12_hasOf, e1_v, nI_clamp (n := 71 + (8 * b + k)) (by omega), jh (71 + (8 * b + k)) (by omega), ehas _ (by omega), e0_v]
      refine ⟨v64, fun _ y4 e4_v => ?_, fun z_v => absurd rfl z_v⟩
      rw [e4_v, nI_1]
      exact ih_v (k + 1) f_v (by omega) (by omega) (by omega)
  refine ⟨X3, Y3, fun Z_v K_v k => ?_, fun Z_v K_v k => ?_, n3_v, fA.tr (fun a j w1_v w2_v w3_v w4_v w5 => n4_v a j w2_v (by omega)), fB_v.tr (fun a j w1_v w2_v w3_v w4_v w5 => n5_v a j w2_v (by omega))⟩
  · rw [T_X0_seize]
    exact L1 Z_v K_v k (κ - 1) 1 5000 (by omega) (by omega) (by omega)
  · exact L2_v Z_v K_v k (κ - 1) 1 5000 (by omega) (by omega) (by omega)
set_option maxHeartbeats 2000000 in
/-- the police take_v one_v thing_v of_v the richest -/
theorem raid_ok {N_v np nb o q_v : Nat} {X_v Y : Mm} (hS_v : ST o q_v np nb X_v Y) (h_v : QR N_v np nb q_v X_v Y) (hN_v : N_v < 2 ^ 30) : ∃ X' Y', VC (T_X0_raid o) X_v X' ∧ VM T_X12_policeTake Y Y' ∧ QR N_v np nb q_v X' Y' ∧ fX o q_v X_v X' ∧ fY Y Y' := by
  obtain ⟨hA, ⟨⟨-, g2, en, eb, hnp, hnb⟩, -, c3_v⟩, -⟩ := id hS_v
  obtain ⟨r0, r1_v, -, -, r4, z0, z1, z2, z3, z4, z5⟩ := hA.rf
  obtain ⟨-, -, -, -, s6_v, -⟩ := rf_st
  have hl := hA.lt
  have eY : Y 159 7 = nI nb := g2.trans eb
  have eth : ∀ b, b < 8 → thn (fun i => Y 160 (71 + i)) b 7 = thn (X_v (q_v + 6)) b 7 := fun b hb_v => thn_cg hb_v (fun i hi_v => h_v.1.2.2.2 i hi_v) 7 (by omega)
  have main_v : ∀ m_v b x1_v x2_v, b + m_v = nb → ((x1_v = -1 ∧ x2_v = 0) ∨ ∃ c_v, c_v < nb ∧ x1_v = nI c_v ∧ x2_v = thn (X_v (q_v + 6)) c_v 7 ∧ ¬ thn (X_v (q_v + 6)) c_v 7 ≤ 0) →
      ∃ X' Y', (∀ (Z_v : Mm) (K_v : Mm → Prop) (f_v : Nat), m_v < f_v → K_v (jn X' Z_v) → T_X0_raid_6 o f_v x1_v x2_v (nI b) (jn X_v Z_v) K_v) ∧ (∀ (Z_v : Mm) (K_v : Mm → Prop) (f_v : Nat), m_v < f_v → K_v (jn Z_v Y') → T_X12_policeTake_4 f_v x1_v (nI b) (jn Z_v Y) K_v) ∧ QR N_v np nb q_v X' Y' ∧ fX o q_v X_v X' ∧ fY Y Y' := by
    intro m_v
    induction m_v with
    | zero =>
      intro b x1_v x2_v hbm hx
      have e_v : b = nb := by omega
      subst e_v
      have fin_v : ∃ X' Y', (∀ (Z_v : Mm) (K_v : Mm → Prop), K_v (jn X' Z_v) → T_X0_raid_62 o x1_v (jn X_v Z_v) K_v) ∧ (∀ (Z_v : Mm) (K_v : Mm → Prop), K_v (jn Z_v Y') → (x1_v = -1 → K_v (jn Z_v Y)) ∧ (¬ x1_v = -1 → T_X12_policeTake_63 5000 x1_v 1 (jn Z_v Y) K_v)) ∧ QR N_v np b q_v X' Y' ∧ fX o q_v X_v X' ∧ fY Y Y' := by
        rcases hx with ⟨e1_v, e2_v⟩ | ⟨c_v, hc_v, e1_v, e2_v, e3_v⟩
        · refine ⟨X_v, Y, fun Z_v K_v k => ?_, fun Z_v K_v k => ⟨fun _ => k, fun z_v => absurd e1_v z_v⟩, h_v, fX.rf, fY.rf⟩
          rw [T_X0_raid_62]
          exact ⟨fun _ => k, fun z_v => absurd e1_v z_v⟩
        · obtain ⟨X', Y', s1_v, s2_v, s3_v⟩ := seize_ok hS_v h_v hc_v hN_v e3_v
          have n1_v : ¬ x1_v = -1 := by rw [e1_v]; exact nI_m1 (by omega)
          refine ⟨X', Y', fun Z_v K_v k => ?_, fun Z_v K_v k => ⟨fun z_v => absurd z_v n1_v, fun _ => ?_⟩, s3_v⟩
          · rw [T_X0_raid_62, e1_v]
            rw [e1_v] at n1_v
            exact ⟨fun z_v => absurd z_v n1_v, fun _ => s1_v Z_v _ k⟩
          · rw [e1_v]
            exact s2_v Z_v K_v k
      obtain ⟨X', Y', i1_v, i2_v, i3_v⟩ := fin_v
      refine ⟨X', Y', fun Z_v K_v f_v hf k => ?_, fun Z_v K_v f_v hf k => ?_, i3_v⟩
      · obtain ⟨f_v, rfl⟩ : ∃ g_v, f_v = g_v + 1 := ⟨f_v - 1, by omega⟩
        have e2_v : jn X_v Z_v 2 1 = nI b := by rw [jl 1 (by omega)]; exact eb
        rw [T_X0_raid_6, r0, e2_v]
        exact pk_le b b (fun _ => i1_v Z_v K_v k) (fun z_v => absurd z_v (by omega))
      · obtain ⟨f_v, rfl⟩ : ∃ g_v, f_v = g_v + 1 := ⟨f_v - 1, by omega⟩
        have e2_v : jn Z_v Y 159 7 = nI b := by rw [jh 7 (by omega)]; exact eY
        rw [T_X12_policeTake_4, e2_v]
        exact pk_le b b (fun _ => i2_v Z_v K_v k) (fun z_v => absurd z_v (by omega))
    | succ m_v ih_v =>
      intro b x1_v x2_v hbm hx
      have hb_v : b < nb := by omega
      have cb : (nI b).toNatClampNeg = b := nI_clamp (by omega)
      have vb : vp_in (nI b) 8 := vp_in_nI (by omega) (by decide)
      have esh : Y 167 b = X_v 7 b := (c3_v b (by omega)).2.1
      -- both_v roads_v
      have cS_v : ∀ (Z_v : Mm) (K_v : Mm → Prop) (f_v : Nat), (X_v 7 b = 0 → (thn (X_v (q_v + 6)) b 7 ≤ x2_v → T_X0_raid_6 o f_v x1_v x2_v (nI (b + 1)) (jn X_v Z_v) K_v) ∧ (¬ thn (X_v (q_v + 6)) b 7 ≤ x2_v → T_X0_raid_6 o f_v (nI b) (thn (X_v (q_v + 6)) b 7) (nI (b + 1)) (jn X_v Z_v) K_v)) → (¬ X_v 7 b = 0 → T_X0_raid_6 o f_v x1_v x2_v (nI (b + 1)) (jn X_v Z_v) K_v) → T_X0_raid_6 o (f_v + 1) x1_v x2_v (nI b) (jn X_v Z_v) K_v := by
        intro Z_v K_v f_v k1_v k2_v
        have e2_v : jn X_v Z_v 2 1 = nI nb := by rw [jl 1 (by omega)]; exact eb
        rw [T_X0_raid_6, r0, r4, s6_v, e2_v, cb]
        refine pk_le nb b (fun z_v => absurd z_v (by omega)) (fun _ => pk_le 8 b (fun z_v => absurd z_v (by omega)) (fun _ => ?_))
        refine things_ok (by omega) ⟨vb, ?_⟩
        rw [z5, jn_lo (a := q_v + 6) (by omega), jl (a := 7) b (by omega)]
        simp only [T_X0_raid_56, forall_eq, nI_1]
        exact ⟨k1_v, k2_v⟩
      have mS : ∀ (Z_v : Mm) (K_v : Mm → Prop) (f_v : Nat), (X_v 7 b = 0 → (thn (X_v (q_v + 6)) b 7 ≤ 0 → T_X12_policeTake_4 f_v x1_v (nI (b + 1)) (jn Z_v Y) K_v) ∧ (¬ thn (X_v (q_v + 6)) b 7 ≤ 0 → (x1_v = -1 → T_X12_policeTake_4 f_v (nI b) (nI (b + 1)) (jn Z_v Y) K_v) ∧ (¬ x1_v = -1 → T_X12_thingsOf (nI b) (jn Z_v Y) (fun r23 M22 => T_X12_thingsOf x1_v M22 (fun r26 M25 => (r23 ≤ r26 → T_X12_policeTake_4 f_v x1_v (nI (b + 1)) M25 K_v) ∧ (¬ r23 ≤ r26 → T_X12_policeTake_4 f_v (nI b) (nI (b + 1)) M25 K_v)))))) → (¬ X_v 7 b = 0 → T_X12_policeTake_4 f_v x1_v (nI (b + 1)) (jn Z_v Y) K_v) → T_X12_policeTake_4 (f_v + 1) x1_v (nI b) (jn Z_v Y) K_v := by
        intro Z_v K_v f_v k1_v k2_v
        have e2_v : jn Z_v Y 159 7 = nI nb := by rw [jh 7 (by omega)]; exact eY
        rw [T_X12_policeTake_4, e2_v, cb, jh b (by omega), esh]
        simp only [T_X12_policeTake_47, T_X12_policeTake_49, forall_eq, nI_1]
        refine pk_le nb b (fun z_v => absurd z_v (by omega)) (fun _ => ⟨vb, fun z_v => ?_, k2_v⟩)
        refine thingsM_ok (by omega) ?_
        have e3_v : thn (fun i => jn Z_v Y 160 (71 + i)) b 7 = thn (X_v (q_v + 6)) b 7 := by
          rw [← eth b (by omega)]
          exact thn_cg (by omega) (fun i _ => jh _ (by omega)) 7 (by omega)
        rw [e3_v]
        exact k1_v z_v
      have th2 : ∀ (Z_v : Mm) (K_v : Int32 → Mm → Prop) (c_v : Nat), c_v < 8 → K_v (thn (X_v (q_v + 6)) c_v 7) (jn Z_v Y) → T_X12_thingsOf (nI c_v) (jn Z_v Y) K_v := by
        intro Z_v K_v c_v hc_v k
        refine thingsM_ok hc_v ?_
        have e3_v : thn (fun i => jn Z_v Y 160 (71 + i)) c_v 7 = thn (X_v (q_v + 6)) c_v 7 := by
          rw [← eth c_v hc_v]
          exact thn_cg hc_v (fun i _ => jh _ (by omega)) 7 (by omega)
        rw [e3_v]
        exact k
      by_cases cs : X_v 7 b = 0 ∧ ¬ thn (X_v (q_v + 6)) b 7 ≤ x2_v
      · obtain ⟨s1_v, s2_v⟩ := cs
        have s3_v : ¬ thn (X_v (q_v + 6)) b 7 ≤ 0 := by
          rcases hx with ⟨-, e2_v⟩ | ⟨c_v, hc_v, e1_v, e2_v, e3_v⟩
          · rw [e2_v] at s2_v; exact s2_v
          · rw [e2_v] at s2_v
            simp only [le_I] at s2_v e3_v ⊢
            omega
        obtain ⟨X', Y', i1_v, i2_v, i3_v⟩ := ih_v (b + 1) (nI b) (thn (X_v (q_v + 6)) b 7) (by omega) (Or.inr ⟨b, hb_v, rfl, rfl, s3_v⟩)
        refine ⟨X', Y', fun Z_v K_v f_v hf k => ?_, fun Z_v K_v f_v hf k => ?_, i3_v⟩
        · obtain ⟨f_v, rfl⟩ : ∃ g_v, f_v = g_v + 1 := ⟨f_v - 1, by omega⟩
          exact cS_v Z_v K_v f_v (fun _ => ⟨fun z_v => absurd z_v s2_v, fun _ => i1_v Z_v K_v f_v (by omega) k⟩) (fun z_v => absurd s1_v z_v)
        · obtain ⟨f_v, rfl⟩ : ∃ g_v, f_v = g_v + 1 := ⟨f_v - 1, by omega⟩
          refine mS Z_v K_v f_v (fun _ => ⟨fun z_v => absurd z_v s3_v, fun _ => ⟨fun _ => i2_v Z_v K_v f_v (by omega) k, fun nx => ?_⟩⟩) (fun z_v => absurd s1_v z_v)
          rcases hx with ⟨e1_v, -⟩ | ⟨c_v, hc_v, e1_v, e2_v, e3_v⟩
          · exact absurd e1_v nx
          · rw [e1_v]
            refine th2 Z_v _ b (by omega) (th2 Z_v _ c_v (by omega) ?_)
            rw [e2_v] at s2_v
            exact ⟨fun z_v => absurd z_v s2_v, fun _ => i2_v Z_v K_v f_v (by omega) k⟩
      · obtain ⟨X', Y', i1_v, i2_v, i3_v⟩ := ih_v (b + 1) x1_v x2_v (by omega) hx
        refine ⟨X', Y', fun Z_v K_v f_v hf k => ?_, fun Z_v K_v f_v hf k => ?_, i3_v⟩
        · obtain ⟨f_v, rfl⟩ : ∃ g_v, f_v = g_v + 1 := ⟨f_v - 1, by omega⟩
          exact cS_v Z_v K_v f_v (fun z_v => ⟨fun _ => i1_v Z_v K_v f_v (by omega) k, fun w_v => absurd ⟨z_v, w_v⟩ cs⟩) (fun _ => i1_v Z_v K_v f_v (by omega) k)
        · obtain ⟨f_v, rfl⟩ : ∃ g_v, f_v = g_v + 1 := ⟨f_v - 1, by omega⟩
          refine mS Z_v K_v f_v (fun z_v => ⟨fun _ => i2_v Z_v K_v f_v (by omega) k, fun w_v => ⟨fun e1_v => ?_, fun nx => ?_⟩⟩) (fun _ => i2_v Z_v K_v f_v (by omega) k)
          · rcases hx with ⟨-, e2_v⟩ | ⟨c_v, hc_v, e1', e2_v, e3_v⟩
            · rw [e2_v] at cs; exact absurd ⟨z_v, w_v⟩ cs
            · exact absurd (e1'.symm.trans e1_v) (nI_m1 (by omega))
          · rcases hx with ⟨e1_v, -⟩ | ⟨c_v, hc_v, e1_v, e2_v, e3_v⟩
            · exact absurd e1_v nx
            · have i2' := i2_v Z_v K_v f_v (by omega) k
              rw [e1_v] at i2' ⊢
              refine th2 Z_v _ b (by omega) (th2 Z_v _ c_v (by omega) ⟨fun _ => i2', fun w2_v => ?_⟩)
              rw [e2_v] at cs
              exact absurd ⟨z_v, w2_v⟩ cs
  obtain ⟨X', Y', i1_v, i2_v, i3_v⟩ := main_v nb 0 (-1) 0 (by omega) (Or.inl ⟨rfl, rfl⟩)
  refine ⟨X', Y', fun Z_v K_v k => ?_, fun Z_v K_v k => ?_, i3_v⟩
  · rw [T_X0_raid]
    exact i1_v Z_v K_v 5000 (by omega) k
  · rw [T_X12_policeTake]
    exact i2_v Z_v K_v 5000 (by omega) k
theorem dz_30 {x1_v x2_v x3 : Int32} {M_v : Mm} {K_v : Int32 → Mm → Prop} (h_v : ¬ x2_v = 2) (k : T_X12_does_42 x1_v x2_v x3 M_v K_v) : T_X12_does_30 x1_v x2_v x3 M_v K_v := by
  rw [T_X12_does_30]; exact ⟨fun z_v => absurd z_v h_v, fun _ => k⟩
theorem dz_42 {x1_v x2_v x3 : Int32} {M_v : Mm} {K_v : Int32 → Mm → Prop} (h_v : ¬ x2_v = 3) (k : T_X12_does_51 x1_v x2_v x3 M_v K_v) : T_X12_does_42 x1_v x2_v x3 M_v K_v := by
  rw [T_X12_does_42]; exact ⟨fun z_v => absurd z_v h_v, fun _ => k⟩
theorem dz_51 {x1_v x2_v x3 : Int32} {M_v : Mm} {K_v : Int32 → Mm → Prop} (h_v : ¬ x2_v = 4) (k : T_X12_does_85 x1_v x2_v x3 M_v K_v) : T_X12_does_51 x1_v x2_v x3 M_v K_v := by
  rw [T_X12_does_51]; exact ⟨fun z_v => absurd z_v h_v, fun _ => k⟩
theorem dz_85 {x1_v x2_v x3 : Int32} {M_v : Mm} {K_v : Int32 → Mm → Prop} (h_v : ¬ x2_v = 5) (k : T_X12_does_103 x2_v x3 M_v K_v) : T_X12_does_85 x1_v x2_v x3 M_v K_v := by
  rw [T_X12_does_85]; exact ⟨fun z_v => absurd z_v h_v, fun _ => k⟩
theorem dz_103 {x2_v x3 : Int32} {M_v : Mm} {K_v : Int32 → Mm → Prop} (h_v : ¬ x2_v = 0) (k : K_v 0 M_v) : T_X12_does_103 x2_v x3 M_v K_v := by
  rw [T_X12_does_103]; exact ⟨fun z_v => absurd z_v h_v, fun _ => k⟩
theorem does_in {i : Nat} {Y Z_v : Mm} {K_v : Int32 → Mm → Prop} {w_v n : Int32} (hi_v : i < 16) (ew : Y 180 (4 * i + 1) = w_v) (en : Y 180 (4 * i + 2) = n) (k1_v : w_v = 1 → T_X12_does_30 (nI (4 * i)) w_v n (jn Z_v (m_up Y 160 5 n)) K_v) (k2_v : ¬ w_v = 1 → T_X12_does_30 (nI (4 * i)) w_v n (jn Z_v Y) K_v) : T_X12_does (nI (4 * i)) (jn Z_v Y) K_v := by
  have e1_v : nI (4 * i) + 1 = nI (4 * i + 1) := nI_1 _
  have e2_v : nI (4 * i) + 2 = nI (4 * i + 2) := nI_add _ 2
  rw [T_X12_does, e1_v, e2_v, nI_clamp (n := 4 * i + 1) (by omega), nI_clamp (n := 4 * i + 2) (by omega), jh _ (by omega), jh _ (by omega), ew, en]
  refine ⟨vp_in_nI (by omega) (by decide), fun y24 f24 => ⟨vp_in_nI (by omega) (by decide), fun y26_v f26 => ?_⟩⟩
  subst f24 f26
  refine ⟨fun z_v M28 e28_v => ?_, k2_v⟩
  rw [e28_v, jn_uph (by omega)]
  exact k1_v z_v
set_option maxHeartbeats 4000000 in
/-- a line of_v the week on_v its day -/
theorem line_ok {N_v np nb o q_v i : Nat} {X_v Y : Mm} (hS_v : ST o q_v np nb X_v Y) (h_v : QR N_v np nb q_v X_v Y) (hN_v : N_v < 1000000) (hi_v : i < 16) (hw : nI i < X_v 23 8) :
    ∃ (s_v : Bool) (r_v : Int32) (X' Y' : Mm), (∀ (Z_v : Mm) (KN KY : Mm → Prop), (s_v = false → KN (jn X' Z_v)) → (s_v = true → KY (jn X' Z_v)) → ((X_v 27 i = 278 → T_X0_sellOff o (X_v 28 i) (jn X_v Z_v) (fun r14 M13 => (r14 = 0 → KN M13) ∧ (¬ r14 = 0 → KY M13))) ∧ (¬ X_v 27 i = 278 → T_X0_change o (X_v 27 i) (X_v 28 i) (X_v 29 i) (jn X_v Z_v) (fun M20 => KN M20)))) ∧
      OM (T_X12_does (nI (4 * i))) Y r_v Y' ∧ ((s_v = false ∧ r_v = 0) ∨ (s_v = true ∧ ¬ r_v = 0)) ∧ QR (N_v + 1) np nb q_v X' Y' ∧ fX o q_v X_v X' ∧ fY Y Y' := by
  obtain ⟨hA, ⟨⟨-, g2, en, eb, hnp, hnb⟩, -, c3_v⟩, -, hP, -⟩ := id hS_v
  obtain ⟨r0, r1_v, -, -, r4, z0, z1, z2, z3, z4, z5⟩ := hA.rf
  have hl := hA.lt
  obtain ⟨q15_v, q21, q22, qo, q7_v, ho⟩ := hA.nq
  have hact : actR np nb (X_v 27 i) (X_v 28 i) (X_v 29 i) (Y 180 (4 * i + 1)) (Y 180 (4 * i + 2)) (Y 180 (4 * i + 3)) := (hP.2.2.2.2 i hi_v hw).2
  have hsold : ∀ p_v, p_v < 16 → (Y 160 (7 + p_v) = 0 ↔ X_v (q_v + 1) p_v = -1) := fun p_v hp => by
    rw [(h_v.1.2.1 p_v hp).1]; exact p1_0 _
  have ne0 : ∀ {a b : Int32}, a = b → ∀ c_v : Int32, ¬ b = c_v → ¬ a = c_v := fun e_v c_v hc_v z_v => hc_v (e_v.symm.trans z_v)
  rcases hact with ⟨a1_v, a2, a3, a4, p_v, hp, ep⟩ | ⟨a1_v, a2, a3, a4, a5⟩ | ⟨a1_v, a2, a3, a4, a5⟩ | ⟨a1_v, a2, a3, a4⟩ | ⟨a1_v, a2, a3, a4, ⟨p_v, hp, ep⟩, a5⟩ | ⟨a1_v, a2, a3, a4, ⟨b, hb_v, ep⟩, ⟨k, hk, ek⟩⟩
  · -- sell
    have cp_v : (nI p_v).toNatClampNeg = p_v := nI_clamp (by omega)
    have vp : vp_in (nI p_v) 16 := vp_in_nI (by omega) (by decide)
    obtain ⟨v7, c7_v⟩ := vp_nat (x := 7 + nI p_v) (k := 7 + p_v) (n := 135) (nI_add 7 p_v) (by omega) (by decide)
    have md : ∀ (Z_v : Mm) (K_v : Int32 → Mm → Prop), T_X12_does_103 0 (nI p_v) (jn Z_v Y) K_v → T_X12_does (nI (4 * i)) (jn Z_v Y) K_v := fun Z_v K_v k => does_in hi_v a2 (a3.trans ep) (fun z_v => absurd z_v (by decide)) (fun _ => dz_30 (by decide) (dz_42 (by decide) (dz_51 (by decide) (dz_85 (by decide) k))))
    by_cases cu : X_v (q_v + 1) p_v = -1
    · obtain ⟨r1', r2', X', Y', i1_v, i2_v, i3_v, i4_v, i5_v, i6_v, i7_v⟩ := sale_ok hS_v h_v hp hN_v cu
      have cu' := (hsold p_v (by omega)).mpr cu
      rcases i7_v with ⟨f1_v, f2_v⟩ | ⟨f1_v, f2_v⟩
      · refine ⟨false, 0, X', Y', fun Z_v KN KY k1_v _ => ⟨fun _ => ?_, fun z_v => absurd a1_v z_v⟩, fun Z_v K_v k => md Z_v K_v ?_, Or.inl ⟨rfl, rfl⟩, i3_v, i4_v, i5_v⟩
        · rw [ep]
          exact i1_v Z_v _ ⟨fun _ => k1_v rfl, fun z_v => absurd f1_v z_v⟩
        · rw [T_X12_does_103, c7_v, jh _ (by omega)]
          exact ⟨fun _ => ⟨v7, fun _ => i2_v Z_v _ ⟨fun _ => k, fun z_v => absurd f2_v z_v⟩, fun z_v => absurd cu' z_v⟩, fun z_v => absurd rfl z_v⟩
      · refine ⟨true, 1, X', Y', fun Z_v KN KY _ k2_v => ⟨fun _ => ?_, fun z_v => absurd a1_v z_v⟩, fun Z_v K_v k => md Z_v K_v ?_, Or.inr ⟨rfl, by decide⟩, i3_v, i4_v, i5_v⟩
        · rw [ep]
          exact i1_v Z_v _ ⟨fun z_v => absurd (f1_v.symm.trans z_v) (by decide), fun _ => k2_v rfl⟩
        · rw [T_X12_does_103, c7_v, jh _ (by omega)]
          exact ⟨fun _ => ⟨v7, fun _ => i2_v Z_v _ ⟨fun z_v => absurd z_v f2_v, fun _ => k⟩, fun z_v => absurd cu' z_v⟩, fun z_v => absurd rfl z_v⟩
    · have cu' : ¬ Y 160 (7 + p_v) = 0 := fun z_v => cu ((hsold p_v (by omega)).mp z_v)
      refine ⟨false, 0, X_v, Y, fun Z_v KN KY k1_v _ => ⟨fun _ => ?_, fun z_v => absurd a1_v z_v⟩, fun Z_v K_v k => md Z_v K_v ?_, Or.inl ⟨rfl, rfl⟩, h_v.mono (by omega), fX.rf, fY.rf⟩
      · rw [ep, T_X0_sellOff, T_X0_canSell, r0, r4, z0, hp_pos rfl hp hnp (by rw [jl 0 (by omega)]; exact en), cp_v, jl p_v (by omega)]
        exact ⟨fun z_v => absurd z_v (by decide), fun _ => ⟨vp, fun z_v => absurd z_v cu, fun _ => ⟨fun _ => ⟨fun _ => k1_v rfl, fun z_v => absurd rfl z_v⟩, fun z_v => absurd rfl z_v⟩⟩⟩
      · rw [T_X12_does_103, c7_v, jh _ (by omega)]
        exact ⟨fun _ => ⟨v7, fun z_v => absurd z_v cu', fun _ => k⟩, fun z_v => absurd rfl z_v⟩
  · -- wet
    have h2 := (h_v.mono (N' := N_v + 1) (by omega)).up0 (i := 9) (j := 5) (v := X_v 29 i) q15_v (by omega) ⟨fun z_v => absurd z_v (by omega), fun z_v => absurd z_v (by omega), fun _ => a5⟩
    refine ⟨false, 0, _, _, fun Z_v KN KY k1_v _ => ⟨fun z_v => absurd (a1_v.symm.trans z_v) (by decide), fun _ => ?_⟩, fun Z_v K_v k => does_in hi_v a2 a3 (fun _ => dz_30 (by decide) (dz_42 (by decide) (dz_51 (by decide) (dz_85 (by decide) (dz_103 (by decide) k))))) (fun z_v => absurd rfl z_v), Or.inl ⟨rfl, rfl⟩, h2, fX.up (by omega), fY.up⟩
    rw [a1_v, T_X0_change, r4]
    refine ⟨fun z_v => absurd z_v (by decide), fun _ => ⟨fun _ M6_v e6_v => ?_, fun z_v => absurd rfl z_v⟩⟩
    rw [e6_v, jn_upl (by omega)]
    exact k1_v rfl
  · -- crowd_v
    have h2 := (h_v.mono (N' := N_v + 1) (by omega)).up0 (i := 8) (j := 4) (v := X_v 29 i) q15_v (by omega) ⟨fun z_v => absurd z_v (by omega), fun _ => a5, fun z_v => absurd z_v (by omega)⟩
    refine ⟨false, 0, _, _, fun Z_v KN KY k1_v _ => ⟨fun z_v => absurd (a1_v.symm.trans z_v) (by decide), fun _ => ?_⟩, fun Z_v K_v k => does_in hi_v a2 a3 (fun z_v => absurd z_v (by decide)) (fun _ => ?_), Or.inl ⟨rfl, rfl⟩, h2, fX.up (by omega), fY.up⟩
    · rw [a1_v, T_X0_change, r4]
      refine ⟨fun _ M6_v e6_v => ?_, fun z_v => absurd rfl z_v⟩
      rw [e6_v, jn_upl (by omega)]
      exact k1_v rfl
    · rw [T_X12_does_30]
      refine ⟨fun _ M22 e22_v => ?_, fun z_v => absurd rfl z_v⟩
      rw [e22_v, jn_uph (by omega)]
      exact dz_42 (by decide) (dz_51 (by decide) (dz_85 (by decide) (dz_103 (by decide) k)))
  · -- the police
    obtain ⟨X', Y', i1_v, i2_v, i3_v, i4_v, i5_v⟩ := raid_ok hS_v h_v (by omega)
    refine ⟨false, 0, X', Y', fun Z_v KN KY k1_v _ => ⟨fun z_v => absurd (a1_v.symm.trans z_v) (by decide), fun _ => ?_⟩, fun Z_v K_v k => does_in hi_v a2 a3 (fun z_v => absurd z_v (by decide)) (fun _ => dz_30 (by decide) ?_), Or.inl ⟨rfl, rfl⟩, i3_v.mono (by omega), i4_v, i5_v⟩
    · rw [a1_v, T_X0_change]
      exact ⟨fun z_v => absurd z_v (by decide), fun _ => ⟨fun z_v => absurd z_v (by decide), fun _ => ⟨fun _ => i1_v Z_v _ (k1_v rfl), fun z_v => absurd rfl z_v⟩⟩⟩
    · rw [T_X12_does_42]
      exact ⟨fun _ => i2_v Z_v _ (dz_51 (by decide) (dz_85 (by decide) (dz_103 (by decide) k))), fun z_v => absurd rfl z_v⟩
  · -- a bill
    have cp_v : (nI p_v).toNatClampNeg = p_v := nI_clamp (by omega)
    have vp : vp_in (nI p_v) 16 := vp_in_nI (by omega) (by decide)
    obtain ⟨v7, c7_v⟩ := vp_nat (x := 7 + nI p_v) (k := 7 + p_v) (n := 135) (nI_add 7 p_v) (by omega) (by decide)
    obtain ⟨v39, c39_v⟩ := vp_nat (x := 39 + nI p_v) (k := 39 + p_v) (n := 135) (nI_add 39 p_v) (by omega) (by decide)
    have e3_v : nI (4 * i) + 3 = nI (4 * i + 3) := nI_add _ 3
    have c0_v : ∀ (Z_v : Mm) (K_v : Mm → Prop), T_X0_canSell o (nI p_v) (jn X_v Z_v) (fun r13 M12 => ((r13 = 0 → (K_v M12)) ∧ (¬ r13 = 0 → (vp_in (nI p_v) 16 ∧ (∀ M15 : Mm, M15 = m_up M12 (q_v + 3) p_v (X_v 29 i) → (K_v M15)))))) → T_X0_change o (X_v 27 i) (X_v 28 i) (X_v 29 i) (jn X_v Z_v) K_v := by
      intro Z_v K_v k
      rw [a1_v, ep, T_X0_change, r4, z2, cp_v]
      exact ⟨fun z_v => absurd z_v (by decide), fun _ => ⟨fun z_v => absurd z_v (by decide), fun _ => ⟨fun z_v => absurd z_v (by decide), fun _ => ⟨fun _ => k, fun z_v => absurd rfl z_v⟩⟩⟩⟩
    by_cases cu : X_v (q_v + 1) p_v = -1
    · have cu' := (hsold p_v (by omega)).mpr cu
      have h2 : QR (N_v + 1) np nb q_v (m_up X_v (q_v + 3) p_v (X_v 29 i)) (m_up Y 160 (39 + p_v) (X_v 29 i)) := h_v.upd (by omega) q15_v (by unfold clp; omega) (fun z_v => absurd z_v (by omega)) (fun _ => rfl) (csd_3 ⟨hp, a5⟩)
      refine ⟨false, 0, _, _, fun Z_v KN KY k1_v _ => ⟨fun z_v => absurd (a1_v.symm.trans z_v) (by decide), fun _ => c0_v Z_v _ ?_⟩, fun Z_v K_v k => does_in hi_v a2 (a3.trans ep) (fun z_v => absurd z_v (by decide)) (fun _ => dz_30 (by decide) (dz_42 (by decide) ?_)), Or.inl ⟨rfl, rfl⟩, h2, fX.up (by omega), fY.up⟩
      · rw [T_X0_canSell, r0, r4, z0, hp_pos rfl hp hnp (by rw [jl 0 (by omega)]; exact en), cp_v, jl p_v (by omega)]
        refine ⟨fun z_v => absurd z_v (by decide), fun _ => ⟨vp, fun _ => ⟨fun z_v => absurd z_v (by decide), fun _ => ⟨vp, fun M15 e15_v => ?_⟩⟩, fun z_v => absurd cu z_v⟩⟩
        rw [e15_v, jn_upl (by omega)]
        exact k1_v rfl
      · rw [T_X12_does_51, c7_v, c39_v, e3_v, nI_clamp (n := 4 * i + 3) (by omega), jh _ (by omega), jh _ (by omega), a4]
        refine ⟨fun _ => ⟨v7, fun _ => ⟨vp_in_nI (by omega) (by decide), v39, fun M16 e16_v => ?_⟩, fun z_v => absurd cu' z_v⟩, fun z_v => absurd rfl z_v⟩
        rw [e16_v, jn_uph (by omega)]
        exact dz_85 (by decide) (dz_103 (by decide) k)
    · have cu' : ¬ Y 160 (7 + p_v) = 0 := fun z_v => cu ((hsold p_v (by omega)).mp z_v)
      refine ⟨false, 0, X_v, Y, fun Z_v KN KY k1_v _ => ⟨fun z_v => absurd (a1_v.symm.trans z_v) (by decide), fun _ => c0_v Z_v _ ?_⟩, fun Z_v K_v k => does_in hi_v a2 (a3.trans ep) (fun z_v => absurd z_v (by decide)) (fun _ => dz_30 (by decide) (dz_42 (by decide) ?_)), Or.inl ⟨rfl, rfl⟩, h_v.mono (by omega), fX.rf, fY.rf⟩
      · rw [T_X0_canSell, r0, r4, z0, hp_pos rfl hp hnp (by rw [jl 0 (by omega)]; exact en), cp_v, jl p_v (by omega)]
        exact ⟨fun z_v => absurd z_v (by decide), fun _ => ⟨vp, fun z_v => absurd z_v cu, fun _ => ⟨fun _ => k1_v rfl, fun z_v => absurd rfl z_v⟩⟩⟩
      · rw [T_X12_does_51, c7_v, jh _ (by omega)]
        exact ⟨fun _ => ⟨v7, fun z_v => absurd z_v cu', fun _ => dz_85 (by decide) (dz_103 (by decide) k)⟩, fun z_v => absurd rfl z_v⟩
  · -- pay
    obtain ⟨X', Y', i1_v, i2_v, i3_v, i4_v, i5_v⟩ := pay_ok (k := k) hS_v h_v hb_v hk
    have e3_v : nI (4 * i) + 3 = nI (4 * i + 3) := nI_add _ 3
    refine ⟨false, 0, X', Y', fun Z_v KN KY k1_v _ => ⟨fun z_v => absurd (a1_v.symm.trans z_v) (by decide), fun _ => ?_⟩, fun Z_v K_v kk => does_in hi_v a2 (a3.trans ep) (fun z_v => absurd z_v (by decide)) (fun _ => dz_30 (by decide) (dz_42 (by decide) (dz_51 (by decide) ?_))), Or.inl ⟨rfl, rfl⟩, i3_v.mono (by omega), i4_v, i5_v⟩
    · rw [a1_v, ep, ek, T_X0_change]
      refine ⟨fun z_v => absurd z_v (by decide), fun _ => ⟨fun z_v => absurd z_v (by decide), fun _ => ⟨fun z_v => absurd z_v (by decide), fun _ => ⟨fun z_v => absurd z_v (by decide), fun _ => ?_⟩⟩⟩⟩
      rw [T_X0_change_106]
      exact i1_v Z_v _ (k1_v rfl)
    · rw [T_X12_does_85, e3_v, nI_clamp (n := 4 * i + 3) (by omega), jh _ (by omega), a4, ek]
      exact ⟨fun _ => ⟨vp_in_nI (by omega) (by decide), i2_v Z_v _ (dz_103 (by decide) kk)⟩, fun z_v => absurd rfl z_v⟩
theorem cr_wet {c_v w_v : Nat} (hc_v : c_v ≤ 99) (hw : w_v ≤ 9) : (if (0 : Int32) < nI c_v - nI w_v then nI c_v - nI w_v else 0) = nI (c_v - w_v) := by
  by_cases h_v : w_v ≤ c_v
  · rw [pk_sub h_v]
    by_cases h2 : c_v - w_v = 0
    · rw [h2]; rfl
    · rw [if_pos (Int32.not_le.mp (nI_nle (by omega) (by omega)))]
  · have e_v : (nI c_v - nI w_v).toInt = (c_v : Int) - w_v := pk_sub_toInt (by omega) (by omega)
    have h3 : ¬ (0 : Int32) < nI c_v - nI w_v := by
      rw [lt_I, e_v, show (0 : Int32).toInt = 0 from rfl]
      omega
    rw [if_neg h3, show c_v - w_v = 0 by omega]
    rfl
set_option maxHeartbeats 4000000 in
/-- a day passes -/
theorem day_ok {N_v np nb o q_v : Nat} {X_v Y : Mm} (hS_v : ST o q_v np nb X_v Y) (h_v : QR N_v np nb q_v X_v Y) (hN_v : N_v < 900000) : ∃ r_v X' Y', OC (T_X0_passDay o) X_v r_v X' ∧ OM T_X12_goesBy Y r_v Y' ∧ QR (N_v + 16) np nb q_v X' Y' ∧ fX o q_v X_v X' ∧ fY Y Y' := by
  obtain ⟨hA, -, -, hP, -⟩ := id hS_v
  obtain ⟨r0, r1_v, r2, -, r4, z0, z1, z2, z3, z4, z5⟩ := hA.rf
  obtain ⟨-, -, p2_v, p3_v, p4_v, p5_v⟩ := rf_pl
  have hl := hA.lt
  obtain ⟨q15_v, q21, q22, qo, q7_v, ho⟩ := hA.nq
  have q23 : ¬ (q_v ≤ 23 ∧ 23 ≤ q_v + 6) := by unfold Au at hA; omega
  obtain ⟨wl, hwl, ewl⟩ := hP.1.2.2.2
  have ewl : X_v 23 8 = nI wl := ewl
  have ewm : Y 159 39 = nI wl := hP.1.2.2.1.trans ewl
  have main_v : ∀ m_v i X1 Y1 N1 x1_v, i + m_v = wl → fX o q_v X_v X1 → fY Y Y1 → QR N1 np nb q_v X1 Y1 → N1 + m_v ≤ N_v + 16 →
      ∃ r_v X' Y', (∀ (Z_v : Mm) (K_v : Int32 → Mm → Prop) (f_v : Nat), m_v < f_v → K_v r_v (jn X' Z_v) → T_X0_passDay_4 o f_v x1_v (nI i) (jn X1 Z_v) K_v) ∧ (∀ (Z_v : Mm) (K_v : Int32 → Mm → Prop) (f_v : Nat), m_v < f_v → K_v r_v (jn Z_v Y') → T_X12_goesBy_4 f_v x1_v (nI i) (jn Z_v Y1) K_v) ∧ QR (N_v + 16) np nb q_v X' Y' ∧ fX o q_v X_v X' ∧ fY Y Y' := by
    intro m_v
    induction m_v with
    | zero =>
      intro i X1 Y1 N1 x1_v him f1_v f2_v h1 hN1
      have e_v : i = wl := by omega
      subst e_v
      have h1 := h1.mono hN1
      obtain ⟨c_v, hc_v, ec⟩ := h1.2.1.1.2.2.1
      obtain ⟨w_v, hw, ew⟩ := h1.2.1.1.2.2.2
      have y4 : Y1 160 4 = X1 q_v 8 := h1.1.1.2.2.2.2.1
      have y5 : Y1 160 5 = X1 q_v 9 := h1.1.1.2.2.2.2.2.1
      have y0 : Y1 160 0 = X1 q_v 10 := h1.1.1.1
      have h2 := h1.up0 (i := 8) (j := 4) (v := nI (c_v - w_v)) q15_v (by omega) ⟨fun z_v => absurd z_v (by omega), fun _ => sm_nI (by omega), fun z_v => absurd z_v (by omega)⟩
      have h3 := h2.up0 (i := 10) (j := 0) (v := X1 q_v 10 + 1) q15_v (by omega) ⟨fun z_v => absurd z_v (by omega), fun z_v => absurd z_v (by omega), fun z_v => absurd z_v (by omega)⟩
      refine ⟨x1_v, _, _, fun Z_v K_v f_v hf k => ?_, fun Z_v K_v f_v hf k => ?_, h3, f1_v.tr (fX.tr (fX.up (by omega)) (fX.up (by omega))), f2_v.tr (fY.tr fY.up fY.up)⟩
      · obtain ⟨f_v, rfl⟩ : ∃ g_v, f_v = g_v + 1 := ⟨f_v - 1, by omega⟩
        have e8 : jn X1 Z_v 23 8 = nI i := by rw [jl 8 (by omega), f1_v 23 8 (by omega) (by omega) (by omega) (by omega) (by omega)]; exact ewl
        rw [T_X0_passDay_4, r2, e8]
        refine pk_le i i (fun _ => ?_) (fun z_v => absurd z_v (by omega))
        rw [T_X0_passDay_111, r4, jl 8 (by omega), jl 9 (by omega), ec, ew, cr_wet hc_v hw]
        intro M1_v e1_v M2_v e2_v
        have u_v : M1_v q_v 10 = X1 q_v 10 := by rw [e1_v, mu, if_neg (by omega), jl 10 (by omega)]
        rw [e2_v, u_v, e1_v, jn_upl (by omega), jn_upl (by omega)]
        exact k
      · obtain ⟨f_v, rfl⟩ : ∃ g_v, f_v = g_v + 1 := ⟨f_v - 1, by omega⟩
        have e8 : jn Z_v Y1 159 39 = nI i := by rw [jh 39 (by omega), f2_v 159 39 (by omega) (by omega) (by omega) (by omega) (by omega)]; exact ewm
        rw [T_X12_goesBy_4, e8]
        refine pk_le i i (fun _ => ?_) (fun z_v => absurd z_v (by omega))
        rw [jh 4 (by omega), jh 5 (by omega), y4, y5, ec, ew]
        refine greaterM_ok (fun M6_v e6_v M7_v e7_v => ?_)
        have u_v : M6_v 160 0 = X1 q_v 10 := by rw [e6_v, mu, if_neg (by omega), jh 0 (by omega)]; exact y0
        rw [e7_v, u_v, e6_v, ← max_sw, cr_wet hc_v hw, jn_uph (by omega), jn_uph (by omega)]
        exact k
    | succ m_v ih_v =>
      intro i X1 Y1 N1 x1_v him f1_v f2_v h1 hN1
      have hS1 := hS_v.fr f1_v f2_v
      have ci : (nI i).toNatClampNeg = i := nI_clamp (by omega)
      have vi : vp_in (nI i) 16 := vp_in_nI (by omega) (by decide)
      have e4_v : (4 : Int32) * nI i = nI (4 * i) := pk_mul 4 i
      have x8 : X1 23 8 = nI wl := by rw [f1_v 23 8 (by omega) (by omega) (by omega) (by omega) (by omega)]; exact ewl
      have y39 : Y1 159 39 = nI wl := by rw [f2_v 159 39 (by omega) (by omega) (by omega) (by omega) (by omega)]; exact ewm
      have eday : Y1 180 (4 * i) = X1 26 i := (hS1.2.2.2.1.2.2.2.2 i (by omega) (by show nI i < X1 23 8; rw [x8]; exact nI_lt (by omega) (by omega))).1
      have y0 : Y1 160 0 = X1 q_v 10 := h1.1.1.1
      by_cases cd : X1 26 i = X1 q_v 10
      · obtain ⟨s_v, r_v, X2, Y2, l1, l2, l3, l4, l5, l6⟩ := line_ok (i := i) hS1 h1 (by omega) (by omega) (by rw [x8]; exact nI_lt (by omega) (by omega))
        obtain ⟨r', X', Y', i1_v, i2_v, i3_v⟩ := ih_v (i + 1) X2 Y2 (N1 + 1) (if s_v then x1_v + 1 else x1_v) (by omega) (f1_v.tr l5) (f2_v.tr l6) l4 (by omega)
        refine ⟨r', X', Y', fun Z_v K_v f_v hf k => ?_, fun Z_v K_v f_v hf k => ?_, i3_v⟩
        · obtain ⟨f_v, rfl⟩ : ∃ g_v, f_v = g_v + 1 := ⟨f_v - 1, by omega⟩
          have i1' := i1_v Z_v K_v f_v (by omega) k
          rw [T_X0_passDay_4, r2, r4, p2_v, p3_v, p4_v, p5_v, ci, jl 8 (by omega), x8, jl i (by omega), jl 10 (by omega), jl i (by omega), jl i (by omega), jl i (by omega)]
          simp only [T_X0_passDay_105, forall_eq, nI_1]
          refine pk_le wl i (fun z_v => absurd z_v (by omega)) (fun _ => pk_le 16 i (fun z_v => absurd z_v (by omega)) (fun _ => ⟨vi, fun _ => ⟨vi, ?_⟩, fun z_v => absurd cd z_v⟩))
          have := l1 Z_v (fun M_v => T_X0_passDay_4 o f_v x1_v (nI (i + 1)) M_v K_v) (fun M_v => T_X0_passDay_4 o f_v (x1_v + 1) (nI (i + 1)) M_v K_v) (fun e_v => by subst e_v; exact i1') (fun e_v => by subst e_v; exact i1')
          exact ⟨fun z_v => ⟨vi, this.1 z_v⟩, fun z_v => ⟨vi, vi, this.2 z_v⟩⟩
        · obtain ⟨f_v, rfl⟩ : ∃ g_v, f_v = g_v + 1 := ⟨f_v - 1, by omega⟩
          have i2' := i2_v Z_v K_v f_v (by omega) k
          rw [T_X12_goesBy_4, jh 39 (by omega), y39, e4_v, nI_clamp (n := 4 * i) (by omega), jh (a := 180) _ (by omega), jh 0 (by omega), eday, y0]
          simp only [T_X12_goesBy_43, forall_eq, nI_1]
          refine pk_le wl i (fun z_v => absurd z_v (by omega)) (fun _ => ⟨vp_in_nI (by omega) (by decide), fun _ => l2 Z_v _ ⟨fun z_v => ?_, fun z_v => ?_⟩, fun z_v => absurd cd z_v⟩)
          · rcases l3 with ⟨e1_v, -⟩ | ⟨-, e2_v⟩
            · subst e1_v; exact i2'
            · exact absurd z_v e2_v
          · rcases l3 with ⟨-, e1_v⟩ | ⟨e2_v, -⟩
            · exact absurd e1_v z_v
            · subst e2_v; exact i2'
      · obtain ⟨r', X', Y', i1_v, i2_v, i3_v⟩ := ih_v (i + 1) X1 Y1 N1 x1_v (by omega) f1_v f2_v h1 (by omega)
        refine ⟨r', X', Y', fun Z_v K_v f_v hf k => ?_, fun Z_v K_v f_v hf k => ?_, i3_v⟩
        · obtain ⟨f_v, rfl⟩ : ∃ g_v, f_v = g_v + 1 := ⟨f_v - 1, by omega⟩
          have i1' := i1_v Z_v K_v f_v (by omega) k
          rw [T_X0_passDay_4, r2, r4, p2_v, p3_v, p4_v, p5_v, ci, jl 8 (by omega), x8, jl i (by omega), jl 10 (by omega)]
          simp only [T_X0_passDay_105, forall_eq, nI_1]
          exact pk_le wl i (fun z_v => absurd z_v (by omega)) (fun _ => pk_le 16 i (fun z_v => absurd z_v (by omega)) (fun _ => ⟨vi, fun z_v => absurd z_v cd, fun _ => i1'⟩))
        · obtain ⟨f_v, rfl⟩ : ∃ g_v, f_v = g_v + 1 := ⟨f_v - 1, by omega⟩
          have i2' := i2_v Z_v K_v f_v (by omega) k
          rw [T_X12_goesBy_4, jh 39 (by omega), y39, e4_v, nI_clamp (n := 4 * i) (by omega), jh (a := 180) _ (by omega), jh 0 (by omega), eday, y0]
          simp only [T_X12_goesBy_43, forall_eq, nI_1]
          exact pk_le wl i (fun z_v => absurd z_v (by omega)) (fun _ => ⟨vp_in_nI (by omega) (by decide), fun z_v => absurd z_v cd, fun _ => i2'⟩)
  obtain ⟨r_v, X', Y', i1_v, i2_v, i3_v⟩ := main_v wl 0 X_v Y N_v 0 (by omega) fX.rf fY.rf h_v (by omega)
  refine ⟨r_v, X', Y', fun Z_v K_v k => ?_, fun Z_v K_v k => ?_, i3_v⟩
  · rw [T_X0_passDay]
    exact i1_v Z_v K_v 5000 (by omega) k
  · rw [T_X12_goesBy]
    exact i2_v Z_v K_v 5000 (by omega) k
