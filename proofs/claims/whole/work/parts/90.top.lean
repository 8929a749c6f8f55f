theorem IW.mono {N N' np nb : Nat} {M : Mm} {w_v : Nat} {v : Vw} (h_v : IW N np nb M w_v v) (hN_v : N ≤ N') : IW N' np nb M w_v v := ⟨h_v.1, ⟨h_v.2.1.1, h_v.2.1.2.mono hN_v⟩, h_v.2.2⟩
theorem IX.mono {N N' : Nat} {M : Mm} (h_v : IX N M) (hN_v : N ≤ N') : IX N' M := by
  obtain ⟨h1, h2, h3, h4, h5, h6, h7, h8, h9⟩ := h_v
  refine ⟨h1, h2, h3, h4, h5, h6, h7, h8, fun z_v => ?_⟩
  obtain ⟨np, nb, hI⟩ := h9 z_v
  exact ⟨np, nb, hI.mono hN_v⟩
theorem Inv.mono {N N' : Nat} {M : Mm} (h_v : Inv N M) (hN_v : N ≤ N') : Inv N' M := by
  obtain ⟨np, nb, hI, hU, hX⟩ := h_v
  exact ⟨np, nb, hI.mono hN_v, IU2.mono (X := M) (Y := M) hU hN_v, hX.mono hN_v⟩
/-- class and model agree on_v a call_v, behind_v which there_v may_v be a thousand sales more_v -/
def Ah (T1 T2 : Mm → (Int32 → Mm → Prop) → Prop) (N : Nat) (M : Mm) : Prop := ∃ (r_v : Int32) (M1_v M2_v : Mm), (∀ K_v : Int32 → Mm → Prop, K_v r_v M1_v → T1 M K_v) ∧ (∀ K_v : Int32 → Mm → Prop, K_v r_v M2_v → T2 M1_v K_v) ∧ Inv (N + 1000) M2_v
theorem Ag.ah {T1 T2 : Mm → (Int32 → Mm → Prop) → Prop} {N : Nat} {M : Mm} (h_v : Ag T1 T2 N M) : Ah T1 T2 N M := by
  obtain ⟨r_v, M1_v, M2_v, h1, h2, h3⟩ := h_v
  exact ⟨r_v, M1_v, M2_v, h1, h2, h3.mono (by omega)⟩
def gX (X X' : Mm) : Prop := ∀ a j_v, a < 159 → fre a j_v = false → ¬ (8 ≤ a ∧ a ≤ 15) → ¬ (79 ≤ a ∧ a ≤ 122) → X' a j_v = X a j_v
def gY (Y Y' : Mm) : Prop := ∀ a j_v, fre a j_v = false → a ≠ 160 → a ≠ 161 → a ≠ 168 → ¬ (a = 159 ∧ j_v = 3) → Y' a j_v = Y a j_v
theorem gX.rf {X : Mm} : gX X X := fun _ _ _ _ _ _ => rfl
theorem gY.rf {X : Mm} : gY X X := fun _ _ _ _ _ _ _ => rfl
theorem gX.tr {X X1 X2 : Mm} (h_v : gX X X1) (h2 : gX X1 X2) : gX X X2 := fun a j_v z1 z2 z3 z4 => (h2 a j_v z1 z2 z3 z4).trans (h_v a j_v z1 z2 z3 z4)
theorem gY.tr {X X1 X2 : Mm} (h_v : gY X X1) (h2 : gY X1 X2) : gY X X2 := fun a j_v z1 z2 z3 z4 z5 => (h2 a j_v z1 z2 z3 z4 z5).trans (h_v a j_v z1 z2 z3 z4 z5)
theorem fre_130 {o j_v : Nat} (h_v : o = 130 ∨ o = 131) (hj : 6 ≤ j_v) : fre o j_v = true := by
  rcases h_v with rfl | rfl
  · show decide (6 ≤ j_v) = true
    exact decide_eq_true hj
  · show decide (6 ≤ j_v) = true
    exact decide_eq_true hj
theorem fre_123 {a j_v : Nat} (h_v : 123 ≤ a ∧ a ≤ 129) : fre a j_v = true := by
  rcases (by omega : a = 123 ∨ a = 124 ∨ a = 125 ∨ a = 126 ∨ a = 127 ∨ a = 128 ∨ a = 129) with rfl | rfl | rfl | rfl | rfl | rfl | rfl <;> rfl
theorem fX.g {o q_v : Nat} {X X' : Mm} (hA : Au o q_v) (h_v : fX o q_v X X') : gX X X' := by
  intro a j_v z1 z2 z3 z4
  refine h_v a j_v (fun w_v => ?_) (fun w_v => ?_) (fun w_v => ?_) (fun w_v => ?_) (fun w_v => ?_)
  · rcases hA with ⟨-, rfl⟩ | ⟨-, rfl⟩
    · omega
    · rw [fre_123 (by omega)] at z2; cases z2
  · omega
  · rw [w_v] at z2; cases z2
  · rw [w_v] at z2; cases z2
  · rw [w_v.1, fre_130 (by unfold Au at hA; omega) w_v.2] at z2; cases z2
theorem fY.g {Y Y' : Mm} (h_v : fY Y Y') : gY Y Y' := by
  intro a j_v z1 z2 z3 z4 z5
  refine h_v a j_v z2 z4 (fun w_v => ?_) (fun w_v => ?_) (fun w_v => ?_)
  · rw [w_v] at z1; cases z1
  · rw [w_v] at z1; cases z1
  · rw [w_v.1] at z1
    have : fre 159 j_v = true := by
      show decide (j_v = 0 ∨ (16 ≤ j_v ∧ j_v ≤ 19) ∨ (28 ≤ j_v ∧ j_v ≤ 34) ∨ (45 ≤ j_v ∧ j_v ≤ 47) ∨ j_v = 68 ∨ j_v = 70) = true
      exact decide_eq_true (by omega)
    rw [this] at z1; cases z1
theorem mk2 {N N' np nb : Nat} {M X Y : Mm} (hN_v : N ≤ N') (hI : IW N np nb M 1 (vn M)) (hX : IX N M) (gx : gX M X) (gy : gY M Y) (hq : QR N' np nb 8 X Y) (hU : IU2 N' np nb X Y) : Inv N' (jn X Y) := by
  refine mkInv (M := M) (hI.mono hN_v) (hX.mono hN_v) (fun a j_v h1 h2 h3 h4 h5 h6 h7 => ?_) (hq.1.cg (fun k_v _ => jh k_v (by omega)) (fun d_v hd_v => jn_lo (by omega))) (hq.2.1.cg (fun d_v hd_v => jn_lo (by omega))) (fun i hi_v => ?_) ?_
  · by_cases ha_v : a < 159
    · rw [jl j_v ha_v]; exact gx a j_v ha_v h1 h2 h4
    · rw [jh j_v (by omega)]; exact gy a j_v h1 h3 h5 h6 h7
  · rw [jh i (by omega), jl i (by omega)]; exact hq.2.2 i hi_v
  · exact hU.cg (fun a h1 h2 => jn_lo (by omega)) (jn_hi (by omega)) (jh 3 (by omega))
/-- how a call_v begins -/
theorem Inv.beg {N : Nat} {M : Mm} (h_v : Inv N M) : ∃ np nb, IW N np nb M 1 (vn M) ∧ IX N M ∧ ST 130 8 np nb M (m_up M 159 0 0) ∧ QR N np nb 8 M (m_up M 159 0 0) ∧ IU2 N np nb M (m_up M 159 0 0) ∧ gY M (m_up M 159 0 0) := by
  obtain ⟨np, nb, hI, hU, hX⟩ := h_v
  obtain ⟨hC, ⟨hQ, hW⟩, hB_v, hL, hP, hT_v⟩ := id hI
  have V : ∀ g_v, g_v ≠ 1 → vn (m_up M 159 0 0) g_v = vn M g_v := by
    intro g_v hg
    funext i
    unfold vn
    split
    case h_2 => exact absurd rfl hg
    all_goals rw [m_up_ne (by omega)]
  have V1 : vn (m_up M 159 0 0) 1 = vn M 1 := by
    funext i
    unfold vn
    show (match i with | 0 => m_up M 159 0 0 159 6 | 1 => m_up M 159 0 0 159 7 | 2 => m_up M 159 0 0 159 37 | 3 => m_up M 159 0 0 159 39 | 4 => m_up M 159 0 0 159 41 | 5 => m_up M 159 0 0 159 51 | 6 => m_up M 159 0 0 159 53 | 7 => m_up M 159 0 0 159 59 | 8 => m_up M 159 0 0 159 62 | _ => m_up M 159 0 0 159 65) = _
    split <;> simp [mu]
  have W : vn (m_up M 159 0 0) = vn M := by
    funext g_v
    by_cases hg : g_v = 1
    · subst hg; exact V1
    · exact V g_v hg
  obtain ⟨-, -, -, -, x5_v, x6, x7, -⟩ := id hX
  refine ⟨np, nb, hI, hX, ⟨Or.inl ⟨rfl, rfl⟩, by rw [W]; exact hC, by rw [W]; exact hL, by rw [W]; exact hP, fun _ => ⟨x6, by simpa [mu] using x5_v⟩, fun z_v => absurd z_v (by omega)⟩, ⟨hQ.cg (fun k_v _ => by rw [m_up_ne (by omega)]; rfl) (fun d_v _ => rfl), hW, fun i hi_v => by rw [m_up_ne (by omega)]; exact hB_v i hi_v⟩, IU2.cg (X := M) (Y := M) hU (fun a _ _ => rfl) (m_up_ne (by omega)) (by simp [mu]), fun a j_v z1 z2 z3 z4 z5 => ?_⟩
  rw [mu, if_neg (fun w_v => by rw [w_v.1, w_v.2] at z1; cases z1)]
theorem ST.kp {o q_v np nb : Nat} {X Y X' Y' : Mm} (h_v : ST o q_v np nb X Y) (f_v : ∀ a, ¬ (79 ≤ a ∧ a ≤ 129) → X' a = X a) (g_v : ∀ a j_v, a ≠ 161 → a ≠ 160 → a ≠ 162 → ¬ (a = 159 ∧ j_v = 3) → Y' a j_v = Y a j_v) : ST o q_v np nb X' Y' := by
  obtain ⟨hA, hC, hL, hP, h0, h1⟩ := h_v
  have hA' := hA
  unfold Au at hA'
  have V : ∀ k_v, k_v ≠ 0 → vn Y' k_v = vn Y k_v := by
    intro k_v h0
    funext i
    unfold vn
    split
    case h_1 => exact absurd rfl h0
    case h_2 => split <;> exact g_v _ _ (by omega) (by omega) (by omega) (by omega)
    all_goals exact g_v _ _ (by omega) (by omega) (by omega) (by omega)
  refine ⟨hA, hC.cg (fun d_v z1 z2 => f_v _ (by omega)) (by rw [V 1 (by omega)]) (by rw [V 1 (by omega)]) (fun k_v z1 z2 => V k_v (by omega)), hL.cg (fun d_v z1 z2 => f_v _ (by omega)) (fun k_v z1 z2 => V k_v (by omega)), hP.cg (fun d_v z1 z2 => f_v _ (by omega)) (fun i z1 z2 => by rw [V 1 (by omega)]) (V 7 (by omega)) (V 17 (by omega)) (V 18 (by omega)), fun e_v => ?_, fun e_v => ?_⟩
  · rw [f_v o (by omega), g_v 159 5 (by omega) (by omega) (by omega) (by omega)]
    exact h0 e_v
  · rw [f_v o (by omega), g_v 159 5 (by omega) (by omega) (by omega) (by omega)]
    exact h1 e_v
/-- what is_v, is_v kept_v, and all_v goes_v on_v -/
theorem keep2 {N np nb : Nat} {X Y : Mm} (hS_v : ST 130 8 np nb X Y) (h_v : QR N np nb 8 X Y) (hU : IU2 N np nb X Y) : ∃ X' Y', VC (T_X4_keep 8) X X' ∧ VM T_X12_keepsAhead Y Y' ∧ ST 130 8 np nb X' Y' ∧ QR N np nb 8 X' Y' ∧ IU2 N np nb X' Y' ∧ gX X X' ∧ gY Y Y' ∧ (∀ a, ¬ (79 ≤ a ∧ a ≤ 122) → X' a = X a) ∧ Y' 160 = Y 160 := by
  obtain ⟨X', Y', k1_v, k2_v, k3_v, k4_v, k5_v⟩ := keep_ok hU h_v.1 h_v.2.1
  refine ⟨X', Y', k1_v, k2_v, hS_v.kp (fun a ha_v => k4_v a (by omega)) (fun a j_v h1 _ _ h2 => k5_v a j_v h1 h2), h_v.cg (fun d_v hd_v => k4_v _ (by omega)) (k4_v _ (by omega)) (funext fun j_v => k5_v _ j_v (by omega) (by omega)) (funext fun j_v => k5_v _ j_v (by omega) (by omega)), k3_v, fun a j_v z1 z2 z3 z4 => by rw [k4_v a z4], fun a j_v z1 z2 z3 z4 z5 => k5_v a j_v z3 z5, k4_v, funext fun j_v => k5_v _ j_v (by omega) (by omega)⟩
theorem IU2.f {N np nb : Nat} {X Y X' Y' : Mm} (h_v : IU2 N np nb X Y) (f_v : fX 130 8 X X') (g_v : fY Y Y') : IU2 N np nb X' Y' := h_v.cg (fun a h1 h2 => funext fun j_v => f_v a j_v (by omega) (by omega) (by omega) (by omega) (by omega)) (funext fun j_v => g_v 161 j_v (by omega) (by omega) (by omega) (by omega) (by omega)) (g_v 159 3 (by omega) (by omega) (by omega) (by omega) (by omega))
set_option maxHeartbeats 2000000 in
theorem ah_pay {N : Nat} {M : Mm} (h_v : Inv N M) (x y_v : Int32) : Ah (T_X11_pay x y_v) (T_X12_pay x y_v) N M := by
  have hf := h_v.t0 (x := 0)
  obtain ⟨np, nb, hI, hX, hS_v, hq, hU, hg⟩ := h_v.beg
  have en : M 2 1 = nI nb := hI.1.1.2.2.2.1
  have hn : nb ≤ 8 := hI.1.1.2.2.2.2.2
  have en2 : M 159 7 = nI nb := hI.1.1.2.1.trans en
  by_cases cx : ∃ k_v, k_v < nb ∧ x = nI k_v
  rotate_left
  · exact Ag.ah ⟨0, M, _, fun K_v q_v => by simpa [T_X11_pay, hb_neg cx hn en] using q_v, fun K_v q_v => by simpa [T_X12_pay, ib_neg cx hn (M := m_up M 159 0 0) (by simpa [mu] using en2)] using q_v, hf⟩
  obtain ⟨b, hb_v, rfl⟩ := cx
  by_cases cy : (1 : Int32) ≤ y_v ∧ y_v ≤ 999
  rotate_left
  · exact Ag.ah ⟨0, M, _, fun K_v q_v => by simpa [T_X11_pay, hb_pos rfl hb_v hn en, iw_neg cy] using q_v, fun K_v q_v => by simpa [T_X12_pay, ib_pos rfl hb_v hn (M := m_up M 159 0 0) (by simpa [mu] using en2), ii_neg cy] using q_v, hf⟩
  obtain ⟨k_v, -, hk, rfl⟩ := rng (a := 1) (b := 999) (by decide) (by decide) cy
  obtain ⟨X1, Y1, k1_v, k2_v, k3_v, k4_v, k5_v, k6_v, k7_v, -, -⟩ := keep2 hS_v hq hU
  obtain ⟨X2, Y2, p1_v, p2_v, p3_v, p4_v, p5_v⟩ := pay_ok k3_v k4_v hb_v hk
  refine ⟨1, jn X2 M, jn X2 Y2, fun K_v q_v => ?_, fun K_v q_v => ?_, mk2 (by omega) hI hX (k6_v.tr (p4_v.g (Or.inl ⟨rfl, rfl⟩))) (hg.tr (k7_v.tr p5_v.g)) (p3_v.mono (by omega)) ((k5_v.f p4_v p5_v).mono (by omega))⟩
  · have : T_X11_pay (nI b) (nI k_v) (jn M M) K_v := by
      rw [T_X11_pay, hb_pos rfl hb_v hn (by rw [jn_self]; exact en)]
      refine ⟨fun z_v => absurd z_v (by decide), fun _ => ?_⟩
      rw [iw_pos cy]
      exact ⟨fun z_v => absurd z_v (by decide), fun _ => k1_v M _ (p1_v M _ q_v)⟩
    rw [jn_self] at this
    exact this
  · rw [T_X12_pay]
    intro M1_v e1_v
    rw [jn_uph (by omega)] at e1_v
    rw [e1_v, ib_pos rfl hb_v hn (by rw [jh 7 (by omega)]; simpa [mu] using en2)]
    refine ⟨fun z_v => absurd z_v (by decide), fun _ => ?_⟩
    rw [ii_pos cy]
    exact ⟨fun z_v => absurd z_v (by decide), fun _ => k2_v X2 _ (p2_v X2 _ q_v)⟩
set_option maxHeartbeats 4000000 in
theorem ah_give {N : Nat} {M : Mm} (h_v : Inv N M) (hN_v : N < 900000) (x y_v z_v : Int32) : Ah (T_X11_give x y_v z_v) (T_X12_give x y_v z_v) N M := by
  have hf := h_v.t0 (x := 0)
  obtain ⟨np, nb, hI, hX, hS_v, hq, hU, hg⟩ := h_v.beg
  have en : M 2 1 = nI nb := hI.1.1.2.2.2.1
  have hn : nb ≤ 8 := hI.1.1.2.2.2.2.2
  have en2 : M 159 7 = nI nb := hI.1.1.2.1.trans en
  have en3 : m_up M 159 0 0 159 7 = nI nb := by simpa [mu] using en2
  by_cases cx : ∃ k_v, k_v < nb ∧ x = nI k_v
  rotate_left
  · exact Ag.ah ⟨0, M, _, fun K_v q_v => by simpa [T_X11_give, hb_neg cx hn en] using q_v, fun K_v q_v => by simpa [T_X12_give, ib_neg cx hn en3] using q_v, hf⟩
  obtain ⟨a, ha_v, rfl⟩ := cx
  by_cases cy : ∃ k_v, k_v < nb ∧ y_v = nI k_v
  rotate_left
  · exact Ag.ah ⟨0, M, _, fun K_v q_v => by simpa [T_X11_give, hb_pos rfl ha_v hn en, hb_neg cy hn en] using q_v, fun K_v q_v => by simpa [T_X12_give, ib_pos rfl ha_v hn en3, ib_neg cy hn en3] using q_v, hf⟩
  obtain ⟨b, hb_v, rfl⟩ := cy
  by_cases cab : nI a = nI b
  · exact Ag.ah ⟨0, M, _, fun K_v q_v => by simpa [T_X11_give, hb_pos rfl ha_v hn en, hb_pos rfl hb_v hn en, cab] using q_v, fun K_v q_v => by simpa [T_X12_give, ib_pos rfl ha_v hn en3, ib_pos rfl hb_v hn en3, cab] using q_v, hf⟩
  have nab : ¬ a = b := fun e_v => cab (by rw [e_v])
  by_cases cz : (1 : Int32) ≤ z_v ∧ z_v ≤ 7
  rotate_left
  · exact Ag.ah ⟨0, M, _, fun K_v q_v => by simpa [T_X11_give, hb_pos rfl ha_v hn en, hb_pos rfl hb_v hn en, cab, iw_neg cz] using q_v, fun K_v q_v => by simpa [T_X12_give, ib_pos rfl ha_v hn en3, ib_pos rfl hb_v hn en3, cab, ii_neg cz] using q_v, hf⟩
  obtain ⟨κ, h_vκ1, h_vκ, rfl⟩ := rng (a := 1) (b := 7) (by decide) (by decide) cz
  have e64 : ∀ c_v, nI c_v * 8 + nI κ = nI (8 * c_v + κ) := fun c_v => by
    rw [show (8 : Int32) = nI 8 from rfl, pk_mul, nI_add]
    congr 1; omega
  have e71_v : ∀ c_v, (71 : Int32) + 8 * nI c_v + nI κ = nI (71 + (8 * c_v + κ)) := fun c_v => by
    rw [show (71 : Int32) = nI 71 from rfl, show (8 : Int32) = nI 8 from rfl, pk_mul, nI_add, nI_add]
    congr 1; omega
  have v64 : ∀ c_v, c_v < 8 → vp_in (nI (8 * c_v + κ)) 64 := fun c_v hc_v => vp_in_nI (by omega) (by decide)
  have c64 : ∀ c_v, c_v < 8 → (nI (8 * c_v + κ)).toNatClampNeg = 8 * c_v + κ := fun c_v hc_v => nI_clamp (by omega)
  have v71 : ∀ c_v, c_v < 8 → vp_in (nI (71 + (8 * c_v + κ))) 135 := fun c_v hc_v => vp_in_nI (by omega) (by decide)
  have c71 : ∀ c_v, c_v < 8 → (nI (71 + (8 * c_v + κ))).toNatClampNeg = 71 + (8 * c_v + κ) := fun c_v hc_v => nI_clamp (by omega)
  obtain ⟨u_v, hu, eu⟩ := hq.2.1.2.2.1 (8 * a + κ) (by omega)
  have eu : M 14 (8 * a + κ) = nI u_v := eu
  have eM_v : m_up M 159 0 0 160 (71 + (8 * a + κ)) = nI u_v := (hq.1.2.2.2 (8 * a + κ) (by omega)).trans eu
  by_cases c0_v : u_v = 0
  · subst c0_v
    refine Ag.ah ⟨0, M, m_up M 159 0 0, fun K_v q_v => ?_, fun K_v q_v => ?_, hf⟩
    · rw [T_X11_give, hb_pos rfl ha_v hn en]
      refine ⟨fun w_v => absurd w_v (by decide), fun _ => ?_⟩
      rw [hb_pos rfl hb_v hn en]
      refine ⟨fun w_v => absurd w_v (by decide), fun _ => ⟨fun w_v => absurd w_v cab, fun _ => ?_⟩⟩
      rw [iw_pos cz, e64, c64 a (by omega), eu]
      exact ⟨fun w_v => absurd w_v (by decide), fun _ => ⟨v64 a (by omega), fun w_v => absurd w_v (by decide), fun _ => q_v⟩⟩
    · rw [T_X12_give]
      intro M1_v e1_v
      subst e1_v
      rw [ib_pos rfl ha_v hn en3]
      refine ⟨fun w_v => absurd w_v (by decide), fun _ => ?_⟩
      rw [ib_pos rfl hb_v hn en3]
      refine ⟨fun w_v => absurd w_v (by decide), fun _ => ⟨fun w_v => absurd w_v cab, fun _ => ?_⟩⟩
      rw [ii_pos cz, T_X12_hasOf, e71_v, c71 a (by omega), eM_v]
      exact ⟨fun w_v => absurd w_v (by decide), fun _ => ⟨v71 a (by omega), fun _ => q_v, fun w_v => absurd rfl w_v⟩⟩
  obtain ⟨X1, Y1, k1_v, k2_v, k3_v, k4_v, k5_v, k6_v, k7_v, k8_v, k9⟩ := keep2 hS_v hq hU
  have x14 : X1 14 = M 14 := k8_v 14 (by omega)
  have hy : ∀ i, i < 64 → Y1 160 (71 + i) = X1 14 i := fun i hi_v => k4_v.1.2.2.2 i hi_v
  obtain ⟨w_v, hw, ew⟩ := k4_v.2.1.2.2.1 (8 * b + κ) (by omega)
  have ew : X1 14 (8 * b + κ) = nI w_v := ew
  have ea : X1 14 (8 * a + κ) = nI u_v := by rw [x14]; exact eu
  have h1 := k4_v.up6 (N' := N + 1) (i := 8 * a + κ) (v := X1 14 (8 * a + κ) - 1) (by omega) (by omega) (by omega) ⟨by omega, by
    rw [ea, show (1 : Int32) = nI 1 from rfl, pk_sub (by omega)]
    exact sm_nI (by omega)⟩
  have h2 := h1.up6 (N' := N + 1) (i := 8 * b + κ) (v := X1 14 (8 * b + κ) + 1) (by omega) (by omega) (by omega) ⟨by omega, by
    rw [ew, nI_1]
    exact sm_nI (by omega)⟩
  have fA : fX 130 8 X1 (m_up (m_up X1 14 (8 * a + κ) (X1 14 (8 * a + κ) - 1)) 14 (8 * b + κ) (X1 14 (8 * b + κ) + 1)) := fX.tr (fX.up (by omega)) (fX.up (by omega))
  have fB_v : fY Y1 (m_up (m_up Y1 160 (71 + (8 * a + κ)) (X1 14 (8 * a + κ) - 1)) 160 (71 + (8 * b + κ)) (X1 14 (8 * b + κ) + 1)) := fY.tr fY.up fY.up
  obtain ⟨X3, Y3, n1_v, n2_v, n3_v, n4_v, n5_v⟩ := note_ok (N := N + 1) 4 (nI a) (nI κ) (k3_v.fr fA fB_v) h2
  have f3_v : fX 130 8 X1 X3 := fA.tr (fun a j_v w1_v w2_v w3_v w4_v w5 => n4_v a j_v w2_v (by omega))
  have g3_v : fY Y1 Y3 := fB_v.tr (fun a j_v w1_v w2_v w3_v w4_v w5 => n5_v a j_v w2_v (by omega))
  have ebx1 : X1 2 1 = nI nb := by rw [k8_v 2 (by omega)]; exact en
  refine ⟨1, jn X3 M, jn X3 Y3, fun K_v q_v => ?_, fun K_v q_v => ?_, mk2 (by omega) hI hX (k6_v.tr (f3_v.g (Or.inl ⟨rfl, rfl⟩))) (hg.tr (k7_v.tr g3_v.g)) (n3_v.mono (by omega)) ((k5_v.f f3_v g3_v).mono (by omega))⟩
  · have : T_X11_give (nI a) (nI b) (nI κ) (jn M M) K_v := by
      have en' : jn M M 2 1 = nI nb := by rw [jn_self]; exact en
      rw [T_X11_give, hb_pos rfl ha_v hn en']
      refine ⟨fun w_v => absurd w_v (by decide), fun _ => ?_⟩
      rw [hb_pos rfl hb_v hn en']
      refine ⟨fun w_v => absurd w_v (by decide), fun _ => ⟨fun w_v => absurd w_v cab, fun _ => ?_⟩⟩
      rw [iw_pos cz, e64, c64 a (by omega), jl _ (by omega), eu]
      refine ⟨fun w_v => absurd w_v (by decide), fun _ => ⟨v64 a (by omega), fun _ => k1_v M _ ?_, fun w_v => absurd (nI_le (a := 1) (by omega) (by omega)) w_v⟩⟩
      have en'' : jn X1 M 2 1 = nI nb := by rw [jl 1 (by omega)]; exact ebx1
      have rr : rf 130 0 = 2 ∧ rf 130 4 = 8 ∧ rf 8 5 = 14 := by decide
      rw [T_X0_handOver, rr.1, rr.2.1, rr.2.2, hb_pos rfl ha_v hn en'']
      refine ⟨fun w_v => absurd w_v (by decide), fun _ => ?_⟩
      rw [hb_pos rfl hb_v hn en'']
      refine ⟨fun w_v => absurd w_v (by decide), fun _ => ?_⟩
      rw [iw_pos cz, e64, e64, c64 a (by omega), c64 b (by omega), jl _ (by omega)]
      refine ⟨fun w_v => absurd w_v (by decide), fun _ => ⟨v64 a (by omega), v64 a (by omega), fun M14 e14_v => ⟨v64 b (by omega), v64 b (by omega), fun M17 e17_v => ?_⟩⟩⟩
      have w1_v : M14 14 (8 * b + κ) = X1 14 (8 * b + κ) := by rw [e14_v, mu, if_neg (by omega), jl _ (by omega)]
      rw [e17_v, w1_v, e14_v, jn_upl (by omega), jn_upl (by omega)]
      exact n1_v M _ q_v
    rw [jn_self] at this
    exact this
  · rw [T_X12_give]
    intro M1_v e1_v
    rw [jn_uph (by omega)] at e1_v
    subst e1_v
    have en' : jn X3 (m_up M 159 0 0) 159 7 = nI nb := by rw [jh 7 (by omega)]; exact en3
    rw [ib_pos rfl ha_v hn en']
    refine ⟨fun w_v => absurd w_v (by decide), fun _ => ?_⟩
    rw [ib_pos rfl hb_v hn en']
    refine ⟨fun w_v => absurd w_v (by decide), fun _ => ⟨fun w_v => absurd w_v cab, fun _ => ?_⟩⟩
    rw [ii_pos cz, T_X12_hasOf, e71_v, c71 a (by omega), jh _ (by omega), eM_v]
    refine ⟨fun w_v => absurd w_v (by decide), fun _ => ⟨v71 a (by omega), fun w_v => absurd w_v (nI_ne0 (by omega) (by omega)), fun _ => k2_v X3 _ ?_⟩⟩
    rw [T_X12_hasMore, e71_v, c71 a (by omega), jh _ (by omega), hy _ (by omega)]
    refine ⟨v71 a (by omega), v71 a (by omega), fun M2_v e2_v => ?_⟩
    rw [T_X12_hasMore, e71_v, c71 b (by omega)]
    refine ⟨v71 b (by omega), v71 b (by omega), fun M4_v e4_v => ?_⟩
    have w1_v : M2_v 160 (71 + (8 * b + κ)) = X1 14 (8 * b + κ) := by rw [e2_v, mu, if_neg (by omega), jh _ (by omega)]; exact hy _ (by omega)
    have s1_v : X1 14 (8 * a + κ) + -1 = X1 14 (8 * a + κ) - 1 := (Int32.sub_eq_add_neg _ _).symm
    rw [e4_v, w1_v, e2_v, s1_v, jn_uph (by omega), jn_uph (by omega)]
    exact n2_v X3 _ q_v
