/-- row_v a1_v gets_v the first n of_v row_v a0_v -/
def cpr (M_v : Mm) (a0_v a1_v n : Nat) : Mm := fun a_v j_v => if a_v = a1_v ∧ j_v < n then M_v a0_v j_v else M_v a_v j_v
theorem copyRow_ok {a0_v a1_v n : Nat} {M_v : Mm} {K : Mm → Prop} (h0 : ln a0_v = n) (h1 : ln a1_v = n) (hn : n < 5000) (hne : a0_v ≠ a1_v) (hK_v : K (cpr M_v a0_v a1_v n)) : T_X11_copyRow a0_v a1_v M_v K := by
  have L_v : ∀ f_v i_v, i_v ≤ n → n - i_v < f_v → T_X11_copyRow_2 a0_v a1_v f_v (nI i_v) (cpr M_v a0_v a1_v i_v) K := by
    intro f_v
    induction f_v with
    | zero => intro i_v _ h_v; exact absurd h_v (Nat.not_lt_zero _)
    | succ f_v ih_v =>
      intro i_v hi_v hf
      rw [T_X11_copyRow_2, h0, h1, nI_clamp (by omega)]
      refine pk_le n i_v (fun h_v => ?_) (fun h_v => pk_le n i_v (fun h_v => absurd h_v (by omega)) (fun _ => ⟨vp_in_nI h_v (by omega), vp_in_nI h_v (by omega), fun M4_v e4_v y6 e6_v => ?_⟩))
      · have e_v : i_v = n := by omega
        subst e_v; exact hK_v
      · have e_v : M4_v = cpr M_v a0_v a1_v (i_v + 1) := by
          rw [e4_v]
          funext a_v j_v
          rw [mu]
          unfold cpr
          by_cases e1_v : a_v = a1_v ∧ j_v = i_v
          · rw [if_pos e1_v, if_neg (fun z_v => hne z_v.1), if_pos (by omega), e1_v.2]
          · rw [if_neg e1_v]
            by_cases e2_v : a_v = a1_v ∧ j_v < i_v
            · rw [if_pos e2_v, if_pos (by omega)]
            · rw [if_neg e2_v, if_neg (by omega)]
        rw [e_v, e6_v, nI_1]
        exact ih_v (i_v + 1) (by omega) (by omega)
  have := L_v 5000 0 (by omega) (by omega)
  have e0_v : cpr M_v a0_v a1_v 0 = M_v := by
    funext a_v j_v
    unfold cpr
    rw [if_neg (by omega)]
  rw [e0_v] at this
  exact this
theorem cpr_hi {M_v : Mm} {a0_v a1_v n a_v : Nat} (h_v : a_v ≠ a1_v) : cpr M_v a0_v a1_v n a_v = M_v a_v := by
  funext j_v
  unfold cpr
  rw [if_neg (fun z_v => h_v z_v.1)]
theorem cpr_at {M_v : Mm} {a0_v a1_v n j_v : Nat} (h_v : j_v < n) : cpr M_v a0_v a1_v n a1_v j_v = M_v a0_v j_v := by
  unfold cpr
  rw [if_pos ⟨rfl, h_v⟩]
/-- the quays -/
def isQ (d_v : Nat) : Prop := d_v = 8 ∨ d_v = 47 ∨ d_v = 81 ∨ d_v = 88 ∨ d_v = 95 ∨ d_v = 102 ∨ d_v = 109 ∨ d_v = 116 ∨ d_v = 123
theorem isQ.rf {d_v : Nat} (h_v : isQ d_v) : (rf d_v 0 = d_v + 1 ∧ rf d_v 1 = d_v + 2 ∧ rf d_v 2 = d_v + 3 ∧ rf d_v 3 = d_v + 4 ∧ rf d_v 4 = d_v + 5 ∧ rf d_v 5 = d_v + 6) ∧ ln (d_v + 1) = 16 ∧ ln (d_v + 2) = 16 ∧ ln (d_v + 3) = 16 ∧ ln (d_v + 4) = 8 ∧ ln (d_v + 5) = 8 ∧ ln (d_v + 6) = 64 := by
  rcases h_v with rfl | rfl | rfl | rfl | rfl | rfl | rfl | rfl | rfl <;> decide +kernel
theorem isQ.lt {d_v : Nat} (h_v : isQ d_v) : d_v + 6 < 159 := by unfold isQ at h_v; omega
theorem isQ.ne {d_v s_v : Nat} (h_v : isQ d_v) (h2 : isQ s_v) (hd_v : d_v ≠ s_v) : d_v + 7 ≤ s_v ∨ s_v + 7 ≤ d_v := by unfold isQ at h_v h2; omega
theorem qr_isQ {j_v : Nat} (h_v : j_v < 6) : isQ (qr j_v) := by
  unfold isQ
  match j_v, h_v with
  | 0, _ => exact (by decide)
  | 1, _ => exact (by decide)
  | 2, _ => exact (by decide)
  | 3, _ => exact (by decide)
  | 4, _ => exact (by decide)
  | 5, _ => exact (by decide)
theorem qr_inj {i_v j_v : Nat} (hi_v : i_v < 6) (hj : j_v < 6) (h_v : i_v ≠ j_v) : qr i_v ≠ qr j_v := by
  have : ∀ i_v, i_v < 6 → qr i_v = 81 + 7 * i_v := by decide
  rw [this i_v hi_v, this j_v hj]
  omega
def qln (t_v : Nat) : Nat := if t_v = 6 then 64 else if t_v = 4 ∨ t_v = 5 then 8 else 16
/-- what is_v copied_v from quay s_v to_v quay d_v -/
def cqR (M_v M' : Mm) (d_v s_v : Nat) : Prop := (∀ a_v, ¬ (d_v ≤ a_v ∧ a_v ≤ d_v + 6) → M' a_v = M_v a_v) ∧ (∀ j_v, 6 ≤ j_v → j_v ≤ 12 → M' d_v j_v = M_v s_v j_v) ∧ ∀ t_v j_v, 1 ≤ t_v → t_v ≤ 6 → j_v < qln t_v → M' (d_v + t_v) j_v = M_v (s_v + t_v) j_v
set_option maxHeartbeats 4000000 in
theorem copyQ_ok {d_v s_v : Nat} {X : Mm} (hd_v : isQ d_v) (hs : isQ s_v) (hne : d_v ≠ s_v) : ∃ X', VC (T_X6_copyFrom d_v s_v) X X' ∧ cqR X X' d_v s_v := by
  obtain ⟨⟨d0_v, d1_v, d2_v, d3_v, d4_v, d5_v⟩, l1, l2, l3, l4, l5, l6⟩ := hd_v.rf
  obtain ⟨⟨s0_v, s1_v, s2_v, s3_v, s4_v, s5⟩, k1_v, k2_v, k3_v, k4_v, k5_v, k6_v⟩ := hs.rf
  have hdl := hd_v.lt
  have hsl := hs.lt
  have hds := hd_v.ne hs hne
  have jcp : ∀ (A_v Z : Mm) (a0_v a1_v n : Nat), a0_v < 159 → a1_v < 159 → cpr (jn A_v Z) a0_v a1_v n = jn (cpr A_v a0_v a1_v n) Z := by
    intro A_v Z a0_v a1_v n h0 h1
    funext a_v j_v
    by_cases ha_v : a_v < 159
    · rw [jl j_v ha_v]
      unfold cpr
      rw [jl j_v h0, jl j_v ha_v]
    · rw [jh j_v (by omega)]
      unfold cpr
      rw [if_neg (by omega), jh j_v (by omega)]
  obtain ⟨A_v, eA_v⟩ : ∃ A_v, A_v = cpr (cpr (cpr (cpr (cpr (cpr X (s_v + 1) (d_v + 1) 16) (s_v + 2) (d_v + 2) 16) (s_v + 3) (d_v + 3) 16) (s_v + 4) (d_v + 4) 8) (s_v + 5) (d_v + 5) 8) (s_v + 6) (d_v + 6) 64 := ⟨_, rfl⟩
  have A0 : ∀ a_v, ¬ (d_v + 1 ≤ a_v ∧ a_v ≤ d_v + 6) → A_v a_v = X a_v := fun a_v ha_v => by
    rw [eA_v, cpr_hi (by omega), cpr_hi (by omega), cpr_hi (by omega), cpr_hi (by omega), cpr_hi (by omega), cpr_hi (by omega)]
  have A1 : ∀ t_v j_v, 1 ≤ t_v → t_v ≤ 6 → j_v < qln t_v → A_v (d_v + t_v) j_v = X (s_v + t_v) j_v := by
    intro t_v j_v h1 h2 hj
    unfold qln at hj
    rcases (by omega : t_v = 1 ∨ t_v = 2 ∨ t_v = 3 ∨ t_v = 4 ∨ t_v = 5 ∨ t_v = 6) with rfl | rfl | rfl | rfl | rfl | rfl
    · rw [eA_v, cpr_hi (by omega), cpr_hi (by omega), cpr_hi (by omega), cpr_hi (by omega), cpr_hi (by omega), cpr_at (by simpa using hj)]
    · rw [eA_v, cpr_hi (by omega), cpr_hi (by omega), cpr_hi (by omega), cpr_hi (by omega), cpr_at (by simpa using hj), cpr_hi (by omega)]
    · rw [eA_v, cpr_hi (by omega), cpr_hi (by omega), cpr_hi (by omega), cpr_at (by simpa using hj), cpr_hi (by omega), cpr_hi (by omega)]
    · rw [eA_v, cpr_hi (by omega), cpr_hi (by omega), cpr_at (by simpa using hj), cpr_hi (by omega), cpr_hi (by omega), cpr_hi (by omega)]
    · rw [eA_v, cpr_hi (by omega), cpr_at (by simpa using hj), cpr_hi (by omega), cpr_hi (by omega), cpr_hi (by omega), cpr_hi (by omega)]
    · rw [eA_v, cpr_at (by simpa using hj), cpr_hi (by omega), cpr_hi (by omega), cpr_hi (by omega), cpr_hi (by omega), cpr_hi (by omega)]
  refine ⟨m_up (m_up (m_up (m_up (m_up (m_up (m_up A_v d_v 6 (X s_v 6)) d_v 7 (X s_v 7)) d_v 8 (X s_v 8)) d_v 9 (X s_v 9)) d_v 10 (X s_v 10)) d_v 11 (X s_v 11)) d_v 12 (X s_v 12), fun Z K k_v => ?_, fun a_v ha_v => ?_, fun j_v h1 h2 => ?_, fun t_v j_v h1 h2 hj => ?_⟩
  · rw [T_X6_copyFrom, d0_v, d1_v, d2_v, d3_v, d4_v, d5_v, s0_v, s1_v, s2_v, s3_v, s4_v, s5]
    refine copyRow_ok k1_v l1 (by omega) (by omega) (copyRow_ok k2_v l2 (by omega) (by omega) (copyRow_ok k3_v l3 (by omega) (by omega) (copyRow_ok k4_v l4 (by omega) (by omega) (copyRow_ok k5_v l5 (by omega) (by omega) (copyRow_ok k6_v l6 (by omega) (by omega) ?_)))))
    rw [jcp _ _ _ _ _ (by omega) (by omega), jcp _ _ _ _ _ (by omega) (by omega), jcp _ _ _ _ _ (by omega) (by omega), jcp _ _ _ _ _ (by omega) (by omega), jcp _ _ _ _ _ (by omega) (by omega), jcp _ _ _ _ _ (by omega) (by omega), ← eA_v]
    intro M13 e13_v M14 e14_v M15 e15_v M16 e16_v M17 e17_v M18 e18_v M19 e19_v
    have E_v : ∀ (B_v : Mm), (∀ j_v, B_v s_v j_v = X s_v j_v) → ∀ i_v (x : Int32) j_v, m_up B_v d_v i_v x s_v j_v = X s_v j_v := fun B_v hB_v i_v x j_v => by rw [mu, if_neg (by omega)]; exact hB_v j_v
    have w12 : ∀ j_v, jn A_v Z s_v j_v = X s_v j_v := fun j_v => by rw [jl j_v (by omega), A0 s_v (by omega)]
    rw [w12 6] at e13_v
    have w13_v : ∀ j_v, M13 s_v j_v = X s_v j_v := by rw [e13_v]; exact E_v _ w12 _ _
    rw [w13_v 7] at e14_v
    have w14_v : ∀ j_v, M14 s_v j_v = X s_v j_v := by rw [e14_v]; exact E_v _ w13_v _ _
    rw [w14_v 8] at e15_v
    have w15 : ∀ j_v, M15 s_v j_v = X s_v j_v := by rw [e15_v]; exact E_v _ w14_v _ _
    rw [w15 9] at e16_v
    have w16 : ∀ j_v, M16 s_v j_v = X s_v j_v := by rw [e16_v]; exact E_v _ w15 _ _
    rw [w16 10] at e17_v
    have w17 : ∀ j_v, M17 s_v j_v = X s_v j_v := by rw [e17_v]; exact E_v _ w16 _ _
    rw [w17 11] at e18_v
    have w18 : ∀ j_v, M18 s_v j_v = X s_v j_v := by rw [e18_v]; exact E_v _ w17 _ _
    rw [w18 12] at e19_v
    rw [e19_v, e18_v, e17_v, e16_v, e15_v, e14_v, e13_v, jn_upl (by omega), jn_upl (by omega), jn_upl (by omega), jn_upl (by omega), jn_upl (by omega), jn_upl (by omega), jn_upl (by omega)]
    exact k_v
  · rw [m_up_ne (by omega), m_up_ne (by omega), m_up_ne (by omega), m_up_ne (by omega), m_up_ne (by omega), m_up_ne (by omega), m_up_ne (by omega), A0 a_v (by omega)]
  · rcases (by omega : j_v = 6 ∨ j_v = 7 ∨ j_v = 8 ∨ j_v = 9 ∨ j_v = 10 ∨ j_v = 11 ∨ j_v = 12) with rfl | rfl | rfl | rfl | rfl | rfl | rfl <;> simp [mu]
  · rw [m_up_ne (by omega), m_up_ne (by omega), m_up_ne (by omega), m_up_ne (by omega), m_up_ne (by omega), m_up_ne (by omega), m_up_ne (by omega)]
    exact A1 t_v j_v h1 h2 hj
theorem IQ.cq {N_v N' : Nat} {M_v M' : Mm} {d_v s_v : Nat} {r_v r' : Nat → Int32} (h_v : IQ N_v M_v s_v r_v) (c : cqR M_v M' d_v s_v) (hr : ∀ k_v, k_v < 135 → r' k_v = r_v k_v) : IQ N' M' d_v r' := by
  obtain ⟨-, c1_v, c2_v⟩ := c
  obtain ⟨⟨a0_v, a1_v, a2, a3, a4, a5, a6⟩, b2, b3, b4⟩ := h_v
  refine ⟨⟨?_, ?_, ?_, ?_, ?_, ?_, ?_⟩, fun i_v hi_v => ⟨?_, ?_, ?_⟩, fun i_v hi_v => ⟨?_, ?_⟩, fun i_v hi_v => ?_⟩
  · rw [hr _ (by omega), c1_v _ (by omega) (by omega)]; exact a0_v
  · rw [hr _ (by omega), c1_v _ (by omega) (by omega)]; exact a1_v
  · rw [hr _ (by omega), c1_v _ (by omega) (by omega)]; exact a2
  · rw [hr _ (by omega), c1_v _ (by omega) (by omega)]; exact a3
  · rw [hr _ (by omega), c1_v _ (by omega) (by omega)]; exact a4
  · rw [hr _ (by omega), c1_v _ (by omega) (by omega)]; exact a5
  · rw [hr _ (by omega), c1_v _ (by omega) (by omega)]; exact a6
  · rw [hr _ (by omega), c2_v 1 i_v (by omega) (by omega) (by simpa [qln] using hi_v)]; exact (b2 i_v hi_v).1
  · rw [hr _ (by omega), c2_v 2 i_v (by omega) (by omega) (by simpa [qln] using hi_v)]; exact (b2 i_v hi_v).2.1
  · rw [hr _ (by omega), c2_v 3 i_v (by omega) (by omega) (by simpa [qln] using hi_v)]; exact (b2 i_v hi_v).2.2
  · rw [hr _ (by omega), c2_v 4 i_v (by omega) (by omega) (by simpa [qln] using hi_v)]; exact (b3 i_v hi_v).1
  · rw [hr _ (by omega), c2_v 5 i_v (by omega) (by omega) (by simpa [qln] using hi_v)]; exact (b3 i_v hi_v).2
  · rw [hr _ (by omega), c2_v 6 i_v (by omega) (by omega) (by simpa [qln] using hi_v)]; exact b4 i_v hi_v
theorem WQ.cq {N_v np nb : Nat} {M_v M' : Mm} {d_v s_v : Nat} (h_v : WQ N_v np nb M_v s_v) (c : cqR M_v M' d_v s_v) : WQ N_v np nb M' d_v := by
  obtain ⟨-, c1_v, c2_v⟩ := c
  have e1_v : ∀ i_v, i_v < 16 → M' (d_v + 1) i_v = M_v (s_v + 1) i_v := fun i_v hi_v => c2_v 1 i_v (by omega) (by omega) (by simpa [qln] using hi_v)
  have e2_v : ∀ i_v, i_v < 16 → M' (d_v + 2) i_v = M_v (s_v + 2) i_v := fun i_v hi_v => c2_v 2 i_v (by omega) (by omega) (by simpa [qln] using hi_v)
  have e3_v : ∀ i_v, i_v < 16 → M' (d_v + 3) i_v = M_v (s_v + 3) i_v := fun i_v hi_v => c2_v 3 i_v (by omega) (by omega) (by simpa [qln] using hi_v)
  have e4_v : ∀ i_v, i_v < 8 → M' (d_v + 4) i_v = M_v (s_v + 4) i_v := fun i_v hi_v => c2_v 4 i_v (by omega) (by omega) (by simpa [qln] using hi_v)
  have e5_v : ∀ i_v, i_v < 8 → M' (d_v + 5) i_v = M_v (s_v + 5) i_v := fun i_v hi_v => c2_v 5 i_v (by omega) (by omega) (by simpa [qln] using hi_v)
  have e6_v : ∀ i_v, i_v < 64 → M' (d_v + 6) i_v = M_v (s_v + 6) i_v := fun i_v hi_v => c2_v 6 i_v (by omega) (by omega) (by simpa [qln] using hi_v)
  obtain ⟨⟨⟨d1_v, d2_v⟩, d3_v, d4_v, d5_v⟩, f1_v, f2_v, f3_v, f4_v, f5_v⟩ := h_v
  refine ⟨⟨⟨fun i_v hi_v => ?_, fun i_v hi_v => ?_⟩, ?_, ?_, ?_⟩, fun i_v hi_v => ?_, fun i_v hi_v => ?_, fun i_v h1 hi_v => ?_, fun i_v h1 hi_v => ?_, fun i_v h1 hi_v => ?_⟩
  · rw [e1_v i_v hi_v, e3_v i_v hi_v]; exact d1_v i_v hi_v
  · rw [e4_v i_v hi_v]; exact d2_v i_v hi_v
  · rw [c1_v _ (by omega) (by omega)]; exact d3_v
  · rw [c1_v _ (by omega) (by omega)]; exact d4_v
  · rw [c1_v _ (by omega) (by omega)]; exact d5_v
  · rw [e5_v i_v hi_v]; exact f1_v i_v hi_v
  · rw [e6_v i_v hi_v]; exact f2_v i_v hi_v
  · rw [e1_v i_v hi_v, e2_v i_v hi_v, e3_v i_v hi_v]; exact f3_v i_v h1 hi_v
  · rw [e5_v i_v hi_v]; exact f4_v i_v h1 hi_v
  · rw [e6_v i_v hi_v]; exact f5_v i_v h1 hi_v
/-- what can_v be undone, class cells_v and model cells_v apart_v -/
def IU2 (N_v np nb : Nat) (X Y : Mm) : Prop := ∃ f_v c : Nat, f_v < 6 ∧ c ≤ 6 ∧ X 79 1 = nI f_v ∧ X 79 2 = nI c ∧ Y 159 3 = nI c ∧ ∀ i_v, i_v < c → IQ N_v X (qr ((f_v + i_v) % 6)) (fun k_v => Y 161 (135 * i_v + k_v)) ∧ WQ N_v np nb X (qr ((f_v + i_v) % 6))
theorem IU2.cg {N_v np nb : Nat} {X Y X' Y' : Mm} (h_v : IU2 N_v np nb X Y) (e_v : ∀ a_v, 79 ≤ a_v → a_v ≤ 122 → X' a_v = X a_v) (e1_v : Y' 161 = Y 161) (e2_v : Y' 159 3 = Y 159 3) : IU2 N_v np nb X' Y' := by
  obtain ⟨f1_v, c1_v, g1, g2, g3_v, g4, g5_v, g6⟩ := h_v
  refine ⟨f1_v, c1_v, g1, g2, ?_, ?_, e2_v.trans g5_v, fun i_v hi_v => ?_⟩
  · rw [e_v 79 (by omega) (by omega)]; exact g3_v
  · rw [e_v 79 (by omega) (by omega)]; exact g4
  · obtain ⟨q1_v, q2_v⟩ := qr_rng ((f1_v + i_v) % 6)
    have hd_v : ∀ d_v, d_v ≤ 6 → X' (qr ((f1_v + i_v) % 6) + d_v) = X (qr ((f1_v + i_v) % 6) + d_v) := fun d_v hd_v => e_v _ (by omega) (by omega)
    exact ⟨(g6 i_v hi_v).1.cg (fun k_v _ => by rw [e1_v]) hd_v, (g6 i_v hi_v).2.cg hd_v⟩
theorem IU2.mono {N_v N' np nb : Nat} {X Y : Mm} (h_v : IU2 N_v np nb X Y) (hN_v : N_v ≤ N') : IU2 N' np nb X Y := by
  obtain ⟨f1_v, c1_v, g1, g2, g3_v, g4, g5_v, g6⟩ := h_v
  exact ⟨f1_v, c1_v, g1, g2, g3_v, g4, g5_v, fun i_v hi_v => ⟨(g6 i_v hi_v).1, (g6 i_v hi_v).2.mono hN_v⟩⟩
/-- the model's rows_v, one_v place_v on_v -/
def shR (Y : Mm) (n : Nat) : Mm := fun a_v j_v => if a_v = 161 ∧ j_v < n then Y 161 (j_v + 135) else Y a_v j_v
def cpR (Y : Mm) (b n : Nat) : Mm := fun a_v j_v => if a_v = 161 ∧ b ≤ j_v ∧ j_v < b + n then Y 160 (j_v - b) else Y a_v j_v
theorem cpR_lp {c : Nat} {Y Z : Mm} {K : Mm → Prop} (hc_v : c ≤ 5) (ec : Y 159 3 = nI c) (hK_v : K (jn Z (m_up (cpR Y (135 * c) 135) 159 3 (nI (c + 1))))) : ∀ f_v i_v, i_v ≤ 135 → 135 - i_v < f_v → T_X12_keepsAhead_57 f_v (nI i_v) (jn Z (cpR Y (135 * c) i_v)) K := by
  have y3 : ∀ i_v, cpR Y (135 * c) i_v 159 3 = nI c := fun i_v => by unfold cpR; rw [if_neg (by omega)]; exact ec
  intro f_v
  induction f_v with
  | zero => intro i_v _ h_v; exact absurd h_v (Nat.not_lt_zero _)
  | succ f_v ih_v =>
    intro i_v hi_v hf
    have e1_v : (135 : Int32) * nI c + nI i_v = nI (135 * c + i_v) := by rw [show (135 : Int32) = nI 135 from rfl, pk_mul, nI_add]
    rw [T_X12_keepsAhead_57, jh 3 (by omega), y3, e1_v, nI_clamp (n := 135 * c + i_v) (by omega), nI_clamp (n := i_v) (by omega)]
    refine pk_le 135 i_v (fun h_v => ?_) (fun h_v => ⟨vp_in_nI h_v (by decide), vp_in_nI (by omega) (by decide), fun M4_v e4_v y6 e6_v => ?_⟩)
    · have e_v : i_v = 135 := by omega
      subst e_v
      intro M2_v e2_v
      rw [e2_v, nI_1, jn_uph (by omega)]
      exact hK_v
    · have e_v : M4_v = jn Z (cpR Y (135 * c) (i_v + 1)) := by
        rw [e4_v, jh i_v (by omega), jn_uph (by omega)]
        congr 1
        funext a_v j_v
        rw [mu]
        unfold cpR
        by_cases w1_v : a_v = 161 ∧ j_v = 135 * c + i_v
        · rw [if_pos w1_v, if_neg (by omega), if_pos (by omega)]
          congr 1; omega
        · rw [if_neg w1_v]
          by_cases w2_v : a_v = 161 ∧ 135 * c ≤ j_v ∧ j_v < 135 * c + i_v
          · rw [if_pos w2_v, if_pos (by omega)]
          · rw [if_neg w2_v, if_neg (by omega)]
      rw [e_v, e6_v, nI_1]
      exact ih_v (i_v + 1) (by omega) (by omega)
theorem cpR_0 (Y : Mm) (b : Nat) : cpR Y b 0 = Y := by
  funext a_v j_v
  unfold cpR
  rw [if_neg (by omega)]
theorem shR_lp {Y Z : Mm} {K : Mm → Prop} (ec : Y 159 3 = nI 5) (hK_v : T_X12_keepsAhead_55 (jn Z (shR Y 675)) K) : ∀ f_v i_v, i_v ≤ 675 → 675 - i_v < f_v → T_X12_keepsAhead_21 f_v (nI i_v) (jn Z (shR Y i_v)) K := by
  have y3 : ∀ i_v, shR Y i_v 159 3 = nI 5 := fun i_v => by unfold shR; rw [if_neg (by omega)]; exact ec
  intro f_v
  induction f_v with
  | zero => intro i_v _ h_v; exact absurd h_v (Nat.not_lt_zero _)
  | succ f_v ih_v =>
    intro i_v hi_v hf
    have e0_v : (135 : Int32) * nI 5 = nI 675 := by decide
    have e1_v : nI i_v + 135 = nI (i_v + 135) := nI_add i_v 135
    rw [T_X12_keepsAhead_21, jh 3 (by omega), y3, e0_v, e1_v, nI_clamp (n := i_v + 135) (by omega), nI_clamp (n := i_v) (by omega)]
    refine pk_le 675 i_v (fun h_v => ?_) (fun h_v => ⟨vp_in_nI (by omega) (by decide), vp_in_nI (by omega) (by decide), fun M4_v e4_v y6 e6_v => ?_⟩)
    · have e_v : i_v = 675 := by omega
      subst e_v
      exact hK_v
    · have e_v : M4_v = jn Z (shR Y (i_v + 1)) := by
        rw [e4_v, jh (i_v + 135) (by omega), jn_uph (by omega)]
        congr 1
        funext a_v j_v
        rw [mu]
        unfold shR
        by_cases w1_v : a_v = 161 ∧ j_v = i_v
        · rw [if_pos w1_v, if_neg (by omega), if_pos (by omega), w1_v.2]
        · rw [if_neg w1_v]
          by_cases w2_v : a_v = 161 ∧ j_v < i_v
          · rw [if_pos w2_v, if_pos (by omega)]
          · rw [if_neg w2_v, if_neg (by omega)]
      rw [e_v, e6_v, nI_1]
      exact ih_v (i_v + 1) (by omega) (by omega)
theorem shR_0 (Y : Mm) : shR Y 0 = Y := by
  funext a_v j_v
  unfold shR
  rw [if_neg (by omega)]
theorem mod6 {f_v c : Nat} (hf : f_v < 6) (hc_v : c ≤ 6) : nI f_v + nI c - (nI f_v + nI c) / 6 * 6 = nI ((f_v + c) % 6) := by
  rw [nI_add, show (6 : Int32) = nI 6 from rfl, pk_rem (by omega) (by omega) (by decide)]
set_option maxHeartbeats 4000000 in
/-- what is_v, is_v kept_v -/
theorem keep_ok {N_v np nb : Nat} {X Y : Mm} (hU : IU2 N_v np nb X Y) (hQ : IQ N_v X 8 (Y 160)) (hW : WQ N_v np nb X 8) : ∃ X' Y', VC (T_X4_keep 8) X X' ∧ VM T_X12_keepsAhead Y Y' ∧ IU2 N_v np nb X' Y' ∧ (∀ a_v, ¬ (79 ≤ a_v ∧ a_v ≤ 122) → X' a_v = X a_v) ∧ (∀ a_v j_v, a_v ≠ 161 → ¬ (a_v = 159 ∧ j_v = 3) → Y' a_v j_v = Y a_v j_v) := by
  obtain ⟨f_v, c, hf, hc_v, x1_v, x2_v, y3, hr⟩ := hU
  have hs : (f_v + c) % 6 < 6 := Nat.mod_lt _ (by omega)
  have hq := qr_isQ hs
  obtain ⟨X1, k1_v, k2_v⟩ := copyQ_ok (X := X) hq (Or.inl rfl) (by have := (qr_rng ((f_v + c) % 6)).1; omega)
  obtain ⟨q1_v, q2_v⟩ := qr_rng ((f_v + c) % 6)
  have x79 : X1 79 = X 79 := k2_v.1 79 (by omega)
  have cH : ∀ (Z : Mm) (K : Mm → Prop), ((6 ≤ nI c → ∀ M6_v : Mm, M6_v = m_up (jn X1 Z) 79 1 (nI ((f_v + 1) % 6)) → K M6_v) ∧ (¬ 6 ≤ nI c → ∀ M7_v : Mm, M7_v = m_up (jn X1 Z) 79 2 (nI (c + 1)) → K M7_v)) → T_X4_keep 8 (jn X Z) K := by
    intro Z K k_v
    rw [T_X4_keep, jl 1 (by omega), jl 2 (by omega), x1_v, x2_v, mod6 hf hc_v, nI_clamp (by omega)]
    refine ⟨vp_in_nI hs (by decide), k1_v Z _ ?_⟩
    rw [jl 1 (by omega), jl 2 (by omega), x79, x1_v, x2_v, nI_1, nI_1]
    have e1_v : nI (f_v + 1) - nI (f_v + 1) / 6 * 6 = nI ((f_v + 1) % 6) := by rw [show (6 : Int32) = nI 6 from rfl, pk_rem (by omega) (by omega) (by decide)]
    rw [e1_v]
    exact k_v
  -- an older quay is_v as_v it was
  have old_v : ∀ (i_v : Nat) (X2 : Mm) (r_v : Nat → Int32), i_v < c → (f_v + i_v) % 6 ≠ (f_v + c) % 6 → (∀ a_v, ¬ (a_v = 79) → X2 a_v = X1 a_v) → (∀ k_v, k_v < 135 → r_v k_v = Y 161 (135 * i_v + k_v)) → IQ N_v X2 (qr ((f_v + i_v) % 6)) r_v ∧ WQ N_v np nb X2 (qr ((f_v + i_v) % 6)) := by
    intro i_v X2 r_v hi_v hne h2 hrr
    have hi6 : (f_v + i_v) % 6 < 6 := Nat.mod_lt _ (by omega)
    obtain ⟨w1_v, w2_v⟩ := qr_rng ((f_v + i_v) % 6)
    have hdis := (qr_isQ hi6).ne hq (qr_inj hi6 hs hne)
    have hd_v : ∀ d_v, d_v ≤ 6 → X2 (qr ((f_v + i_v) % 6) + d_v) = X (qr ((f_v + i_v) % 6) + d_v) := fun d_v hd_v => by
      rw [h2 _ (by omega), k2_v.1 _ (by omega)]
    exact ⟨(hr i_v hi_v).1.cg hrr hd_v, (hr i_v hi_v).2.cg hd_v⟩
  have new_v : ∀ (X2 : Mm) (r_v : Nat → Int32), (∀ a_v, ¬ (a_v = 79) → X2 a_v = X1 a_v) → (∀ k_v, k_v < 135 → r_v k_v = Y 160 k_v) → IQ N_v X2 (qr ((f_v + c) % 6)) r_v ∧ WQ N_v np nb X2 (qr ((f_v + c) % 6)) := by
    intro X2 r_v h2 hrr
    have hd_v : ∀ d_v, d_v ≤ 6 → X2 (qr ((f_v + c) % 6) + d_v) = X1 (qr ((f_v + c) % 6) + d_v) := fun d_v hd_v => h2 _ (by omega)
    exact ⟨(hQ.cq (N' := N_v) k2_v hrr).cg (fun _ _ => rfl) hd_v, (hW.cq k2_v).cg hd_v⟩
  by_cases c6_v : c = 6
  · subst c6_v
    have e6_v : (f_v + 6) % 6 = f_v := by omega
    rw [e6_v] at old_v new_v
    refine ⟨m_up X1 79 1 (nI ((f_v + 1) % 6)), m_up (cpR (shR (m_up Y 159 3 (nI 5)) 675) 675 135) 159 3 (nI 6), fun Z K k_v => cH Z K ⟨fun _ M6_v e_v => ?_, fun z_v => absurd (by decide) z_v⟩, fun Z K k_v => ?_, ⟨(f_v + 1) % 6, 6, Nat.mod_lt _ (by omega), by omega, by simp [mu], ?_, by simp [mu], fun i_v hi_v => ?_⟩, fun a_v ha_v => ?_, fun a_v j_v h1 h2 => ?_⟩
    · rw [e_v, jn_upl (by omega)]
      exact k_v
    · rw [T_X12_keepsAhead, jh 3 (by omega), y3]
      refine ⟨fun _ M13 e13_v => ?_, fun z_v => absurd rfl z_v⟩
      have e_v : M13 = jn Z (shR (m_up Y 159 3 (nI 5)) 0) := by
        rw [e13_v, jn_uph (by omega), shR_0]
        rfl
      rw [e_v]
      refine shR_lp (by simp [mu]) ?_ 5000 0 (by omega) (by omega)
      rw [T_X12_keepsAhead_55]
      have y5 : shR (m_up Y 159 3 (nI 5)) 675 159 3 = nI 5 := by
        unfold shR
        rw [if_neg (by omega), mu, if_pos ⟨rfl, rfl⟩]
      have := cpR_lp (c := 5) (Y := shR (m_up Y 159 3 (nI 5)) 675) (Z := Z) (K := K) (by omega) y5 k_v 5000 0 (by omega) (by omega)
      rw [cpR_0] at this
      exact this
    · rw [mu, if_neg (by omega), x79]
      exact x2_v
    · have ha_v : ∀ a_v, ¬ (a_v = 79) → m_up X1 79 1 (nI ((f_v + 1) % 6)) a_v = X1 a_v := fun a_v ha_v => m_up_ne ha_v
      by_cases i5_v : i_v = 5
      · subst i5_v
        have es : ((f_v + 1) % 6 + 5) % 6 = f_v := by omega
        rw [es]
        refine new_v _ _ ha_v (fun k_v hk => ?_)
        simp only [mu]
        rw [if_neg (by omega)]
        unfold cpR shR
        rw [if_pos (by omega), if_neg (by omega), mu, if_neg (by omega), show 135 * 5 + k_v - 675 = k_v by omega]
      · have es : ((f_v + 1) % 6 + i_v) % 6 = (f_v + (i_v + 1)) % 6 := by omega
        rw [es]
        refine old_v (i_v + 1) _ _ (by omega) (by omega) ha_v (fun k_v hk => ?_)
        simp only [mu]
        rw [if_neg (by omega)]
        unfold cpR shR
        rw [if_neg (by omega), if_pos (by omega), mu, if_neg (by omega)]
        congr 1; omega
    · rw [m_up_ne (by omega)]
      exact k2_v.1 a_v (by omega)
    · rw [mu, if_neg h2]
      unfold cpR shR
      rw [if_neg (by omega), if_neg (by omega), mu, if_neg h2]
  · have c6' : ¬ (6 : Int32) ≤ nI c := nI_ge (b := 6) (by omega) (by decide)
    refine ⟨m_up X1 79 2 (nI (c + 1)), m_up (cpR Y (135 * c) 135) 159 3 (nI (c + 1)), fun Z K k_v => cH Z K ⟨fun z_v => absurd z_v c6', fun _ M7_v e_v => ?_⟩, fun Z K k_v => ?_, ⟨f_v, c + 1, hf, by omega, ?_, by simp [mu], by simp [mu], fun i_v hi_v => ?_⟩, fun a_v ha_v => ?_, fun a_v j_v h1 h2 => ?_⟩
    · rw [e_v, jn_upl (by omega)]
      exact k_v
    · rw [T_X12_keepsAhead, jh 3 (by omega), y3]
      refine ⟨fun z_v => absurd ((nI_eq (b := 6) (by omega) (by decide)).mp z_v) c6_v, fun _ => ?_⟩
      rw [T_X12_keepsAhead_55]
      have := cpR_lp (c := c) (Y := Y) (Z := Z) (K := K) (by omega) y3 k_v 5000 0 (by omega) (by omega)
      rw [cpR_0] at this
      exact this
    · rw [mu, if_neg (by omega), x79]
      exact x1_v
    · have ha_v : ∀ a_v, ¬ (a_v = 79) → m_up X1 79 2 (nI (c + 1)) a_v = X1 a_v := fun a_v ha_v => m_up_ne ha_v
      by_cases ic : i_v = c
      · subst ic
        refine new_v _ _ ha_v (fun k_v hk => ?_)
        simp only [mu]
        rw [if_neg (by omega)]
        unfold cpR
        rw [if_pos (by omega)]
        congr 1; omega
      · refine old_v i_v _ _ (by omega) (by omega) ha_v (fun k_v hk => ?_)
        simp only [mu]
        rw [if_neg (by omega)]
        unfold cpR
        rw [if_neg (by omega)]
    · rw [m_up_ne (by omega)]
      exact k2_v.1 a_v (by omega)
    · rw [mu, if_neg h2]
      unfold cpR
      rw [if_neg (by omega)]
