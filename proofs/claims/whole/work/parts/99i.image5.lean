set_option maxHeartbeats 4000000 in
theorem ay_image {N : Nat} {M : Mm} (h : Inv N M) (x : Int32) (hx : x = 0 ∨ x = 1) : Ay (T_X11_image x) (T_X12_image x) N M := by
  have hf := h.t0 (x := 0)
  obtain ⟨np, nb, hI, hU, hX⟩ := id h
  have hX2 := hX.two
  obtain ⟨w1, w2, w3, w4, w5, w6, w7, ⟨w8, w9⟩, w10⟩ := id hX2
  rcases hx with rfl | rfl
  · -- gone back to
    rcases w9 with z9 | z9
    · refine Ah.ay (Ag.ah ⟨0, M, m_up M 159 0 0, fun K q => ?_, fun K q => ?_, hf⟩)
      · rw [T_X11_image, z9]
        exact ⟨fun _ => ⟨fun _ => q, fun z => absurd rfl z⟩, fun z => absurd rfl z⟩
      · rw [T_X12_image]
        intro M1 e1
        subst e1
        rw [w8, z9]
        exact ⟨fun _ => ⟨fun _ => q, fun z => absurd rfl z⟩, fun z => absurd rfl z⟩
    · obtain ⟨np', nb', hJ⟩ := w10 z9
      have n9 : ¬ M 0 9 = 0 := by rw [z9]; decide
      obtain ⟨-, nz, -, hz, -, -, ez, -⟩ := id hJ.2.2.2.1
      intro K1 k
      have cls : T_X11_image 0 (jn M M) K1 := by
        rw [T_X11_image, jl 9 (by omega)]
        refine ⟨fun _ => ⟨fun z => absurd z n9, fun _ => ?_⟩, fun z => absurd rfl z⟩
        refine whole_cp (X := M) (Z := M) (Or.inl ⟨rfl, rfl⟩) hz ez (fun X' hp => ?_)
        rw [T_X4_forget]
        intro M1 e1 M2 e2
        rw [jn_upl (by omega)] at e1
        rw [e1, jn_upl (by omega)] at e2
        rw [e2]
        refine k 1 _ (fun K2 k2 => ?_)
        rw [T_X12_image]
        intro M29 e29
        rw [jn_uph (by omega)] at e29
        subst e29
        rw [jh 69 (by omega), w8]
        refine ⟨fun _ => ⟨fun z => absurd z n9, fun _ => ?_⟩, fun z => absurd rfl z⟩
        rw [T_X12_image_18]
        refine ⟨Or.inl rfl, fun M25 e25 M27 e27 M28 e28 => ?_⟩
        rw [e28, e27, e25, jn_uph (by omega), jn_uph (by omega), jn_uph (by omega)]
        refine kl_all (md := 0) (Y := m_up (m_up (m_up (m_up M 159 0 0) 159 68 0) 159 69 1) 159 70 0) ⟨by simp [mu]; rfl, by simp [mu], Or.inr ⟨rfl, fun n hn => absurd hn (by omega), fun a j _ _ => rfl⟩⟩ (fun Y1 h1 => ⟨fun _ => k2 _ ?_, fun z => absurd rfl z⟩)
        obtain ⟨-, -, g⟩ := h1
        obtain ⟨-, g2, g3⟩ := g.resolve_left (fun z => z.1 rfl)
        -- cells_v that are not kept_v
        have un : ∀ a j, (a = 199 ∨ a = 169 ∨ a = 170 ∨ (a = 159 ∧ (j = 5 ∨ j = 15 ∨ j = 35 ∨ j = 36 ∨ j = 69))) → Y1 a j = m_up (m_up (m_up (m_up M 159 0 0) 159 68 0) 159 69 1) 159 70 0 a j := fun a j ha => by
          refine g3 a j (fun n hn z => ?_) (by omega)
          obtain ⟨m1, m2, m3, m4⟩ := adr_no n hn
          rw [z] at m1 m2 m3 m4
          rcases ha with c | c | c | c
          · exact m1 c
          · exact m2 c
          · exact m3 c
          · have := m4 c.1
            have e2 : ((a, j) : Nat × Nat).2 = j := rfl
            rw [e2] at this
            omega
        have u199 : ∀ n, Y1 199 n = M 199 n := fun n => by rw [un 199 n (by omega), m_up_ne (by omega), m_up_ne (by omega), m_up_ne (by omega), m_up_ne (by omega)]
        have V : ∀ g i, vpl g i → vn (m_up Y1 159 3 0) g i = vi M g i := by
          intro g i hv
          have hh : ∀ n, n < 1947 → M 199 n = m_up Y1 159 3 0 (adr n).1 (adr n).2 := fun n hn => by
            have m4 := (adr_no n hn).2.2.2
            rw [mu, if_neg (fun w => (m4 w.1).2.1 w.2), g2 n hn, m_up_ne (by omega), m_up_ne (by omega), m_up_ne (by omega), m_up_ne (by omega)]
          exact (vi_adr hh g i hv).symm
        have E : ∀ t j, wpl t j → m_up (m_up X' 79 1 0) 79 2 0 (1 + t) j = M (40 + t) j := fun t j hw => by
          have ht : 1 ≤ t ∧ t ≤ 38 := by unfold wpl at hw; omega
          rw [m_up_ne (by omega), m_up_ne (by omega)]
          exact hp.2 t j ht.1 ht.2 (Or.inl hw)
        have Ec : ∀ nz', nz' ≤ 400 → M (40 + 15) 6 = nI nz' → ∀ j, j < nz' → m_up (m_up X' 79 1 0) 79 2 0 (1 + 16) j = M (40 + 16) j := fun nz' h1 h2 j hj => by
          have : nz' = nz := (nI_eq (by omega) (by omega)).mp (h2.symm.trans ez)
          rw [m_up_ne (by omega), m_up_ne (by omega)]
          exact hp.2 16 j (by omega) (by omega) (Or.inr ⟨rfl, by omega⟩)
        obtain ⟨jC, ⟨jQ, jW⟩, jB, jL, jP, jT⟩ := IW.ve (w' := 1) (M' := m_up (m_up X' 79 1 0) 79 2 0) (v' := vn (m_up Y1 159 3 0)) hJ E Ec V
        have eX : ∀ a, ¬ (2 ≤ a ∧ a ≤ 39) → a ≠ 79 → m_up (m_up X' 79 1 0) 79 2 0 a = M a := fun a z1 z2 => by
          rw [m_up_ne z2, m_up_ne z2]
          exact hp.1 a (by omega)
        refine Inv.mono (N := N) (mk3 (np := np') (nb := nb') jC ⟨jQ, jW, jB⟩ jL jP jT ⟨0, 0, by omega, by omega, by simp [mu]; rfl, by simp [mu]; rfl, by simp [mu]; rfl, fun i hi => absurd hi (by omega)⟩ ?_) (by omega)
        obtain ⟨kk, k1, k3, k4⟩ := w1
        refine ⟨⟨kk, k1, by rw [eX 132 (by omega) (by omega)]; exact k3, ?_⟩, fun i hi => ?_, ?_, ?_, ?_, by rw [eX 130 (by omega) (by omega)]; exact w6, by rw [eX 131 (by omega) (by omega)]; exact w7, ⟨?_, by rw [eX 0 (by omega) (by omega)]; exact Or.inr z9⟩, fun _ => ⟨np', nb', IW40.cg (X := M) (Y := M) (by
          have ev : vi (m_up M 159 0 0) = vi M := by
            unfold vi
            rw [m_up_ne (by omega)]
          rw [ev] at hJ
          exact hJ) (fun a h1 h2 => eX a (by omega) (by omega)) (funext fun n => by rw [m_up_ne (by omega)]; exact u199 n)⟩⟩
        · rw [mu, if_neg (by omega), un 159 15 (by omega)]
          simpa [mu] using k4
        · rw [show m_up Y1 159 3 0 169 = Y1 169 from m_up_ne (by omega), show m_up Y1 159 3 0 170 = Y1 170 from m_up_ne (by omega), un 169 i (by omega), un 170 i (by omega), eX 133 (by omega) (by omega)]
          have := w2 i hi
          simpa [mu] using this
        · rw [mu, if_neg (by omega), un 159 35 (by omega), eX 0 (by omega) (by omega)]
          simpa [mu] using w3
        · rw [mu, if_neg (by omega), un 159 36 (by omega), eX 0 (by omega) (by omega)]
          simpa [mu] using w4
        · rw [mu, if_neg (by omega), un 159 5 (by omega)]
          simpa [mu] using w5
        · rw [mu, if_neg (by omega), un 159 69 (by omega), eX 0 (by omega) (by omega), z9]
          simp [mu]
      rw [jn_self] at cls
      exact cls
  · -- taken_v
    obtain ⟨-, nz, -, hz, -, -, ez, -⟩ := id hI.2.2.2.1
    intro K1 k
    have cls : T_X11_image 1 (jn M M) K1 := by
      rw [T_X11_image]
      refine ⟨fun z => absurd z (by decide), fun _ => ?_⟩
      refine whole_cp (X := M) (Z := M) (Or.inr ⟨rfl, rfl⟩) hz ez (fun X' hp => ?_)
      intro M9 e9
      rw [jn_upl (by omega)] at e9
      rw [e9]
      refine k 1 _ (fun K2 k2 => ?_)
      rw [T_X12_image]
      intro M29 e29
      rw [jn_uph (by omega)] at e29
      subst e29
      refine ⟨fun z => absurd z (by decide), fun _ => ?_⟩
      rw [T_X12_image_18]
      refine ⟨Or.inr rfl, fun M25 e25 M27 e27 M28 e28 => ?_⟩
      rw [e28, e27, e25, jn_uph (by omega), jn_uph (by omega), jn_uph (by omega)]
      refine kl_all (md := 1) (Y := m_up (m_up (m_up (m_up M 159 0 0) 159 68 1) 159 69 1) 159 70 0) ⟨by simp [mu]; rfl, by simp [mu], Or.inl ⟨by decide, fun n hn => absurd hn (by omega), fun a j _ _ => rfl⟩⟩ (fun Y1 h1 => ⟨fun z => absurd z (by decide), fun _ => k2 _ ?_⟩)
      obtain ⟨-, -, g⟩ := h1
      obtain ⟨-, g2, g3⟩ := g.resolve_right (fun z => absurd z.1 (by decide))
      have yM : ∀ a j, a ≠ 199 → ¬ (a = 159 ∧ (j = 0 ∨ j = 68 ∨ j = 69 ∨ j = 70)) → Y1 a j = M a j := fun a j z1 z2 => by
        rw [g3 a j z1 (by omega), mu, if_neg (by omega), mu, if_neg (by omega), mu, if_neg (by omega), mu, if_neg (by omega)]
      have W : vn Y1 = vn M := by
        funext g i
        unfold vn
        split
        case h_2 => split <;> exact yM _ _ (by omega) (by omega)
        all_goals exact yM _ _ (by omega) (by omega)
      have eX : ∀ a, ¬ (41 ≤ a ∧ a ≤ 78) → a ≠ 0 → m_up X' 0 9 1 a = M a := fun a z1 z2 => by
        rw [m_up_ne z2]
        exact hp.1 a (by omega)
      have eX0 : ∀ j, j ≠ 9 → m_up X' 0 9 1 0 j = M 0 j := fun j hj => by
        rw [mu, if_neg (by omega), hp.1 0 (by omega)]
      obtain ⟨hC, ⟨hQ, hW⟩, hB, hL, hP, hT⟩ := id hI
      refine Inv.mono (N := N) (mk3 (np := np) (nb := nb) (by rw [W]; exact hC.cg (fun d _ _ => eX _ (by omega) (by omega)) rfl rfl (fun _ _ _ => rfl)) ⟨hQ.cg (fun j _ => yM 160 j (by omega) (by omega)) (fun d _ => eX _ (by omega) (by omega)), hW.cg (fun d _ => eX _ (by omega) (by omega)), fun i hi => by rw [yM 168 i (by omega) (by omega), eX 15 (by omega) (by omega)]; exact hB i hi⟩ (by rw [W]; exact hL.cg (fun d _ _ => eX _ (by omega) (by omega)) (fun _ _ _ => rfl)) (by rw [W]; exact hP.cg (fun d _ _ => eX _ (by omega) (by omega)) (fun _ _ _ => rfl) rfl rfl rfl) (by rw [W]; exact hT.cg (fun d _ _ => eX _ (by omega) (by omega)) (fun _ _ _ => rfl) (fun _ _ _ => rfl)) (IU2.cg (X := M) (Y := M) hU (fun a _ _ => eX _ (by omega) (by omega)) (funext fun j => yM 161 j (by omega) (by omega)) (yM 159 3 (by omega) (by omega))) ?_) (by omega)
      obtain ⟨⟨kk, k1, k3, k4⟩, x2, x3, x4, x5, x6, x7, -, -⟩ := id hX
      refine ⟨⟨kk, k1, by rw [eX 132 (by omega) (by omega)]; exact k3, by rw [yM 159 15 (by omega) (by omega)]; exact k4⟩, fun i hi => ?_, by rw [yM 159 35 (by omega) (by omega), eX0 10 (by omega)]; exact x3, by rw [yM 159 36 (by omega) (by omega), eX0 11 (by omega)]; exact x4, by rw [yM 159 5 (by omega) (by omega)]; exact x5, by rw [eX 130 (by omega) (by omega)]; exact x6, by rw [eX 131 (by omega) (by omega)]; exact x7, ⟨?_, Or.inr (by simp [mu])⟩, fun _ => ⟨np, nb, ?_⟩⟩
      · rw [yM 169 i (by omega) (by omega), yM 170 i (by omega) (by omega), eX 133 (by omega) (by omega)]
        exact x2 i hi
      · rw [g3 159 69 (by omega) (by omega)]
        simp [mu]
      · refine IW.ve (w := 1) (v := vn M) hI (fun t j hw => ?_) (fun nz' h1 h2 j hj => ?_) (fun g i hv => ?_)
        · have ht : 1 ≤ t ∧ t ≤ 38 := by unfold wpl at hw; omega
          rw [m_up_ne (by omega)]
          exact hp.2 t j ht.1 ht.2 (Or.inl hw)
        · have : nz' = nz := (nI_eq (by omega) (by omega)).mp (h2.symm.trans ez)
          rw [m_up_ne (by omega)]
          exact hp.2 16 j (by omega) (by omega) (Or.inr ⟨rfl, by omega⟩)
        · refine vi_adr (fun n hn => ?_) g i hv
          obtain ⟨m1, -, -, m4⟩ := adr_no n hn
          rw [g2 n hn]
          have := yM (adr n).1 (adr n).2 m1 (fun w => by have := m4 w.1; omega)
          rw [← this, g3 _ _ m1 (fun w => by have := m4 w.1; omega)]
    rw [jn_self] at cls
    exact cls
