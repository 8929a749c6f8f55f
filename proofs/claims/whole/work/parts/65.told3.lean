set_option maxHeartbeats 2000000 in
theorem ag_put {N : Nat} {M : Mm} (h : Inv N M) (x y : Int32) : Ag (T_X11_put x y) (T_X12_put x y) N M := by
  obtain ⟨np, nb, ⟨-, -, -, -, -, hT⟩, -, -⟩ := id h
  obtain ⟨t1, t2, t3, t4, t5, ⟨e1, ⟨c, hc, ec⟩, t6⟩, t7, t8⟩ := hT
  have ec : M 30 11 = nI c := ec
  have e2 : M 159 59 = nI c := e1.trans ec
  by_cases c0 : x = -1
  · subst c0
    refine ⟨0, m_up M 30 11 0, m_up (m_up (m_up M 30 11 0) 159 0 0) 159 59 0, fun K q => by simpa [T_X11_put] using q, fun K q => by simpa [T_X12_put] using q, ?_⟩
    refine h.told (fun a h1 h2 h3 _ _ _ _ _ _ _ _ => by repeat rw [m_up_ne (by omega)]) (fun j h1 _ _ _ _ _ => by repeat rw [mu, if_neg (by omega)]) ⟨by simpa [vn, mu] using t1, by simpa [vn, mu] using t2, by simpa [vn, mu] using t3, by simpa [vn, mu] using t4, by simpa [vn, mu] using t5, ⟨by simp [vn, mu], ⟨0, by omega, by simp [mu]; rfl⟩, fun i hi => by simpa [vn, mu] using t6 i hi⟩, by simpa [vn, mu] using t7, by simpa [vn, mu] using t8⟩
  by_cases c1 : (0 : Int32) ≤ x ∧ x ≤ 99
  rotate_left
  · exact ⟨-1, M, _, fun K q => by simpa [T_X11_put, c0, iw_neg c1] using q, fun K q => by simpa [T_X12_put, c0, ii_neg c1] using q, h.t0 (x := 0)⟩
  by_cases c2 : (0 : Int32) ≤ y ∧ y ≤ 9
  rotate_left
  · exact ⟨-1, M, _, fun K q => by simpa [T_X11_put, c0, iw_pos c1, iw_neg c2] using q, fun K q => by simpa [T_X12_put, c0, ii_pos c1, ii_neg c2] using q, h.t0 (x := 0)⟩
  by_cases cf : c = 7
  · subst cf
    have g1 : (7 : Int32) ≤ nI 7 := by decide
    exact ⟨-1, M, _, fun K q => by simpa [T_X11_put, c0, iw_pos c1, iw_pos c2, ec, g1, Int32.not_lt.mpr g1] using q, fun K q => by simpa [T_X12_put, c0, ii_pos c1, ii_pos c2, mu, show M 159 59 = 7 from e2] using q, h.t0 (x := 0)⟩
  have g1 : nI c < 7 := lt_nI hc (by decide) cf
  have g1' : ¬ (7 : Int32) ≤ nI c := Int32.not_le.mpr g1
  have g2 : ¬ nI c = 7 := ne_nI hc (by decide) cf
  have g3 : vp_in (nI c) 7 := vp_in_nI (by omega) (by decide)
  have g5 : (nI c).toNatClampNeg = c := nI_clamp (by omega)
  obtain ⟨k, -, hk2, ek⟩ := rng (a := 0) (b := 99) (by decide) (by decide) c1
  obtain ⟨k2, -, hk22, ek2⟩ := rng (a := 0) (b := 9) (by decide) (by decide) c2
  have sx : sm x 99 := ⟨k, hk2, ek⟩
  have sy : sm y 9 := ⟨k2, hk22, ek2⟩
  refine ⟨nI (c + 1), (m_up (m_up (m_up M 35 c x) 36 c y) 30 11 (nI (c + 1))), (m_up (m_up (m_up (m_up (m_up (m_up (m_up M 35 c x) 36 c y) 30 11 (nI (c + 1))) 159 0 0) 193 c x) 194 c y) 159 59 (nI (c + 1))), fun K q => by simpa [T_X11_put, c0, iw_pos c1, iw_pos c2, g1, g1', g3, mu, ec, g5, nI_1] using q, fun K q => by simpa [T_X12_put, c0, ii_pos c1, ii_pos c2, g2, g3, mu, e2, g5, nI_1] using q, ?_⟩
  refine h.told (fun a h1 h2 h3 _ _ _ _ _ _ _ _ => by repeat rw [m_up_ne (by omega)]) (fun j h1 _ _ _ _ _ => by repeat rw [mu, if_neg (by omega)]) ⟨by simpa [vn, mu] using t1, by simpa [vn, mu] using t2, by simpa [vn, mu] using t3, by simpa [vn, mu] using t4, by simpa [vn, mu] using t5, ⟨by simp [vn, mu], ⟨c + 1, by omega, by simp [mu]⟩, fun i hi => ?_⟩, by simpa [vn, mu] using t7, by simpa [vn, mu] using t8⟩
  have a1 := t6 i hi
  by_cases e : i = c
  · subst e
    simp [vn, mu, sx, sy]
  · simpa [vn, mu, e] using a1
set_option maxHeartbeats 2000000 in
theorem ag_clue {N : Nat} {M : Mm} (h : Inv N M) (x y : Int32) : Ag (T_X11_clue x y) (T_X12_clue x y) N M := by
  obtain ⟨np, nb, ⟨-, -, -, -, -, hT⟩, -, -⟩ := id h
  obtain ⟨t1, t2, t3, t4, t5, t6, ⟨e1, ⟨c, hc, ec⟩, t7⟩, t8⟩ := hT
  have ec : M 30 12 = nI c := ec
  have e2 : M 159 62 = nI c := e1.trans ec
  by_cases c0 : x = -1
  · subst c0
    refine ⟨0, m_up M 30 12 0, m_up (m_up (m_up M 30 12 0) 159 0 0) 159 62 0, fun K q => by simpa [T_X11_clue] using q, fun K q => by simpa [T_X12_clue] using q, ?_⟩
    refine h.told (fun a h1 h2 h3 _ _ _ _ _ _ _ _ => by repeat rw [m_up_ne (by omega)]) (fun j h1 _ _ _ _ _ => by repeat rw [mu, if_neg (by omega)]) ⟨by simpa [vn, mu] using t1, by simpa [vn, mu] using t2, by simpa [vn, mu] using t3, by simpa [vn, mu] using t4, by simpa [vn, mu] using t5, by simpa [vn, mu] using t6, ⟨by simp [vn, mu], ⟨0, by omega, by simp [mu]; rfl⟩, fun i hi => by simpa [vn, mu] using t7 i hi⟩, by simpa [vn, mu] using t8⟩
  by_cases c1 : (0 : Int32) ≤ x ∧ x ≤ 65535
  rotate_left
  · exact ⟨-1, M, _, fun K q => by simpa [T_X11_clue, c0, iw_neg c1] using q, fun K q => by simpa [T_X12_clue, c0, ii_neg c1] using q, h.t0 (x := 0)⟩
  by_cases cf : c = 8
  · subst cf
    have g1 : (8 : Int32) ≤ nI 8 := by decide
    exact ⟨-1, M, _, fun K q => by simpa [T_X11_clue, c0, iw_pos c1, ec, g1, Int32.not_lt.mpr g1] using q, fun K q => by simpa [T_X12_clue, c0, ii_pos c1, mu, show M 159 62 = 8 from e2] using q, h.t0 (x := 0)⟩
  have g1 : nI c < 8 := lt_nI hc (by decide) cf
  have g1' : ¬ (8 : Int32) ≤ nI c := Int32.not_le.mpr g1
  have g2 : ¬ nI c = 8 := ne_nI hc (by decide) cf
  have g3 : vp_in (nI c) 8 := vp_in_nI (by omega) (by decide)
  have g5 : (nI c).toNatClampNeg = c := nI_clamp (by omega)
  obtain ⟨k, -, hk2, ek⟩ := rng (a := 0) (b := 65535) (by decide) (by decide) c1
  have sx : sm x 65535 := ⟨k, hk2, ek⟩
  obtain ⟨b, eb⟩ : ∃ b : Int32, b = if y = 0 then 0 else 1 := ⟨_, rfl⟩
  refine ⟨nI (c + 1), (m_up (m_up (m_up M 37 c x) 38 c b) 30 12 (nI (c + 1))), (m_up (m_up (m_up (m_up (m_up (m_up (m_up M 37 c x) 38 c b) 30 12 (nI (c + 1))) 159 0 0) 195 c x) 196 c b) 159 62 (nI (c + 1))), fun K q => by by_cases cy : y = 0 <;> simpa [T_X11_clue, T_X11_clue_97, eb, cy, c0, iw_pos c1, g1, g1', g3, mu, ec, g5, nI_1] using q, fun K q => by by_cases cy : y = 0 <;> simpa [T_X12_clue, T_X12_clue_67, eb, cy, c0, ii_pos c1, g2, g3, mu, e2, g5, nI_1] using q, ?_⟩
  refine h.told (fun a h1 h2 h3 _ _ _ _ _ _ _ _ => by repeat rw [m_up_ne (by omega)]) (fun j h1 _ _ _ _ _ => by repeat rw [mu, if_neg (by omega)]) ⟨by simpa [vn, mu] using t1, by simpa [vn, mu] using t2, by simpa [vn, mu] using t3, by simpa [vn, mu] using t4, by simpa [vn, mu] using t5, by simpa [vn, mu] using t6, ⟨by simp [vn, mu], ⟨c + 1, by omega, by simp [mu]⟩, fun i hi => ?_⟩, by simpa [vn, mu] using t8⟩
  have a1 := t7 i hi
  by_cases e : i = c
  · subst e
    simp [vn, mu, sx]
  · simpa [vn, mu, e] using a1
set_option maxHeartbeats 2000000 in
theorem ag_police {N : Nat} {M : Mm} (h : Inv N M) (x : Int32) : Ag (T_X11_police x) (T_X12_police x) N M := by
  obtain ⟨np, nb, ⟨-, -, -, -, -, hT⟩, -, -⟩ := id h
  obtain ⟨t1, t2, t3, t4, t5, t6, t7, ⟨e1, ⟨c, hc, ec⟩, t8⟩⟩ := hT
  have ec : M 30 13 = nI c := ec
  have e2 : M 159 65 = nI c := e1.trans ec
  by_cases c0 : x = -1
  · subst c0
    refine ⟨0, m_up M 30 13 0, m_up (m_up (m_up M 30 13 0) 159 0 0) 159 65 0, fun K q => by simpa [T_X11_police] using q, fun K q => by simpa [T_X12_police] using q, ?_⟩
    refine h.told (fun a h1 h2 h3 _ _ _ _ _ _ _ _ => by repeat rw [m_up_ne (by omega)]) (fun j h1 _ _ _ _ _ => by repeat rw [mu, if_neg (by omega)]) ⟨by simpa [vn, mu] using t1, by simpa [vn, mu] using t2, by simpa [vn, mu] using t3, by simpa [vn, mu] using t4, by simpa [vn, mu] using t5, by simpa [vn, mu] using t6, by simpa [vn, mu] using t7, ⟨by simp [vn, mu], ⟨0, by omega, by simp [mu]; rfl⟩, fun i hi => by simpa [vn, mu] using t8 i hi⟩⟩
  by_cases c1 : (0 : Int32) ≤ x ∧ x ≤ 999
  rotate_left
  · exact ⟨-1, M, _, fun K q => by simpa [T_X11_police, c0, iw_neg c1] using q, fun K q => by simpa [T_X12_police, c0, ii_neg c1] using q, h.t0 (x := 0)⟩
  by_cases cf : c = 20
  · subst cf
    have g1 : (20 : Int32) ≤ nI 20 := by decide
    exact ⟨-1, M, _, fun K q => by simpa [T_X11_police, c0, iw_pos c1, ec, g1, Int32.not_lt.mpr g1] using q, fun K q => by simpa [T_X12_police, c0, ii_pos c1, mu, show M 159 65 = 20 from e2] using q, h.t0 (x := 0)⟩
  have g1 : nI c < 20 := lt_nI hc (by decide) cf
  have g1' : ¬ (20 : Int32) ≤ nI c := Int32.not_le.mpr g1
  have g2 : ¬ nI c = 20 := ne_nI hc (by decide) cf
  have g3 : vp_in (nI c) 20 := vp_in_nI (by omega) (by decide)
  have g5 : (nI c).toNatClampNeg = c := nI_clamp (by omega)
  obtain ⟨k, -, hk2, ek⟩ := rng (a := 0) (b := 999) (by decide) (by decide) c1
  have sx : sm x 999 := ⟨k, hk2, ek⟩
  refine ⟨nI (c + 1), (m_up (m_up M 39 c x) 30 13 (nI (c + 1))), (m_up (m_up (m_up (m_up (m_up M 39 c x) 30 13 (nI (c + 1))) 159 0 0) 197 c x) 159 65 (nI (c + 1))), fun K q => by simpa [T_X11_police, c0, iw_pos c1, g1, g1', g3, mu, ec, g5, nI_1] using q, fun K q => by simpa [T_X12_police, c0, ii_pos c1, g2, g3, mu, e2, g5, nI_1] using q, ?_⟩
  refine h.told (fun a h1 h2 h3 _ _ _ _ _ _ _ _ => by repeat rw [m_up_ne (by omega)]) (fun j h1 _ _ _ _ _ => by repeat rw [mu, if_neg (by omega)]) ⟨by simpa [vn, mu] using t1, by simpa [vn, mu] using t2, by simpa [vn, mu] using t3, by simpa [vn, mu] using t4, by simpa [vn, mu] using t5, by simpa [vn, mu] using t6, by simpa [vn, mu] using t7, ⟨by simp [vn, mu], ⟨c + 1, by omega, by simp [mu]⟩, fun i hi => ?_⟩⟩
  have a1 := t8 i hi
  by_cases e : i = c
  · subst e
    simp [vn, mu, sx]
  · simpa [vn, mu, e] using a1
