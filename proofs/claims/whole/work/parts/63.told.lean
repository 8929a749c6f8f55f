theorem sm_nI {k n : Nat} (h : k ≤ n) : sm (nI k) n := ⟨k, h, rfl⟩
theorem sm_up {x : Int32} {a b : Nat} (h : sm x a) (hab : a ≤ b) : sm x b := by
  obtain ⟨k, h1, h2⟩ := h
  exact ⟨k, by omega, h2⟩
/-- all but what is told for thought stays -/
theorem Inv.told {N : Nat} {M M' : Mm} (h : Inv N M) (hr : ∀ a, ¬ (30 ≤ a ∧ a ≤ 39) → a ≠ 159 → a ≠ 184 → a ≠ 187 → a ≠ 188 → a ≠ 190 → a ≠ 193 → a ≠ 194 → a ≠ 195 → a ≠ 196 → a ≠ 197 → M' a = M a) (hf : ∀ j, j ≠ 0 → j ≠ 51 → j ≠ 53 → j ≠ 59 → j ≠ 62 → j ≠ 65 → M' 159 j = M 159 j) (hT : IT M' 1 (vn M')) : Inv N M' := by
  obtain ⟨np, nb, ⟨hC, ⟨hQ, hW⟩, hB, hL, hP, -⟩, hU, hX⟩ := h
  have R : ∀ a, ¬ (30 ≤ a ∧ a ≤ 39) → a ≤ 158 → M' a = M a := fun a h1 h2 => hr a h1 (by omega) (by omega) (by omega) (by omega) (by omega) (by omega) (by omega) (by omega) (by omega) (by omega)
  have Q : ∀ a, 160 ≤ a → a ≤ 183 → M' a = M a := fun a h1 h2 => hr a (by omega) (by omega) (by omega) (by omega) (by omega) (by omega) (by omega) (by omega) (by omega) (by omega) (by omega)
  refine ⟨np, nb, ⟨?_, ⟨?_, ?_⟩, ?_, ?_, ?_, hT⟩, ?_, ?_⟩
  · refine hC.cg (fun d h1 h2 => R _ (by omega) (by omega)) (hf 6 (by omega) (by omega) (by omega) (by omega) (by omega) (by omega)) (hf 7 (by omega) (by omega) (by omega) (by omega) (by omega) (by omega)) (fun k h1 h2 => ?_)
    match k, h1, h2 with
    | 2, _, _ => exact Q 163 (by omega) (by omega)
    | 3, _, _ => exact Q 164 (by omega) (by omega)
    | 4, _, _ => exact Q 165 (by omega) (by omega)
    | 5, _, _ => exact Q 166 (by omega) (by omega)
    | 6, _, _ => exact Q 167 (by omega) (by omega)
  · exact hQ.cg (fun i _ => congrFun (Q 160 (by omega) (by omega)) i) (fun d hd => R _ (by omega) (by omega))
  · exact hW.cg (fun d hd => R _ (by omega) (by omega))
  · intro i hi
    show M' 168 i = M' 15 i
    rw [Q 168 (by omega) (by omega), R 15 (by omega) (by omega)]
    exact hB i hi
  · refine hL.cg (fun d h1 h2 => R _ (by omega) (by omega)) (fun k h1 h2 => ?_)
    match k, h1, h2 with
    | 20, _, _ => exact Q 171 (by omega) (by omega)
    | 21, _, _ => exact Q 172 (by omega) (by omega)
    | 22, _, _ => exact Q 173 (by omega) (by omega)
    | 23, _, _ => exact Q 174 (by omega) (by omega)
    | 24, _, _ => exact Q 175 (by omega) (by omega)
    | 25, _, _ => exact Q 176 (by omega) (by omega)
    | 26, _, _ => exact Q 177 (by omega) (by omega)
    | k + 27, _, h => exact absurd h (by omega)
  · refine hP.cg (fun d h1 h2 => R _ (by omega) (by omega)) (fun i h1 h2 => ?_) (Q 179 (by omega) (by omega)) (Q 181 (by omega) (by omega)) (Q 180 (by omega) (by omega))
    match i, h1, h2 with
    | 2, _, _ => exact hf 37 (by omega) (by omega) (by omega) (by omega) (by omega) (by omega)
    | 3, _, _ => exact hf 39 (by omega) (by omega) (by omega) (by omega) (by omega) (by omega)
    | 4, _, _ => exact hf 41 (by omega) (by omega) (by omega) (by omega) (by omega) (by omega)
  · exact hU.cg (fun a h1 h2 => R _ (by omega) (by omega)) (Q 161 (by omega) (by omega)) (hf 3 (by omega) (by omega) (by omega) (by omega) (by omega) (by omega))
  · exact hX.cg (fun a h1 h2 => R _ (by omega) (by omega)) (R _ (by omega) (by omega)) (R _ (by omega) (by omega)) (R _ (by omega) (by omega)) (R _ (by omega) (by omega)) (R _ (by omega) (by omega)) (Q 169 (by omega) (by omega)) (Q 170 (by omega) (by omega)) (hr 199 (by omega) (by omega) (by omega) (by omega) (by omega) (by omega) (by omega) (by omega) (by omega) (by omega) (by omega)) (fun j hj => hf j (by omega) (by omega) (by omega) (by omega) (by omega) (by omega))
set_option maxHeartbeats 1000000 in
theorem ag_weighs {N : Nat} {M : Mm} (h : Inv N M) (x y : Int32) : Ag (T_X11_weighs x y) (T_X12_weighs x y) N M := by
  by_cases c1 : (1 : Int32) ≤ x ∧ x ≤ 7
  · by_cases c2 : (0 : Int32) ≤ y ∧ y ≤ 99
    · obtain ⟨k, hk1, hk2, rfl⟩ := rng (a := 1) (b := 7) (by decide) (by decide) c1
      obtain ⟨j, -, hj2, rfl⟩ := rng (a := 0) (b := 99) (by decide) (by decide) c2
      have hv : vp_in (nI k) 8 := vp_in_nI (by omega) (by decide)
      have hc : (nI k).toNatClampNeg = k := nI_clamp (by omega)
      refine ⟨1, m_up M 31 k (nI j), m_up (m_up (m_up M 31 k (nI j)) 159 0 0) 184 k (nI j), fun K q => by simpa [T_X11_weighs, iw_pos c1, iw_pos c2, hv, hc] using q, fun K q => by simpa [T_X12_weighs, ii_pos c1, ii_pos c2, hv, hc] using q, ?_⟩
      obtain ⟨np, nb, ⟨-, -, -, -, -, hT⟩, -, -⟩ := id h
      refine h.told (fun a h1 h2 h3 _ _ _ _ _ _ _ _ => by rw [m_up_ne h3, m_up_ne h2, m_up_ne (by omega)]) (fun i h1 _ _ _ _ _ => by rw [mu, if_neg (by omega), mu, if_neg (by omega), mu, if_neg (by omega)]) ?_
      obtain ⟨t1, t2⟩ := hT
      refine ⟨fun i hi => ?_, ?_⟩
      · by_cases e : i = k
        · subst e
          have hk0 : ¬ i = 0 := by omega
          simp [vn, mu, hk0, sm_nI hj2]
        · simpa [vn, mu, e] using t1 i hi
      · simpa [vn, mu] using t2
    · exact ⟨0, M, _, fun K q => by simpa [T_X11_weighs, iw_pos c1, iw_neg c2] using q, fun K q => by simpa [T_X12_weighs, ii_pos c1, ii_neg c2] using q, h.t0 (x := 0)⟩
  · exact ⟨0, M, _, fun K q => by simpa [T_X11_weighs, iw_neg c1] using q, fun K q => by simpa [T_X12_weighs, ii_neg c1] using q, h.t0 (x := 0)⟩
