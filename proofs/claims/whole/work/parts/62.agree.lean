/-- class and model agree on a call: one answer r, and all that they have in common holds again -/
def Ag (T1 T2 : Mm → (Int32 → Mm → Prop) → Prop) (N : Nat) (M : Mm) : Prop := ∃ (r : Int32) (M1 M2 : Mm), (∀ K : Int32 → Mm → Prop, K r M1 → T1 M K) ∧ (∀ K : Int32 → Mm → Prop, K r M2 → T2 M1 K) ∧ Inv N M2
theorem iw_pos {x lo hi : Int32} {M : Mm} {K : Int32 → Mm → Prop} (h : lo ≤ x ∧ x ≤ hi) : T_X11_isWithin x lo hi M K ↔ K 1 M := by
  have h1 : ¬ x < lo := Int32.not_lt.mpr h.1
  have h2 : ¬ hi < x := Int32.not_lt.mpr h.2
  simp [T_X11_isWithin, h1, h2]
theorem iw_neg {x lo hi : Int32} {M : Mm} {K : Int32 → Mm → Prop} (h : ¬ (lo ≤ x ∧ x ≤ hi)) : T_X11_isWithin x lo hi M K ↔ K 0 M := by
  by_cases h1 : x < lo
  · simp [T_X11_isWithin, h1]
  · have h2 : hi < x := Int32.not_le.mp fun q => h ⟨Int32.not_lt.mp h1, q⟩
    simp [T_X11_isWithin, h1, h2]
theorem ii_pos {x lo hi : Int32} {M : Mm} {K : Int32 → Mm → Prop} (h : lo ≤ x ∧ x ≤ hi) : T_X12_isIn x lo hi M K ↔ K 1 M := iw_pos h
theorem ii_neg {x lo hi : Int32} {M : Mm} {K : Int32 → Mm → Prop} (h : ¬ (lo ≤ x ∧ x ≤ hi)) : T_X12_isIn x lo hi M K ↔ K 0 M := iw_neg h
theorem Inv.t0 {N : Nat} {M : Mm} {x : Int32} (h : Inv N M) : Inv N (m_up M 159 0 x) := h.fr (fr.rf.up rfl)
theorem ag_fault {N : Nat} {M : Mm} (h : Inv N M) (x : Int32) : Ag (T_X11_fault x) (T_X12_fault x) N M := by
  have hf := h.t0 (x := 0)
  obtain ⟨np, nb, hI, hU, hX⟩ := id h
  obtain ⟨-, -, e1, e2, -⟩ := hX
  by_cases c0 : x = 0
  · subst c0
    exact ⟨M 0 10, M, _, fun K k => by simpa [T_X11_fault] using k, fun K k => by simpa [T_X12_fault, mu, e1] using k, hf⟩
  by_cases c1 : x = 1
  · subst c1
    exact ⟨M 0 11, M, _, fun K k => by simpa [T_X11_fault] using k, fun K k => by simpa [T_X12_fault, mu, e2] using k, hf⟩
  exact ⟨-1, M, _, fun K k => by simpa [T_X11_fault, c0, c1] using k, fun K k => by simpa [T_X12_fault, c0, c1] using k, hf⟩
/-- numbers of Int32 as integers, for omega -/
theorem le_I (a b : Int32) : a ≤ b ↔ a.toInt ≤ b.toInt := Int32.le_iff_toInt_le
theorem lt_I (a b : Int32) : a < b ↔ a.toInt < b.toInt := Int32.lt_iff_toInt_lt
theorem rng {x : Int32} {a b : Nat} (ha : a < 2 ^ 31) (hb : b < 2 ^ 31) (h : nI a ≤ x ∧ x ≤ nI b) : ∃ k : Nat, a ≤ k ∧ k ≤ b ∧ x = nI k := by
  have h1 : ¬ x < 0 := by
    intro q
    have h2 := h.1
    rw [le_I, nI_toInt ha] at h2
    rw [lt_I] at q
    have : (0 : Int32).toInt = 0 := by decide
    omega
  obtain ⟨k, hk, rfl⟩ := nI_of h1
  exact ⟨k, (nI_leI ha hk).mp h.1, (nI_leI hk hb).mp h.2, rfl⟩
/-- all but the quay, the book and what can be undone stays -/
theorem mkInv {N np nb : Nat} {M M' : Mm} (hI : IW N np nb M 1 (vn M)) (hX : IX N M) (hr : ∀ a j, fre a j = false → ¬ (8 ≤ a ∧ a ≤ 15) → a ≠ 160 → ¬ (79 ≤ a ∧ a ≤ 122) → a ≠ 161 → a ≠ 168 → ¬ (a = 159 ∧ j = 3) → M' a j = M a j) (hQ : IQ N M' 8 (M' 160)) (hW : WQ N np nb M' 8) (hB : ∀ i, i < 600 → M' 168 i = M' 15 i) (hU : IU N np nb M') : Inv N M' := by
  obtain ⟨hC, -, -, hL, hP, hT⟩ := hI
  have lo : ∀ d, d < 39 → d ≠ 20 → d ≠ 21 → ¬ (7 ≤ d ∧ d ≤ 14) → M' (1 + d) = M (1 + d) := fun d h1 h2 h3 h4 => funext fun j => hr _ j (fre_lo h1 h2 h3).1 (by omega) (by omega) (by omega) (by omega) (by omega) (by omega)
  have G : ∀ a, (∀ j, fre a j = false) → 162 ≤ a → a ≠ 168 → M' a = M a := fun a h1 h2 h3 => funext fun j => hr a j (h1 j) (by omega) (by omega) (by omega) (by omega) h3 (by omega)
  have F : ∀ j, fre 159 j = false → j ≠ 3 → M' 159 j = M 159 j := fun j h1 h2 => hr 159 j h1 (by omega) (by omega) (by omega) (by omega) (by omega) (by omega)
  refine ⟨np, nb, ⟨?_, ⟨hQ, hW⟩, hB, ?_, ?_, ?_⟩, hU, ?_⟩
  · refine hC.cg (fun d h1 h2 => lo d (by omega) (by omega) (by omega) (by omega)) (F 6 rfl (by omega)) (F 7 rfl (by omega)) (fun k h1 h2 => ?_)
    match k, h1, h2 with
    | 2, _, _ => exact G 163 (fun _ => rfl) (by omega) (by omega)
    | 3, _, _ => exact G 164 (fun _ => rfl) (by omega) (by omega)
    | 4, _, _ => exact G 165 (fun _ => rfl) (by omega) (by omega)
    | 5, _, _ => exact G 166 (fun _ => rfl) (by omega) (by omega)
    | 6, _, _ => exact G 167 (fun _ => rfl) (by omega) (by omega)
  · refine hL.cg (fun d h1 h2 => lo d (by omega) (by omega) (by omega) (by omega)) (fun k h1 h2 => ?_)
    match k, h1, h2 with
    | 20, _, _ => exact G 171 (fun _ => rfl) (by omega) (by omega)
    | 21, _, _ => exact G 172 (fun _ => rfl) (by omega) (by omega)
    | 22, _, _ => exact G 173 (fun _ => rfl) (by omega) (by omega)
    | 23, _, _ => exact G 174 (fun _ => rfl) (by omega) (by omega)
    | 24, _, _ => exact G 175 (fun _ => rfl) (by omega) (by omega)
    | 25, _, _ => exact G 176 (fun _ => rfl) (by omega) (by omega)
    | 26, _, _ => exact G 177 (fun _ => rfl) (by omega) (by omega)
    | k + 27, _, h => exact absurd h (by omega)
  · refine hP.cg (fun d h1 h2 => lo d (by omega) (by omega) (by omega) (by omega)) (fun i h1 h2 => ?_) (G 179 (fun _ => rfl) (by omega) (by omega)) (G 181 (fun _ => rfl) (by omega) (by omega)) (G 180 (fun _ => rfl) (by omega) (by omega))
    match i, h1, h2 with
    | 2, _, _ => exact F 37 rfl (by omega)
    | 3, _, _ => exact F 39 rfl (by omega)
    | 4, _, _ => exact F 41 rfl (by omega)
  · refine hT.cg (fun d h1 h2 => lo d (by omega) (by omega) (by omega) (by omega)) (fun i h1 h2 => ?_) (fun k h1 h2 => ?_)
    · match i, h1, h2 with
      | 5, _, _ => exact F 51 rfl (by omega)
      | 6, _, _ => exact F 53 rfl (by omega)
      | 7, _, _ => exact F 59 rfl (by omega)
      | 8, _, _ => exact F 62 rfl (by omega)
      | 9, _, _ => exact F 65 rfl (by omega)
    · match k, h1, h2 with
      | 8, _, _ => exact G 184 (fun _ => rfl) (by omega) (by omega)
      | 9, _, _ => exact G 195 (fun _ => rfl) (by omega) (by omega)
      | 10, _, _ => exact G 196 (fun _ => rfl) (by omega) (by omega)
      | 11, _, _ => exact G 187 (fun _ => rfl) (by omega) (by omega)
      | 12, _, _ => exact G 193 (fun _ => rfl) (by omega) (by omega)
      | 13, _, _ => exact G 194 (fun _ => rfl) (by omega) (by omega)
      | 14, _, _ => exact G 188 (fun _ => rfl) (by omega) (by omega)
      | 15, _, _ => exact G 197 (fun _ => rfl) (by omega) (by omega)
      | 16, _, _ => exact G 190 (fun _ => rfl) (by omega) (by omega)
      | k + 17, _, h => exact absurd h (by omega)
  · have e : ∀ a j, fre a j = false → a ≤ 158 → ¬ (8 ≤ a ∧ a ≤ 15) → ¬ (79 ≤ a ∧ a ≤ 122) → M' a j = M a j := fun a j h1 h2 h3 h4 => hr a j h1 h3 (by omega) h4 (by omega) (by omega) (by omega)
    obtain ⟨⟨k, k1, k2, k3⟩, h2, h3, h4, h5, h6, h7, ⟨h8, h9⟩, h10⟩ := hX
    refine ⟨⟨k, k1, (e 132 1 rfl (by omega) (by omega) (by omega)).trans k2, (F 15 rfl (by omega)).trans k3⟩, fun i hi => ?_, ?_, ?_, (F 5 rfl (by omega)).trans h5, (e 130 5 rfl (by omega) (by omega) (by omega)).trans h6, (e 131 5 rfl (by omega) (by omega) (by omega)).trans h7, ⟨?_, ?_⟩, fun q => ?_⟩
    · rw [G 169 (fun _ => rfl) (by omega) (by omega), G 170 (fun _ => rfl) (by omega) (by omega), e 133 i rfl (by omega) (by omega) (by omega)]
      exact h2 i hi
    · rw [F 35 rfl (by omega), e 0 10 rfl (by omega) (by omega) (by omega)]
      exact h3
    · rw [F 36 rfl (by omega), e 0 11 rfl (by omega) (by omega) (by omega)]
      exact h4
    · rw [F 69 rfl (by omega), e 0 9 rfl (by omega) (by omega) (by omega)]
      exact h8
    · rw [e 0 9 rfl (by omega) (by omega) (by omega)]
      exact h9
    · rw [e 0 9 rfl (by omega) (by omega) (by omega)] at q
      obtain ⟨a, b, hab⟩ := h10 q
      refine ⟨a, b, ?_⟩
      have ev : vi M' = vi M := by
        unfold vi
        rw [G 199 (fun _ => rfl) (by omega) (by omega)]
      rw [ev]
      exact hab.cg (fun d h1 h2 h3 => funext fun j => e _ j (fre_lo h1 h2 h3).2 (by omega) (by omega) (by omega))
theorem up_row {f : Nat → Int32} {i k : Nat} {x : Int32} (h : k ≠ i) : upd f i x k = f k := if_neg h
set_option maxHeartbeats 1000000 in
theorem ag_state {N : Nat} {M : Mm} (h : Inv N M) (x : Int32) : Ag (T_X11_state x) (T_X12_state x) N M := by
  obtain ⟨np, nb, hI, hU, hX⟩ := id h
  obtain ⟨hC, ⟨hQ, hW⟩, hB, -⟩ := id hI
  have e1 : M 160 1 = M 8 6 := hQ.1.2.1
  refine ⟨M 8 6, m_up (m_up (m_up M 8 6 x) 79 1 0) 79 2 0, m_up (m_up (m_up (m_up (m_up (m_up M 8 6 x) 79 1 0) 79 2 0) 159 0 0) 160 1 x) 159 3 0, fun K k => by simpa [T_X11_state, T_X4_forget] using k, fun K k => by simpa [T_X12_state, mu, e1] using k, ?_⟩
  refine mkInv hI hX (fun a j h1 h2 h3 h4 h5 h6 h7 => ?_) ?_ ?_ ?_ (IU.none (by simp [mu]) (by simp [mu]) (by simp [mu]))
  · have h8 : ¬ (a = 159 ∧ j = 0) := fun q => by rw [q.1, q.2] at h1; cases h1
    rw [mu, if_neg h7, mu, if_neg (by omega), mu, if_neg h8, mu, if_neg (by omega), mu, if_neg (by omega), mu, if_neg (by omega)]
  · obtain ⟨⟨a0, a1, a2, a3, a4, a5, a6⟩, q2, q3, q4⟩ := hQ
    refine ⟨by simp [mu]; exact ⟨a0, a2, a3, a4, a5, a6⟩, fun i hi => ?_, fun i hi => ?_, fun i hi => ?_⟩
    · have := q2 i hi
      simpa [vn, mu, show ¬ 7 + i = 1 by omega, show ¬ 23 + i = 1 by omega, show ¬ 39 + i = 1 by omega] using this
    · have := q3 i hi
      simpa [vn, mu, show ¬ 55 + i = 1 by omega, show ¬ 63 + i = 1 by omega] using this
    · have := q4 i hi
      simpa [vn, mu, show ¬ 71 + i = 1 by omega] using this
  · simpa [WQ, mu] using hW
  · simpa [vn, mu] using hB
