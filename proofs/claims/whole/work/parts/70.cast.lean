theorem IP.mono {np nb np' nb' : Nat} {M : Mm} {w : Nat} {v : Vw} (h : IP np nb M w v) (h1 : np ≤ np') (h2 : nb ≤ nb') : IP np' nb' M w v := by
  obtain ⟨a1, a2, a3, a4, a5⟩ := h
  refine ⟨a1, a2, a3, a4, fun i hi hl => ⟨(a5 i hi hl).1, ?_⟩⟩
  rcases (a5 i hi hl).2 with ⟨b1, b2, b3, b4, k, b5, b6⟩ | q | q | q | ⟨b1, b2, b3, b4, ⟨k, b5, b6⟩, b7⟩ | ⟨b1, b2, b3, b4, ⟨k, b5, b6⟩, b7⟩
  · exact Or.inl ⟨b1, b2, b3, b4, k, by omega, b6⟩
  · exact Or.inr (Or.inl q)
  · exact Or.inr (Or.inr (Or.inl q))
  · exact Or.inr (Or.inr (Or.inr (Or.inl q)))
  · exact Or.inr (Or.inr (Or.inr (Or.inr (Or.inl ⟨b1, b2, b3, b4, ⟨k, by omega, b6⟩, b7⟩))))
  · exact Or.inr (Or.inr (Or.inr (Or.inr (Or.inr ⟨b1, b2, b3, b4, ⟨k, by omega, b6⟩, b7⟩))))
/-- all but the cast, the quay and what can be undone stays -/
theorem mkCast {N np nb np' nb' : Nat} {M M' : Mm} (hI : IW N np nb M 1 (vn M)) (hX : IX N M) (hr : ∀ a j, fre a j = false → ¬ (2 ≤ a ∧ a ≤ 14) → a ≠ 160 → ¬ (163 ≤ a ∧ a ≤ 167) → ¬ (79 ≤ a ∧ a ≤ 122) → a ≠ 161 → ¬ (a = 159 ∧ (j = 3 ∨ j = 6 ∨ j = 7)) → M' a j = M a j) (hnp : np ≤ np') (hnb : nb ≤ nb') (hC : IC np' nb' M' 1 (vn M')) (hQ : IQ N M' 8 (M' 160)) (hW : WQ N np' nb' M' 8) (hU : IU N np' nb' M') : Inv N M' := by
  obtain ⟨-, -, hB, hL, hP, hT⟩ := hI
  have lo : ∀ d, d < 39 → d ≠ 20 → d ≠ 21 → 14 ≤ d → M' (1 + d) = M (1 + d) := fun d h1 h2 h3 h4 => funext fun j => hr _ j (fre_lo h1 h2 h3).1 (by omega) (by omega) (by omega) (by omega) (by omega) (by omega)
  have G : ∀ a, (∀ j, fre a j = false) → 168 ≤ a → a ≠ 1000 → M' a = M a := fun a h1 h2 h3 => funext fun j => hr a j (h1 j) (by omega) (by omega) (by omega) (by omega) (by omega) (by omega)
  have F : ∀ j, fre 159 j = false → ¬ (j = 3 ∨ j = 6 ∨ j = 7) → M' 159 j = M 159 j := fun j h1 h2 => hr 159 j h1 (by omega) (by omega) (by omega) (by omega) (by omega) (by omega)
  refine ⟨np', nb', ⟨hC, ⟨hQ, hW⟩, ?_, ?_, ?_, ?_⟩, hU, ?_⟩
  · intro i hi
    show M' 168 i = M' 15 i
    rw [G 168 (fun _ => rfl) (by omega) (by omega), lo 14 (by omega) (by omega) (by omega) (by omega)]
    exact hB i hi
  · refine hL.cg (fun d h1 h2 => lo d (by omega) (by omega) (by omega) (by omega)) (fun k h1 h2 => ?_)
    match k, h1, h2 with
    | 20, _, _ => exact G 171 (fun _ => rfl) (by omega) (by omega)
    | 21, _, _ => exact G 172 (fun _ => rfl) (by omega) (by omega)
    | 22, _, _ => exact G 173 (fun _ => rfl) (by omega) (by omega)
    | 23, _, _ => exact G 174 (fun _ => rfl) (by omega) (by omega)
    | 24, _, _ => exact G 175 (fun _ => rfl) (by omega) (by omega)
    | 25, _, _ => exact G 176 (fun _ => rfl) (by omega) (by omega)
    | 26, _, _ => exact G 177 (fun _ => rfl) (by omega) (by omega)
    | k + 27, _, h => exact absurd h (by omega)
  · refine (hP.mono hnp hnb).cg (fun d h1 h2 => lo d (by omega) (by omega) (by omega) (by omega)) (fun i h1 h2 => ?_) (G 179 (fun _ => rfl) (by omega) (by omega)) (G 181 (fun _ => rfl) (by omega) (by omega)) (G 180 (fun _ => rfl) (by omega) (by omega))
    match i, h1, h2 with
    | 2, _, _ => exact F 37 rfl (by omega)
    | 3, _, _ => exact F 39 rfl (by omega)
    | 4, _, _ => exact F 41 rfl (by omega)
  · refine hT.cg (fun d h1 h2 => lo d (by omega) (by omega) (by omega) (by omega)) (fun i h1 h2 => ?_) (fun k h1 h2 => ?_)
    · match i, h1, h2 with
      | 5, _, _ => exact F 51 rfl (by omega)
      | 6, _, _ => exact F 53 rfl (by omega)
      | 7, _, _ => exact F 59 rfl (by omega)
      | 8, _, _ => exact F 62 rfl (by omega)
      | 9, _, _ => exact F 65 rfl (by omega)
    · match k, h1, h2 with
      | 8, _, _ => exact G 184 (fun _ => rfl) (by omega) (by omega)
      | 9, _, _ => exact G 195 (fun _ => rfl) (by omega) (by omega)
      | 10, _, _ => exact G 196 (fun _ => rfl) (by omega) (by omega)
      | 11, _, _ => exact G 187 (fun _ => rfl) (by omega) (by omega)
      | 12, _, _ => exact G 193 (fun _ => rfl) (by omega) (by omega)
      | 13, _, _ => exact G 194 (fun _ => rfl) (by omega) (by omega)
      | 14, _, _ => exact G 188 (fun _ => rfl) (by omega) (by omega)
      | 15, _, _ => exact G 197 (fun _ => rfl) (by omega) (by omega)
      | 16, _, _ => exact G 190 (fun _ => rfl) (by omega) (by omega)
      | k + 17, _, h => exact absurd h (by omega)
  · have e : ∀ a j, fre a j = false → a ≤ 158 → ¬ (2 ≤ a ∧ a ≤ 14) → ¬ (79 ≤ a ∧ a ≤ 122) → M' a j = M a j := fun a j h1 h2 h3 h4 => hr a j h1 h3 (by omega) (by omega) h4 (by omega) (by omega)
    obtain ⟨⟨k, k1, k2, k3⟩, h2, h3, h4, h5, h6, h7, ⟨h8, h9⟩, h10⟩ := hX
    refine ⟨⟨k, k1, (e 132 1 rfl (by omega) (by omega) (by omega)).trans k2, (F 15 rfl (by omega)).trans k3⟩, fun i hi => ?_, ?_, ?_, (F 5 rfl (by omega)).trans h5, (e 130 5 rfl (by omega) (by omega) (by omega)).trans h6, (e 131 5 rfl (by omega) (by omega) (by omega)).trans h7, ⟨?_, ?_⟩, fun q => ?_⟩
    · rw [G 169 (fun _ => rfl) (by omega) (by omega), G 170 (fun _ => rfl) (by omega) (by omega), e 133 i rfl (by omega) (by omega) (by omega)]
      exact h2 i hi
    · rw [F 35 rfl (by omega), e 0 10 rfl (by omega) (by omega) (by omega)]
      exact h3
    · rw [F 36 rfl (by omega), e 0 11 rfl (by omega) (by omega) (by omega)]
      exact h4
    · rw [F 69 rfl (by omega), e 0 9 rfl (by omega) (by omega) (by omega)]
      exact h8
    · rw [e 0 9 rfl (by omega) (by omega) (by omega)]
      exact h9
    · rw [e 0 9 rfl (by omega) (by omega) (by omega)] at q
      obtain ⟨a, b, hab⟩ := h10 q
      refine ⟨a, b, ?_⟩
      have ev : vi M' = vi M := by
        unfold vi
        rw [G 199 (fun _ => rfl) (by omega) (by omega)]
      rw [ev]
      exact hab.cg (fun d h1 h2 h3 => funext fun j => e _ j (fre_lo h1 h2 h3).2 (by omega) (by omega) (by omega))
