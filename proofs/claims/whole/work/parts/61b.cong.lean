theorem IC.cg {np nb : Nat} {M M' : Mm} {w : Nat} {v v' : Vw} (h : IC np nb M w v) (e : ∀ d, 1 ≤ d → d ≤ 6 → M' (w + d) = M (w + d)) (g1 : v' 1 0 = v 1 0) (g2 : v' 1 1 = v 1 1) (g : ∀ k, 2 ≤ k → k ≤ 6 → v' k = v k) : IC np nb M' w v' := by
  unfold IC at h ⊢
  rw [e 1 (by omega) (by omega), e 2 (by omega) (by omega), e 3 (by omega) (by omega), e 4 (by omega) (by omega), e 5 (by omega) (by omega), e 6 (by omega) (by omega), g1, g2, g 2 (by omega) (by omega), g 3 (by omega) (by omega), g 4 (by omega) (by omega), g 5 (by omega) (by omega), g 6 (by omega) (by omega)]
  exact h
theorem IL.cg {M M' : Mm} {w : Nat} {v v' : Vw} (h : IL M w v) (e : ∀ d, 15 ≤ d → d ≤ 19 → M' (w + d) = M (w + d)) (g : ∀ k, 20 ≤ k → k ≤ 26 → v' k = v k) : IL M' w v' := by
  unfold IL at h ⊢
  rw [e 15 (by omega) (by omega), e 16 (by omega) (by omega), e 17 (by omega) (by omega), e 18 (by omega) (by omega), e 19 (by omega) (by omega), g 20 (by omega) (by omega), g 21 (by omega) (by omega), g 22 (by omega) (by omega), g 23 (by omega) (by omega), g 24 (by omega) (by omega), g 25 (by omega) (by omega), g 26 (by omega) (by omega)]
  exact h
theorem IP.cg {np nb : Nat} {M M' : Mm} {w : Nat} {v v' : Vw} (h : IP np nb M w v) (e : ∀ d, 22 ≤ d → d ≤ 28 → M' (w + d) = M (w + d)) (g1 : ∀ i, 2 ≤ i → i ≤ 4 → v' 1 i = v 1 i) (g7 : v' 7 = v 7) (g17 : v' 17 = v 17) (g18 : v' 18 = v 18) : IP np nb M' w v' := by
  unfold IP at h ⊢
  rw [e 22 (by omega) (by omega), e 23 (by omega) (by omega), e 24 (by omega) (by omega), e 25 (by omega) (by omega), e 26 (by omega) (by omega), e 27 (by omega) (by omega), e 28 (by omega) (by omega), g1 2 (by omega) (by omega), g1 3 (by omega) (by omega), g1 4 (by omega) (by omega), g7, g17, g18]
  exact h
theorem IT.cg {M M' : Mm} {w : Nat} {v v' : Vw} (h : IT M w v) (e : ∀ d, 29 ≤ d → d ≤ 38 → M' (w + d) = M (w + d)) (g1 : ∀ i, 5 ≤ i → i ≤ 9 → v' 1 i = v 1 i) (g : ∀ k, 8 ≤ k → k ≤ 16 → v' k = v k) : IT M' w v' := by
  unfold IT at h ⊢
  rw [e 29 (by omega) (by omega), e 30 (by omega) (by omega), e 31 (by omega) (by omega), e 32 (by omega) (by omega), e 33 (by omega) (by omega), e 34 (by omega) (by omega), e 35 (by omega) (by omega), e 36 (by omega) (by omega), e 37 (by omega) (by omega), e 38 (by omega) (by omega), g1 5 (by omega) (by omega), g1 6 (by omega) (by omega), g1 7 (by omega) (by omega), g1 8 (by omega) (by omega), g1 9 (by omega) (by omega), g 8 (by omega) (by omega), g 9 (by omega) (by omega), g 10 (by omega) (by omega), g 11 (by omega) (by omega), g 12 (by omega) (by omega), g 13 (by omega) (by omega), g 14 (by omega) (by omega), g 15 (by omega) (by omega), g 16 (by omega) (by omega)]
  exact h
theorem IU.cg {N np nb : Nat} {M M' : Mm} (h : IU N np nb M) (e : ∀ a, 79 ≤ a → a ≤ 122 → M' a = M a) (e1 : M' 161 = M 161) (e2 : M' 159 3 = M 159 3) : IU N np nb M' := by
  obtain ⟨f1, c1, g1, g2, g3, g4, g5, g6⟩ := h
  refine ⟨f1, c1, g1, g2, ?_, ?_, e2.trans g5, fun i hi => ?_⟩
  · rw [e 79 (by omega) (by omega)]; exact g3
  · rw [e 79 (by omega) (by omega)]; exact g4
  · obtain ⟨q1, q2⟩ := qr_rng ((f1 + i) % 6)
    have hd : ∀ d, d ≤ 6 → M' (qr ((f1 + i) % 6) + d) = M (qr ((f1 + i) % 6) + d) := fun d hd => e _ (by omega) (by omega)
    exact ⟨(g6 i hi).1.cg (fun k _ => by rw [e1]) hd, (g6 i hi).2.cg hd⟩
theorem IX.cg {N : Nat} {M M' : Mm} (h : IX N M) (e : ∀ a, 40 ≤ a → a ≤ 78 → M' a = M a) (e0 : M' 0 = M 0) (e1 : M' 130 = M 130) (e2 : M' 131 = M 131) (e3 : M' 132 = M 132) (e4 : M' 133 = M 133) (e5 : M' 169 = M 169) (e7 : M' 170 = M 170) (e6 : M' 199 = M 199) (f : ∀ j, j = 5 ∨ j = 15 ∨ j = 35 ∨ j = 36 ∨ j = 69 → M' 159 j = M 159 j) : IX N M' := by
  obtain ⟨⟨k, k1, k2, k3⟩, h2, h3, h4, h5, h6, h7, ⟨h8, h9⟩, h10⟩ := h
  refine ⟨⟨k, k1, by rw [e3]; exact k2, (f 15 (by omega)).trans k3⟩, fun i hi => by rw [e4, e5, e7]; exact h2 i hi, ?_, ?_, (f 5 (by omega)).trans h5, by rw [e1]; exact h6, by rw [e2]; exact h7, ⟨?_, by rw [e0]; exact h9⟩, fun q => ?_⟩
  · rw [f 35 (by omega), e0]; exact h3
  · rw [f 36 (by omega), e0]; exact h4
  · rw [f 69 (by omega), e0]; exact h8
  · rw [e0] at q
    obtain ⟨a, b, hab⟩ := h10 q
    refine ⟨a, b, ?_⟩
    have ev : vi M' = vi M := by
      unfold vi
      rw [e6]
    rw [ev]
    exact hab.cg (fun d h1 h2 h3 => e _ (by omega) (by omega))
theorem IU.none {N np nb : Nat} {M : Mm} (h1 : M 79 1 = 0) (h2 : M 79 2 = 0) (h3 : M 159 3 = 0) : IU N np nb M := ⟨0, 0, by omega, by omega, h1, h2, h3, fun i hi => absurd hi (by omega)⟩
