/-- cells that no common part speaks of -/
def fre (a j : Nat) : Bool := match a with
  | 21 => true | 22 => true | 60 => true | 61 => true
  | 123 => true | 124 => true | 125 => true | 126 => true | 127 => true | 128 => true | 129 => true
  | 130 => decide (6 ≤ j) | 131 => decide (6 ≤ j)
  | 132 => decide (2 ≤ j) | 134 => true | 135 => true | 136 => true | 137 => true | 138 => true | 139 => true | 140 => true | 141 => true | 142 => true | 143 => true
  | 144 => true | 145 => true | 146 => true | 147 => true | 148 => true | 149 => true | 150 => true | 151 => true | 152 => true | 153 => true | 154 => true | 155 => true | 156 => true | 157 => true | 158 => true
  | 159 => decide (j = 0 ∨ (16 ≤ j ∧ j ≤ 19) ∨ (28 ≤ j ∧ j ≤ 34) ∨ (45 ≤ j ∧ j ≤ 47) ∨ j = 68 ∨ j = 70)
  | 162 => true | 178 => true | 182 => true | 183 => true | 185 => true | 186 => true | 189 => true | 191 => true | 192 => true | 198 => true
  | _ => false
def fr (M M' : Mm) : Prop := ∀ a j, fre a j = false → M' a j = M a j
theorem fr.rf {M : Mm} : fr M M := fun _ _ _ => rfl
theorem fr.tr {M M1 M2 : Mm} (h : fr M M1) (h2 : fr M1 M2) : fr M M2 := fun a j q => (h2 a j q).trans (h a j q)
theorem fr.up {M M1 : Mm} {k i : Nat} {x : Int32} (h : fr M M1) (hk : fre k i = true) : fr M (m_up M1 k i x) := fun a j q => by
  rw [mu]
  by_cases e : a = k ∧ j = i
  · obtain ⟨rfl, rfl⟩ := e
    rw [hk] at q
    cases q
  · rw [if_neg e]
    exact h a j q
theorem qr_rng (j : Nat) : 81 ≤ qr j ∧ qr j ≤ 116 := by
  match j with
  | 0 => decide
  | 1 => decide
  | 2 => decide
  | 3 => decide
  | 4 => decide
  | 5 => decide
  | j + 6 => exact (by decide : 81 ≤ 81 ∧ 81 ≤ 116)
theorem IQ.cg {N : Nat} {M M' : Mm} {q : Nat} {r r' : Nat → Int32} (h : IQ N M q r) (hr : ∀ i, i < 135 → r' i = r i) (h0 : ∀ d, d ≤ 6 → M' (q + d) = M (q + d)) : IQ N M' q r' := by
  have e0 := h0 0 (by omega)
  have e1 := h0 1 (by omega)
  have e2 := h0 2 (by omega)
  have e3 := h0 3 (by omega)
  have e4 := h0 4 (by omega)
  have e5 := h0 5 (by omega)
  have e6 := h0 6 (by omega)
  rw [Nat.add_zero] at e0
  obtain ⟨⟨a0, a1, a2, a3, a4, a5, a6⟩, h2, h3, h4⟩ := h
  unfold IQ
  rw [e0, e1, e2, e3, e4, e5, e6]
  refine ⟨⟨(hr 0 (by omega)).trans a0, (hr 1 (by omega)).trans a1, (hr 2 (by omega)).trans a2, (hr 3 (by omega)).trans a3, (hr 4 (by omega)).trans a4, (hr 5 (by omega)).trans a5, (hr 6 (by omega)).trans a6⟩, fun i hi => ?_, fun i hi => ?_, fun i hi => ?_⟩
  · rw [hr (7 + i) (by omega), hr (23 + i) (by omega), hr (39 + i) (by omega)]
    exact h2 i hi
  · rw [hr (55 + i) (by omega), hr (63 + i) (by omega)]
    exact h3 i hi
  · rw [hr (71 + i) (by omega)]
    exact h4 i hi
theorem WQ.cg {N np nb : Nat} {M M' : Mm} {q : Nat} (h : WQ N np nb M q) (h0 : ∀ d, d ≤ 6 → M' (q + d) = M (q + d)) : WQ N np nb M' q := by
  have e0 := h0 0 (by omega)
  rw [Nat.add_zero] at e0
  unfold WQ
  rw [e0, h0 1 (by omega), h0 2 (by omega), h0 3 (by omega), h0 4 (by omega), h0 5 (by omega), h0 6 (by omega)]
  exact h
theorem rw_eq {M M' : Mm} (h : fr M M') (a : Nat) (ha : ∀ j, fre a j = false) : M' a = M a := funext fun j => h a j (ha j)
theorem fre_mid {a j : Nat} (h : 79 ≤ a) (h2 : a ≤ 122) : fre a j = false := by
  have : ∀ b, b < 44 → fre (79 + b) j = false := by
    intro b hb
    match b, hb with
    | 0, _ | 1, _ | 2, _ | 3, _ | 4, _ | 5, _ | 6, _ | 7, _ | 8, _ | 9, _ | 10, _ | 11, _ | 12, _ | 13, _ | 14, _ | 15, _ | 16, _ | 17, _ | 18, _ | 19, _ | 20, _ | 21, _ | 22, _ | 23, _ | 24, _ | 25, _ | 26, _ | 27, _ | 28, _ | 29, _ | 30, _ | 31, _ | 32, _ | 33, _ | 34, _ | 35, _ | 36, _ | 37, _ | 38, _ | 39, _ | 40, _ | 41, _ | 42, _ | 43, _ => rfl
    | b + 44, hb => exact absurd hb (by omega)
  have e := this (a - 79) (by omega)
  rw [show 79 + (a - 79) = a by omega] at e
  exact e
set_option maxHeartbeats 4000000 in
theorem IW.cg {N np nb : Nat} {M M' : Mm} {w : Nat} {v : Vw} (h : IW N np nb M w v) (e : ∀ d, d < 39 → d ≠ 20 → d ≠ 21 → M' (w + d) = M (w + d)) : IW N np nb M' w v := by
  obtain ⟨hC, ⟨hQ, hW⟩, hB, hL, hP, hT⟩ := h
  have hq : ∀ d, d ≤ 6 → M' (w + 7 + d) = M (w + 7 + d) := fun d hd => by
    rw [Nat.add_assoc]
    exact e (7 + d) (by omega) (by omega) (by omega)
  refine ⟨?_, ⟨hQ.cg (fun _ _ => rfl) hq, hW.cg hq⟩, ?_, ?_, ?_, ?_⟩
  · unfold IC at hC ⊢
    rw [e 1 (by omega) (by omega) (by omega), e 2 (by omega) (by omega) (by omega), e 3 (by omega) (by omega) (by omega), e 4 (by omega) (by omega) (by omega), e 5 (by omega) (by omega) (by omega), e 6 (by omega) (by omega) (by omega)]
    exact hC
  · rw [e 14 (by omega) (by omega) (by omega)]
    exact hB
  · unfold IL at hL ⊢
    rw [e 15 (by omega) (by omega) (by omega), e 16 (by omega) (by omega) (by omega), e 17 (by omega) (by omega) (by omega), e 18 (by omega) (by omega) (by omega), e 19 (by omega) (by omega) (by omega)]
    exact hL
  · unfold IP at hP ⊢
    rw [e 22 (by omega) (by omega) (by omega), e 23 (by omega) (by omega) (by omega), e 24 (by omega) (by omega) (by omega), e 25 (by omega) (by omega) (by omega), e 26 (by omega) (by omega) (by omega), e 27 (by omega) (by omega) (by omega), e 28 (by omega) (by omega) (by omega)]
    exact hP
  · unfold IT at hT ⊢
    rw [e 29 (by omega) (by omega) (by omega), e 30 (by omega) (by omega) (by omega), e 31 (by omega) (by omega) (by omega), e 32 (by omega) (by omega) (by omega), e 33 (by omega) (by omega) (by omega), e 34 (by omega) (by omega) (by omega), e 35 (by omega) (by omega) (by omega), e 36 (by omega) (by omega) (by omega), e 37 (by omega) (by omega) (by omega), e 38 (by omega) (by omega) (by omega)]
    exact hT
theorem fre_lo {d j : Nat} (h : d < 39) (h0 : d ≠ 20) (h1 : d ≠ 21) : fre (1 + d) j = false ∧ fre (40 + d) j = false := by
  match d, h, h0, h1 with
  | 0, _, _, _ => exact ⟨rfl, rfl⟩
  | 1, _, _, _ => exact ⟨rfl, rfl⟩
  | 2, _, _, _ => exact ⟨rfl, rfl⟩
  | 3, _, _, _ => exact ⟨rfl, rfl⟩
  | 4, _, _, _ => exact ⟨rfl, rfl⟩
  | 5, _, _, _ => exact ⟨rfl, rfl⟩
  | 6, _, _, _ => exact ⟨rfl, rfl⟩
  | 7, _, _, _ => exact ⟨rfl, rfl⟩
  | 8, _, _, _ => exact ⟨rfl, rfl⟩
  | 9, _, _, _ => exact ⟨rfl, rfl⟩
  | 10, _, _, _ => exact ⟨rfl, rfl⟩
  | 11, _, _, _ => exact ⟨rfl, rfl⟩
  | 12, _, _, _ => exact ⟨rfl, rfl⟩
  | 13, _, _, _ => exact ⟨rfl, rfl⟩
  | 14, _, _, _ => exact ⟨rfl, rfl⟩
  | 15, _, _, _ => exact ⟨rfl, rfl⟩
  | 16, _, _, _ => exact ⟨rfl, rfl⟩
  | 17, _, _, _ => exact ⟨rfl, rfl⟩
  | 18, _, _, _ => exact ⟨rfl, rfl⟩
  | 19, _, _, _ => exact ⟨rfl, rfl⟩
  | 22, _, _, _ => exact ⟨rfl, rfl⟩
  | 23, _, _, _ => exact ⟨rfl, rfl⟩
  | 24, _, _, _ => exact ⟨rfl, rfl⟩
  | 25, _, _, _ => exact ⟨rfl, rfl⟩
  | 26, _, _, _ => exact ⟨rfl, rfl⟩
  | 27, _, _, _ => exact ⟨rfl, rfl⟩
  | 28, _, _, _ => exact ⟨rfl, rfl⟩
  | 29, _, _, _ => exact ⟨rfl, rfl⟩
  | 30, _, _, _ => exact ⟨rfl, rfl⟩
  | 31, _, _, _ => exact ⟨rfl, rfl⟩
  | 32, _, _, _ => exact ⟨rfl, rfl⟩
  | 33, _, _, _ => exact ⟨rfl, rfl⟩
  | 34, _, _, _ => exact ⟨rfl, rfl⟩
  | 35, _, _, _ => exact ⟨rfl, rfl⟩
  | 36, _, _, _ => exact ⟨rfl, rfl⟩
  | 37, _, _, _ => exact ⟨rfl, rfl⟩
  | 38, _, _, _ => exact ⟨rfl, rfl⟩
  | 20, _, h, _ => exact absurd rfl h
  | 21, _, _, h => exact absurd rfl h
  | d + 39, h, _, _ => exact absurd h (by omega)
theorem vn_cg {M M' : Mm} (f : fr M M') : vn M' = vn M := by
  funext g i
  unfold vn
  split
  case h_2 => split <;> exact f _ _ rfl
  all_goals exact f _ _ rfl
theorem Inv.fr {N : Nat} {M M' : Mm} (h : Inv N M) (f : fr M M') : Inv N M' := by
  obtain ⟨np, nb, hI, hU, hX⟩ := h
  refine ⟨np, nb, ?_, ?_, ?_⟩
  · rw [vn_cg f]
    exact hI.cg (fun d h1 h2 h3 => rw_eq f _ (fun j => (fre_lo h1 h2 h3).1))
  · obtain ⟨f1, c1, g1, g2, g3, g4, g5, g6⟩ := hU
    refine ⟨f1, c1, g1, g2, (f 79 1 rfl).trans g3, (f 79 2 rfl).trans g4, (f 159 3 rfl).trans g5, fun i hi => ?_⟩
    obtain ⟨q1, q2⟩ := qr_rng ((f1 + i) % 6)
    have hd : ∀ d, d ≤ 6 → M' (qr ((f1 + i) % 6) + d) = M (qr ((f1 + i) % 6) + d) := fun d hd => rw_eq f _ (fun j => fre_mid (by omega) (by omega))
    exact ⟨(g6 i hi).1.cg (fun k _ => f 161 _ rfl) hd, (g6 i hi).2.cg hd⟩
  · obtain ⟨⟨k, k1, k2, k3⟩, h2, h3, h4, h5, h6, h7, ⟨h8, h9⟩, h10⟩ := hX
    refine ⟨⟨k, k1, (f 132 1 rfl).trans k2, (f 159 15 rfl).trans k3⟩, fun i hi => ?_, ?_, ?_, (f 159 5 rfl).trans h5, (f 130 5 rfl).trans h6, (f 131 5 rfl).trans h7, ⟨?_, ?_⟩, fun q => ?_⟩
    · rw [f 169 i rfl, f 133 i rfl, f 170 i rfl]
      exact h2 i hi
    · rw [f 159 35 rfl, f 0 10 rfl]
      exact h3
    · rw [f 159 36 rfl, f 0 11 rfl]
      exact h4
    · rw [f 159 69 rfl, f 0 9 rfl]
      exact h8
    · rw [f 0 9 rfl]
      exact h9
    · rw [f 0 9 rfl] at q
      obtain ⟨a, b, hab⟩ := h10 q
      refine ⟨a, b, ?_⟩
      have ev : vi M' = vi M := by
        unfold vi
        rw [rw_eq f 199 (fun _ => rfl)]
      rw [ev]
      exact hab.cg (fun d h1 h2 h3 => rw_eq f _ (fun j => (fre_lo h1 h2 h3).2))
