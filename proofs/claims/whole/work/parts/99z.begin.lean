/-- the memory at the start -/
def zr (a n : Nat) : Prop := ∀ i, i < n → M0 a i = 0
set_option maxRecDepth 100000 in
theorem m0_a : (∀ i, i < 16 → M0 3 i = 0 ∧ M0 4 i = 0 ∧ M0 5 i = 0 ∧ M0 11 i = 0 ∧ M0 163 i = 0 ∧ M0 164 i = 0 ∧ M0 165 i = 0) ∧ (∀ i, i < 8 → M0 6 i = 0 ∧ M0 7 i = 0 ∧ M0 12 i = 0 ∧ M0 13 i = 0 ∧ M0 166 i = 0 ∧ M0 167 i = 0 ∧ M0 24 i = -1 ∧ M0 179 i = 0 ∧ M0 31 i = 0 ∧ M0 184 i = 0) := by decide +kernel
set_option maxRecDepth 100000 in
theorem m0_b : (∀ i, i < 64 → M0 14 i = 0 ∧ M0 25 i = 0 ∧ M0 181 i = 0 ∧ M0 190 i = 0 ∧ M0 34 i = nI (i % 8)) ∧ (∀ i, i < 16 → M0 9 i = -1 ∧ M0 10 i = -1) := by decide +kernel
set_option maxRecDepth 100000 in
theorem m0_c : (∀ i, i < 9 → M0 32 i = 0 ∧ M0 188 i = 0) ∧ (∀ i, i < 6 → M0 33 i = 0 ∧ M0 187 i = 0) ∧ (∀ i, i < 7 → M0 35 i = 0 ∧ M0 36 i = 0 ∧ M0 193 i = 0 ∧ M0 194 i = 0) ∧ (∀ i, i < 8 → M0 37 i = 0 ∧ M0 38 i = 0 ∧ M0 195 i = 0 ∧ M0 196 i = 0) ∧ (∀ i, i < 20 → M0 39 i = 0 ∧ M0 197 i = 0) := by decide +kernel
set_option maxRecDepth 100000 in
theorem m0_d : (∀ i, i < 600 → M0 168 i = 0 ∧ M0 15 i = 0) ∧ (∀ i, i < 135 → M0 160 i = 0) := by decide +kernel
set_option maxRecDepth 100000 in
theorem m0_e : ∀ i, i < 400 → M0 169 i = 0 ∧ M0 133 i = 0 ∧ M0 170 i = wd_t i := by decide +kernel
set_option maxRecDepth 100000 in
theorem m0_f : (M0 2 0 = 0 ∧ M0 2 1 = 0 ∧ M0 159 6 = 0 ∧ M0 159 7 = 0) ∧ (M0 8 6 = 0 ∧ M0 8 7 = 0 ∧ M0 8 8 = 0 ∧ M0 8 9 = 0 ∧ M0 8 10 = 0 ∧ M0 8 11 = 0 ∧ M0 8 12 = 0) ∧ (M0 171 0 = 0 ∧ M0 16 7 = 0 ∧ M0 16 6 = 0) ∧ (M0 23 6 = 0 ∧ M0 23 7 = 0 ∧ M0 23 8 = 0 ∧ M0 159 37 = 0 ∧ M0 159 39 = 0 ∧ M0 159 41 = 0) := by decide +kernel
set_option maxRecDepth 100000 in
theorem m0_g : (M0 30 9 = 0 ∧ M0 30 10 = 0 ∧ M0 30 11 = 0 ∧ M0 30 12 = 0 ∧ M0 30 13 = 0 ∧ M0 159 53 = 0 ∧ M0 159 51 = 0 ∧ M0 159 59 = 0 ∧ M0 159 62 = 0 ∧ M0 159 65 = 0) ∧ (M0 79 1 = 0 ∧ M0 79 2 = 0 ∧ M0 159 3 = 0) ∧ (M0 132 1 = 0 ∧ M0 159 15 = 0 ∧ M0 159 35 = M0 0 10 ∧ M0 159 36 = M0 0 11 ∧ M0 159 5 = 0 ∧ M0 130 5 = 0 ∧ M0 131 5 = 1 ∧ M0 159 69 = M0 0 9 ∧ M0 0 9 = 0) := by decide +kernel
theorem sm_0 {x : Int32} {n : Nat} (h : x = 0) : sm x n := ⟨0, by omega, h⟩
theorem inv_of {M : Mm} (A : (∀ i, i < 16 → M 3 i = 0 ∧ M 4 i = 0 ∧ M 5 i = 0 ∧ M 11 i = 0 ∧ M 163 i = 0 ∧ M 164 i = 0 ∧ M 165 i = 0) ∧ (∀ i, i < 8 → M 6 i = 0 ∧ M 7 i = 0 ∧ M 12 i = 0 ∧ M 13 i = 0 ∧ M 166 i = 0 ∧ M 167 i = 0 ∧ M 24 i = -1 ∧ M 179 i = 0 ∧ M 31 i = 0 ∧ M 184 i = 0)) (B : (∀ i, i < 64 → M 14 i = 0 ∧ M 25 i = 0 ∧ M 181 i = 0 ∧ M 190 i = 0 ∧ M 34 i = nI (i % 8)) ∧ (∀ i, i < 16 → M 9 i = -1 ∧ M 10 i = -1)) (C : (∀ i, i < 9 → M 32 i = 0 ∧ M 188 i = 0) ∧ (∀ i, i < 6 → M 33 i = 0 ∧ M 187 i = 0) ∧ (∀ i, i < 7 → M 35 i = 0 ∧ M 36 i = 0 ∧ M 193 i = 0 ∧ M 194 i = 0) ∧ (∀ i, i < 8 → M 37 i = 0 ∧ M 38 i = 0 ∧ M 195 i = 0 ∧ M 196 i = 0) ∧ (∀ i, i < 20 → M 39 i = 0 ∧ M 197 i = 0)) (D : (∀ i, i < 600 → M 168 i = 0 ∧ M 15 i = 0) ∧ (∀ i, i < 135 → M 160 i = 0)) (E : ∀ i, i < 400 → M 169 i = 0 ∧ M 133 i = 0 ∧ M 170 i = wd_t i) (F : (M 2 0 = 0 ∧ M 2 1 = 0 ∧ M 159 6 = 0 ∧ M 159 7 = 0) ∧ (M 8 6 = 0 ∧ M 8 7 = 0 ∧ M 8 8 = 0 ∧ M 8 9 = 0 ∧ M 8 10 = 0 ∧ M 8 11 = 0 ∧ M 8 12 = 0) ∧ (M 171 0 = 0 ∧ M 16 7 = 0 ∧ M 16 6 = 0) ∧ (M 23 6 = 0 ∧ M 23 7 = 0 ∧ M 23 8 = 0 ∧ M 159 37 = 0 ∧ M 159 39 = 0 ∧ M 159 41 = 0)) (G : (M 30 9 = 0 ∧ M 30 10 = 0 ∧ M 30 11 = 0 ∧ M 30 12 = 0 ∧ M 30 13 = 0 ∧ M 159 53 = 0 ∧ M 159 51 = 0 ∧ M 159 59 = 0 ∧ M 159 62 = 0 ∧ M 159 65 = 0) ∧ (M 79 1 = 0 ∧ M 79 2 = 0 ∧ M 159 3 = 0) ∧ (M 132 1 = 0 ∧ M 159 15 = 0 ∧ M 159 35 = M 0 10 ∧ M 159 36 = M 0 11 ∧ M 159 5 = 0 ∧ M 130 5 = 0 ∧ M 131 5 = 1 ∧ M 159 69 = M 0 9 ∧ M 0 9 = 0)) : Inv 0 M := by
  obtain ⟨a1, a2⟩ := A
  obtain ⟨b1, b2⟩ := B
  obtain ⟨c1, c2, c3, c4, c5⟩ := C
  obtain ⟨d1, d2⟩ := D
  have e1 := E
  obtain ⟨f1, f2, f3, f4⟩ := F
  obtain ⟨g1, g2, g3⟩ := G
  have m1 : (-1 : Int32) + 1 = 0 := by decide
  have np0 : ∀ i, i < 16 → ¬ nI i < (0 : Int32) := fun i hi => nI_pos (by omega)
  refine ⟨0, 0, ⟨⟨⟨?_, ?_, f1.1, f1.2.1, by omega, by omega⟩, fun i hi => ?_, fun i hi => ?_⟩, ⟨⟨?_, fun i hi => ?_, fun i hi => ?_, fun i hi => ?_⟩, ⟨⟨⟨fun i hi => ?_, fun i hi => ?_⟩, sm_0 f2.2.2.2.2.2.2, sm_0 f2.2.2.1, sm_0 f2.2.2.2.1⟩, fun i hi => ?_, fun i hi => ?_, fun i _ hi => ?_, fun i _ hi => ?_, fun i _ hi => ?_⟩⟩, fun i hi => ?_, ⟨0, 0, by omega, by omega, f3.1, f3.2.1, f3.2.2, fun i hi => absurd hi (by omega), fun _ => 0, fun _ => 0, fun _ => 0, rfl, fun _ => rfl, fun l hl => absurd hl (by omega)⟩, ⟨⟨?_, ?_, ?_, sm_0 f4.2.2.1⟩, fun i hi => ?_, fun i hi => ?_, fun b hb => ?_, fun i hi hl => ?_⟩, ⟨fun i hi => ?_, ⟨?_, sm_0 g1.1, fun i hi => ?_⟩, ⟨?_, sm_0 g1.2.1, fun i hi => ?_⟩, fun i hi => ?_, fun b t hb ht => ?_, ⟨?_, sm_0 g1.2.2.1, fun i hi => ?_⟩, ⟨?_, sm_0 g1.2.2.2.1, fun i hi => ?_⟩, ⟨?_, sm_0 g1.2.2.2.2.1, fun i hi => ?_⟩⟩⟩, ⟨0, 0, by omega, by omega, g2.1, g2.2.1, g2.2.2, fun i hi => absurd hi (by omega)⟩, ⟨⟨0, by omega, g3.1, g3.2.1⟩, fun i hi => ?_, g3.2.2.1, g3.2.2.2.1, g3.2.2.2.2.1, g3.2.2.2.2.2.1, g3.2.2.2.2.2.2.1, ⟨g3.2.2.2.2.2.2.2.1, Or.inl g3.2.2.2.2.2.2.2.2⟩, fun z => absurd (g3.2.2.2.2.2.2.2.2.symm.trans z) (by decide)⟩⟩
  · exact f1.2.2.1.trans f1.1.symm
  · exact f1.2.2.2.trans f1.2.1.symm
  · obtain ⟨h1, h2, h3, h4, h5, h6, h7⟩ := a1 i hi
    exact ⟨h5.trans h1.symm, h6.trans h2.symm, h7.trans h3.symm, sm_0 h1, sm_0 h3⟩
  · obtain ⟨h1, h2, h3, h4, h5, h6, -⟩ := a2 i hi
    exact ⟨h5.trans h1.symm, h6.trans h2.symm, Or.inl h2⟩
  · obtain ⟨h6, h7, h8, h9, h10, h11, h12⟩ := f2
    exact ⟨(d2 0 (by omega)).trans h10.symm, (d2 1 (by omega)).trans h6.symm, (d2 2 (by omega)).trans h12.symm, (d2 3 (by omega)).trans h7.symm, (d2 4 (by omega)).trans h8.symm, (d2 5 (by omega)).trans h9.symm, (d2 6 (by omega)).trans h11.symm⟩
  · obtain ⟨h1, h2⟩ := b2 i hi
    refine ⟨(d2 (7 + i) (by omega)).trans ?_, (d2 (23 + i) (by omega)).trans ?_, (d2 (39 + i) (by omega)).trans (a1 i hi).2.2.2.1.symm⟩
    · show 0 = M 9 i + 1
      rw [h1]; rfl
    · show 0 = M 10 i + 1
      rw [h2]; rfl
  · obtain ⟨-, -, h3, h4, -⟩ := a2 i hi
    exact ⟨(d2 (55 + i) (by omega)).trans h3.symm, (d2 (63 + i) (by omega)).trans h4.symm⟩
  · exact (d2 (71 + i) (by omega)).trans (b1 i hi).1.symm
  · refine ⟨sm_0 ?_, sm_0 (a1 i hi).2.2.2.1⟩
    show M 9 i + 1 = 0
    rw [(b2 i hi).1]; rfl
  · exact sm_0 (a2 i hi).2.2.1
  · exact sm_0 (a2 i hi).2.2.2.1
  · exact sm_0 (b1 i hi).1
  · exact ⟨(b2 i hi).1, (b2 i hi).2, (a1 i hi).2.2.2.1⟩
  · exact (a2 i hi).2.2.2.1
  · exact (b1 i hi).1
  · exact (d1 i hi).1.trans (d1 i hi).2.symm
  · exact f4.2.2.2.1.trans f4.1.symm
  · exact f4.2.2.2.2.2.trans f4.2.1.symm
  · exact f4.2.2.2.2.1.trans f4.2.2.1.symm
  · obtain ⟨-, -, -, -, -, -, h7, h8, -⟩ := a2 i hi
    refine h8.trans ?_
    show 0 = M 24 i + 1
    rw [h7]; rfl
  · obtain ⟨-, h2, h3, -⟩ := b1 i hi
    exact ⟨h3.trans h2.symm, sm_0 h2⟩
  · exact (b1 (8 * b) (by omega)).2.1
  · rw [show M (1 + 22) 8 = 0 from f4.2.2.1] at hl
    exact absurd hl (np0 i hi)
  · obtain ⟨-, -, -, -, -, -, -, -, h9, h10⟩ := a2 i hi
    exact ⟨h10.trans h9.symm, sm_0 h9⟩
  · exact g1.2.2.2.2.2.1.trans g1.1.symm
  · refine ⟨(c1 i hi).2.trans (c1 i hi).1.symm, sm_0 (c1 i hi).1, fun z => ?_⟩
    rw [show M (1 + 29) 9 = 0 from g1.1] at z
    exact absurd z (np0 i (by omega))
  · exact g1.2.2.2.2.2.2.1.trans g1.2.1.symm
  · refine ⟨(c2 i hi).2.trans (c2 i hi).1.symm, sm_0 (c2 i hi).1, fun z => ?_⟩
    rw [show M (1 + 29) 10 = 0 from g1.2.1] at z
    exact absurd z (np0 i (by omega))
  · obtain ⟨-, -, -, h4, h5⟩ := b1 i hi
    refine ⟨?_, ⟨i % 8, by omega, h5⟩⟩
    show M 190 i + nI (i % 8) = M 34 i
    rw [h4, h5]
    exact Int32.zero_add _
  · refine ⟨t, ht, ?_⟩
    have := (b1 (8 * b + t) (by omega)).2.2.2.2
    rw [show (8 * b + t) % 8 = t by omega] at this
    exact this
  · exact g1.2.2.2.2.2.2.2.1.trans g1.2.2.1.symm
  · obtain ⟨h1, h2, h3, h4⟩ := c3 i hi
    exact ⟨h3.trans h1.symm, h4.trans h2.symm, sm_0 h1, sm_0 h2⟩
  · exact g1.2.2.2.2.2.2.2.2.1.trans g1.2.2.2.1.symm
  · obtain ⟨h1, h2, h3, h4⟩ := c4 i hi
    exact ⟨h3.trans h1.symm, h4.trans h2.symm, sm_0 h1⟩
  · exact g1.2.2.2.2.2.2.2.2.2.trans g1.2.2.2.2.1.symm
  · exact ⟨(c5 i hi).2.trans (c5 i hi).1.symm, sm_0 (c5 i hi).1⟩
  · obtain ⟨h1, h2, h3⟩ := e1 i hi
    exact ⟨h1.trans h2.symm, sm_0 h2, h3⟩
theorem inv_0 : Inv 0 M0 := inv_of m0_a m0_b m0_c m0_d m0_e m0_f m0_g
