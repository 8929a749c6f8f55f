/-! TEXT: all together again -/
theorem IL.pw {M M' : Mm} {w : Nat} {v v' : Vw} (h : IL M w v) (E : ∀ t j, 15 ≤ t → t ≤ 19 → M' (w + t) j = M (w + t) j) (V0 : v' 20 0 = v 20 0) (V : ∀ g i, 21 ≤ g → g ≤ 24 → i < 16 → v' g i = v g i) (V2 : ∀ g i, 25 ≤ g → g ≤ 26 → i < 400 → v' g i = v g i) : IL M' w v' := by
  obtain ⟨nl, nz, h1, h2, h3, h4, h5, h6, fr, wh, en, f0, f1, hl⟩ := h
  have hc : ∀ i, i < nz → v' 25 i = v 25 i ∧ v' 26 i = v 26 i := fun i hi => ⟨V2 25 i (by omega) (by omega) (by omega), V2 26 i (by omega) (by omega) (by omega)⟩
  refine ⟨nl, nz, h1, h2, by rw [V0]; exact h3, by rw [E 15 7 (by omega) (by omega)]; exact h4, by rw [E 15 6 (by omega) (by omega)]; exact h5, fun i hi => ?_, fr, wh, en, f0, f1, fun l hll => ?_⟩
  · rw [(hc i hi).1, (hc i hi).2, E 16 i (by omega) (by omega)]; exact h6 i hi
  · obtain ⟨a1, a2, a3, a4, b1, b2, b3, b4, b5, w1, w2⟩ := hl l hll
    refine ⟨a1, a2, a3, ?_, by rw [V 22 l (by omega) (by omega) (by omega)]; exact b1, by rw [V 23 l (by omega) (by omega) (by omega)]; exact b2, by rw [V 24 l (by omega) (by omega) (by omega)]; exact b3, by rw [E 18 l (by omega) (by omega)]; exact b4, by rw [E 19 l (by omega) (by omega)]; exact b5, wfx_cg hc (by omega) w1, wfx_cg hc a3 w2⟩
    rw [V 21 l (by omega) (by omega) (by omega), E 17 l (by omega) (by omega)]; exact a4
theorem IP.pw {np nb : Nat} {M M' : Mm} {w : Nat} {v v' : Vw} (h : IP np nb M w v) (E : ∀ t j, 22 ≤ t → t ≤ 28 → M' (w + t) j = M (w + t) j) (V1 : ∀ i, 2 ≤ i → i ≤ 4 → v' 1 i = v 1 i) (V7 : ∀ i, i < 8 → v' 7 i = v 7 i) (V17 : ∀ i, i < 64 → v' 17 i = v 17 i) (V18 : ∀ i, i < 64 → v' 18 i = v 18 i) : IP np nb M' w v' := by
  obtain ⟨⟨a1, a2, a3, a4⟩, b, c, d, e⟩ := h
  refine ⟨⟨by rw [V1 2 (by omega) (by omega), E 22 6 (by omega) (by omega)]; exact a1, by rw [V1 4 (by omega) (by omega), E 22 7 (by omega) (by omega)]; exact a2, by rw [V1 3 (by omega) (by omega), E 22 8 (by omega) (by omega)]; exact a3, by rw [E 22 8 (by omega) (by omega)]; exact a4⟩, fun i hi => ?_, fun i hi => ?_, fun i hi => ?_, fun i hi hj => ?_⟩
  · rw [V7 i hi, E 23 i (by omega) (by omega)]; exact b i hi
  · rw [V17 i hi, E 24 i (by omega) (by omega)]; exact c i hi
  · rw [E 24 _ (by omega) (by omega)]; exact d i hi
  · rw [E 22 8 (by omega) (by omega)] at hj
    rw [V18 _ (by omega), V18 _ (by omega), V18 _ (by omega), V18 _ (by omega), E 25 i (by omega) (by omega), E 26 i (by omega) (by omega), E 27 i (by omega) (by omega), E 28 i (by omega) (by omega)]
    exact e i hi hj
/-- what a text may change, at most -/
def txw (a j : Nat) : Prop := (a = 0 ∧ (j = 10 ∨ j = 11)) ∨ (a = 132 ∧ (j = 1 ∨ (4 ≤ j ∧ j ≤ 8))) ∨ (134 ≤ a ∧ a ≤ 150) ∨ (a = 159 ∧ (j = 0 ∨ j = 3 ∨ (15 ≤ j ∧ j ≤ 19) ∨ (28 ≤ j ∧ j ≤ 37) ∨ j = 39 ∨ j = 41)) ∨ (171 ≤ a ∧ a ≤ 181) ∨ (16 ≤ a ∧ a ≤ 20) ∨ (23 ≤ a ∧ a ≤ 29) ∨ (a = 79 ∧ (j = 1 ∨ j = 2))
set_option maxHeartbeats 1000000 in
theorem tx_inv {N np nb : Nat} {M M2 : Mm} (hI : IW N np nb M 1 (vn M)) (hX : IX N M) (F : ∀ a j, ¬ txw a j → M2 a j = M a j) (hU : IU N np nb M2) (hL : IL M2 1 (vn M2)) (hP : IP np nb M2 1 (vn M2)) (f1 : M2 159 35 = M2 0 10) (f2 : M2 159 36 = M2 0 11) (c1 : M2 132 1 = 0) (c2 : M2 159 15 = 0) : Inv N M2 := by
  obtain ⟨hC, ⟨hQ, hW⟩, hB, -, -, hT⟩ := hI
  unfold txw at F
  have G : ∀ a, a ≠ 0 → a ≠ 132 → ¬ (134 ≤ a ∧ a ≤ 150) → a ≠ 159 → ¬ (171 ≤ a ∧ a ≤ 181) → ¬ (16 ≤ a ∧ a ≤ 20) → ¬ (23 ≤ a ∧ a ≤ 29) → a ≠ 79 → M2 a = M a := fun a h1 h2 h3 h4 h5 h6 h7 h8 => funext fun j => F a j (by omega)
  refine ⟨np, nb, ⟨?_, ⟨?_, ?_⟩, fun i hi => ?_, hL, hP, ?_⟩, hU, ?_⟩
  · refine hC.cg (fun d h1 h2 => G _ (by omega) (by omega) (by omega) (by omega) (by omega) (by omega) (by omega) (by omega)) (F 159 6 (by omega)) (F 159 7 (by omega)) (fun k h1 h2 => ?_)
    match k, h1, h2 with
    | 2, _, _ => exact G 163 (by omega) (by omega) (by omega) (by omega) (by omega) (by omega) (by omega) (by omega)
    | 3, _, _ => exact G 164 (by omega) (by omega) (by omega) (by omega) (by omega) (by omega) (by omega) (by omega)
    | 4, _, _ => exact G 165 (by omega) (by omega) (by omega) (by omega) (by omega) (by omega) (by omega) (by omega)
    | 5, _, _ => exact G 166 (by omega) (by omega) (by omega) (by omega) (by omega) (by omega) (by omega) (by omega)
    | 6, _, _ => exact G 167 (by omega) (by omega) (by omega) (by omega) (by omega) (by omega) (by omega) (by omega)
  · exact hQ.cg (fun i hi => F 160 i (by omega)) (fun d hd => G _ (by omega) (by omega) (by omega) (by omega) (by omega) (by omega) (by omega) (by omega))
  · exact hW.cg (fun d hd => G _ (by omega) (by omega) (by omega) (by omega) (by omega) (by omega) (by omega) (by omega))
  · show M2 168 i = M2 15 i
    rw [F 168 i (by omega), F 15 i (by omega)]
    exact hB i hi
  · refine hT.cg (fun d h1 h2 => G _ (by omega) (by omega) (by omega) (by omega) (by omega) (by omega) (by omega) (by omega)) (fun i h1 h2 => ?_) (fun k h1 h2 => ?_)
    · match i, h1, h2 with
      | 5, _, _ => exact F 159 51 (by omega)
      | 6, _, _ => exact F 159 53 (by omega)
      | 7, _, _ => exact F 159 59 (by omega)
      | 8, _, _ => exact F 159 62 (by omega)
      | 9, _, _ => exact F 159 65 (by omega)
    · match k, h1, h2 with
      | 8, _, _ => exact G 184 (by omega) (by omega) (by omega) (by omega) (by omega) (by omega) (by omega) (by omega)
      | 9, _, _ => exact G 195 (by omega) (by omega) (by omega) (by omega) (by omega) (by omega) (by omega) (by omega)
      | 10, _, _ => exact G 196 (by omega) (by omega) (by omega) (by omega) (by omega) (by omega) (by omega) (by omega)
      | 11, _, _ => exact G 187 (by omega) (by omega) (by omega) (by omega) (by omega) (by omega) (by omega) (by omega)
      | 12, _, _ => exact G 193 (by omega) (by omega) (by omega) (by omega) (by omega) (by omega) (by omega) (by omega)
      | 13, _, _ => exact G 194 (by omega) (by omega) (by omega) (by omega) (by omega) (by omega) (by omega) (by omega)
      | 14, _, _ => exact G 188 (by omega) (by omega) (by omega) (by omega) (by omega) (by omega) (by omega) (by omega)
      | 15, _, _ => exact G 197 (by omega) (by omega) (by omega) (by omega) (by omega) (by omega) (by omega) (by omega)
      | 16, _, _ => exact G 190 (by omega) (by omega) (by omega) (by omega) (by omega) (by omega) (by omega) (by omega)
      | k + 17, _, h => exact absurd h (by omega)
  · obtain ⟨-, h2, -, -, h5, h6, h7, ⟨h8, h9⟩, h10⟩ := hX
    refine ⟨⟨0, by omega, c1, c2⟩, fun i hi => by rw [F 169 i (by omega), F 133 i (by omega), F 170 i (by omega)]; exact h2 i hi, f1, f2, (F 159 5 (by omega)).trans h5, (F 130 5 (by omega)).trans h6, (F 131 5 (by omega)).trans h7, ⟨by rw [F 159 69 (by omega), F 0 9 (by omega)]; exact h8, by rw [F 0 9 (by omega)]; exact h9⟩, fun q => ?_⟩
    rw [F 0 9 (by omega)] at q
    obtain ⟨a, b, hab⟩ := h10 q
    exact ⟨a, b, IW40.cg hab (fun a h1 h2 => G a (by omega) (by omega) (by omega) (by omega) (by omega) (by omega) (by omega) (by omega)) (G 199 (by omega) (by omega) (by omega) (by omega) (by omega) (by omega) (by omega) (by omega))⟩
/-! the typed list of codes_v is the law's kind of row_v -/
theorem sg_conv {op arg : Nat → Int32} : ∀ (c : List (Nat × Nat)) (p : Nat × Nat) (a : Nat) (u t : List Bool), tyL p c u t → ((1 ≤ a ∧ op (a - 1) = nI p.1 ∧ arg (a - 1) = nI p.2) ∨ ¬ p.1 = 0) → (p.1 = 0 → p.2 ≤ 9999) → (∀ x, x ∈ c → okc x) → (∀ j x, c[j]? = some x → op (a + j) = nI x.1 ∧ arg (a + j) = nI x.2) → sgF op arg c.length a u t
  | [], _, _, _, _, h, _, _, _, _ => h
  | x :: r, p, a, u, t, h, hp, hp2, ho, hr => by
    obtain ⟨u', h1, h2⟩ := h
    obtain ⟨r1, r2⟩ := hr 0 x rfl
    have r1' : op a = nI x.1 := r1
    have r2' : arg a = nI x.2 := r2
    have ox := ho x (List.mem_cons_self)
    refine ⟨u', ?_, sg_conv r x (a + 1) u' t h2 (Or.inl ⟨by omega, r1', r2'⟩) (fun z => ?_) (fun y hy => ho y (List.mem_cons_of_mem x hy)) (fun j y hy => ?_)⟩
    · unfold stp
      rw [r1']
      rcases h1 with ⟨z, z2⟩ | ⟨z, z2⟩ | ⟨z, z3, z4, z2⟩ | ⟨z, z2⟩ | ⟨z, z2⟩ | ⟨z, z2⟩
      · refine Or.inl ⟨z.imp (fun e => by rw [e]; rfl) (fun e => by rw [e]; rfl), z2⟩
      · refine Or.inr (Or.inl ⟨z.imp (fun e => by rw [e]; rfl) (fun e => e.imp (fun e => by rw [e]; rfl) (fun e => by rw [e]; rfl)), z2⟩)
      · rcases hp with ⟨q1, q2, q3⟩ | q
        · refine Or.inr (Or.inr (Or.inl ⟨by rw [z]; rfl, q1, by rw [q2, z3]; rfl, ?_, z2⟩))
          rw [q3]
          exact nI_ne0 (by omega) (by have := hp2 z3; omega)
        · exact absurd z3 q
      · refine Or.inr (Or.inr (Or.inr (Or.inl ⟨z.imp (fun e => by rw [e]; rfl) (fun e => e.imp (fun e => by rw [e]; rfl) (fun e => by rw [e]; rfl)), z2⟩)))
      · exact Or.inr (Or.inr (Or.inr (Or.inr (Or.inl ⟨by rw [z]; rfl, z2⟩))))
      · exact Or.inr (Or.inr (Or.inr (Or.inr (Or.inr ⟨z.imp (fun e => by rw [e]; rfl) (fun e => by rw [e]; rfl), z2⟩))))
    · unfold okc at ox
      omega
    · have := hr (j + 1) y hy
      rw [show a + (j + 1) = a + 1 + j by omega] at this
      exact this
theorem wf_sgm {op arg : Nat → Int32} {cs : List (Nat × Nat)} {a b : Nat} (h : sgm cs a b) (ho : ∀ x, x ∈ cs → okc x) (hr : ∀ j x, cs[j]? = some x → op j = nI x.1 ∧ arg j = nI x.2) : wfx op arg a b := by
  obtain ⟨c1, c2, c3, h1, h2, h3, t, h4⟩ := h
  intro _
  refine ⟨t, ?_⟩
  rw [show b - a = c2.length by omega]
  refine sg_conv c2 (9, 9) a [] [t] (h4 (9, 9)) (Or.inr (by decide)) (fun z => absurd z (by decide)) (fun x hx => ho x (by rw [h1]; exact List.mem_append_left _ (List.mem_append_right _ hx))) (fun j x hj => hr (a + j) x ?_)
  have lj : j < c2.length := (List.getElem?_eq_some_iff.mp hj).1
  rw [h1, List.append_assoc, List.getElem?_append_right (by omega), h2, show a + j - a = j by omega, List.getElem?_append_left lj]
  exact hj
theorem cod_N {x : Nat × Nat} (h : okc x) : codR (nI (cN x)) (nI x.1) (nI x.2) := by
  obtain ⟨o, a⟩ := x
  unfold okc at h
  have hb : o ≤ 11 := by
    have : o = 0 ∨ o = 1 ∨ (2 ≤ o ∧ o ≤ 11) := h.imp (fun z => z.1) (fun z => z.imp (fun z => z.1) id)
    omega
  match o, hb, h with
  | 0, _, h => exact Or.inl ⟨rfl, ⟨a, by have := h; omega, rfl⟩, rfl⟩
  | 1, _, h => exact Or.inr (Or.inl ⟨rfl, ⟨a, by have := h; omega, rfl⟩, (nI_add 10000 a).symm⟩)
  | 2, _, _ => exact Or.inr (Or.inr (Or.inl ⟨rfl, rfl⟩))
  | 3, _, _ => exact Or.inr (Or.inr (Or.inr (Or.inl ⟨rfl, rfl⟩)))
  | 4, _, _ => exact Or.inr (Or.inr (Or.inr (Or.inr (Or.inl ⟨rfl, rfl⟩))))
  | 5, _, _ => exact Or.inr (Or.inr (Or.inr (Or.inr (Or.inr (Or.inl ⟨rfl, rfl⟩)))))
  | 6, _, _ => exact Or.inr (Or.inr (Or.inr (Or.inr (Or.inr (Or.inr (Or.inl ⟨rfl, rfl⟩))))))
  | 7, _, _ => exact Or.inr (Or.inr (Or.inr (Or.inr (Or.inr (Or.inr (Or.inr (Or.inl ⟨rfl, rfl⟩)))))))
  | 8, _, _ => exact Or.inr (Or.inr (Or.inr (Or.inr (Or.inr (Or.inr (Or.inr (Or.inr (Or.inl ⟨rfl, rfl⟩))))))))
  | 9, _, _ => exact Or.inr (Or.inr (Or.inr (Or.inr (Or.inr (Or.inr (Or.inr (Or.inr (Or.inr (Or.inl ⟨rfl, rfl⟩)))))))))
  | 10, _, _ => exact Or.inr (Or.inr (Or.inr (Or.inr (Or.inr (Or.inr (Or.inr (Or.inr (Or.inr (Or.inr (Or.inl ⟨rfl, rfl⟩))))))))))
  | 11, _, _ => exact Or.inr (Or.inr (Or.inr (Or.inr (Or.inr (Or.inr (Or.inr (Or.inr (Or.inr (Or.inr (Or.inr ⟨rfl, rfl⟩))))))))))
  | o + 12, hb, _ => exact absurd hb (by omega)
/-- the law_v anew_v -/
theorem il_new {M : Mm} {cs : List (Nat × Nat)} {l i : Nat} {lk lw le : Nat → Nat} (hF : LF cs l lk lw le i) (hl : l ≤ 16) (hi : i ≤ 400) (m1 : M 171 0 = nI l) (m2 : M 16 7 = nI l) (m3 : M 16 6 = nI cs.length) (m4 : ∀ j x, cs[j]? = some x → M 17 j = nI (cN x) ∧ M 176 j = nI x.1 ∧ M 177 j = nI x.2) (m5 : ∀ j, j < l → (M 18 j = nI (256 + lk j) ∧ M 19 j = nI (lw j) ∧ M 20 j = nI (le j)) ∧ M 172 j = nI (lk j) ∧ M 173 j = nI (pre le j) ∧ M 174 j = nI (lw j) ∧ M 175 j = nI (le j)) : IL M 1 (vn M) := by
  obtain ⟨h1, h2, h3, h4⟩ := hF
  refine ⟨l, cs.length, hl, by omega, m1, m2, m3, fun j hj => ?_, pre le, lw, le, rfl, fun _ => pre_s, fun j hj => ?_⟩
  · obtain ⟨a1, a2, a3⟩ := m4 j _ (List.getElem?_eq_getElem hj)
    show codR (M 17 j) (M 176 j) (M 177 j)
    rw [a1, a2, a3]
    exact cod_N (h3 _ (List.getElem_mem hj))
  · obtain ⟨⟨b1, b2, b3⟩, b4, b5, b6, b7⟩ := m5 j hj
    obtain ⟨c1, c2, c3, c4, c5, c6⟩ := h4 j hj
    have hr : ∀ j x, cs[j]? = some x → vn M 25 j = nI x.1 ∧ vn M 26 j = nI x.2 := fun j x hx => ⟨(m4 j x hx).2.1, (m4 j x hx).2.2⟩
    refine ⟨c2, c3, c4, ⟨lk j, c1, b4, b1⟩, b5, b6, b7, b2, b3, wf_sgm c5 h3 hr, ?_⟩
    rcases c6 with z | z
    · intro q
      exact absurd q (by omega)
    · exact wf_sgm z h3 hr
