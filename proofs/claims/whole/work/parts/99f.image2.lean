/-- the places_v of a whole_v that count -/
def wpl (t j : Nat) : Prop := (t = 1 ∧ j < 2) ∨ (2 ≤ t ∧ t ≤ 4 ∧ j < 16) ∨ (5 ≤ t ∧ t ≤ 6 ∧ j < 8) ∨ (t = 7 ∧ 6 ≤ j ∧ j ≤ 12) ∨ (8 ≤ t ∧ t ≤ 10 ∧ j < 16) ∨ (11 ≤ t ∧ t ≤ 12 ∧ j < 8) ∨ (t = 13 ∧ j < 64) ∨ (t = 14 ∧ j < 600) ∨ (t = 15 ∧ (j = 6 ∨ j = 7)) ∨ (17 ≤ t ∧ t ≤ 19 ∧ j < 16) ∨ (t = 22 ∧ 6 ≤ j ∧ j ≤ 8) ∨ (t = 23 ∧ j < 8) ∨ (t = 24 ∧ j < 64) ∨ (25 ≤ t ∧ t ≤ 28 ∧ j < 16) ∨ (t = 29 ∧ 9 ≤ j ∧ j ≤ 13) ∨ (t = 30 ∧ j < 8) ∨ (t = 31 ∧ j < 9) ∨ (t = 32 ∧ j < 6) ∨ (t = 33 ∧ j < 64) ∨ (34 ≤ t ∧ t ≤ 35 ∧ j < 7) ∨ (36 ≤ t ∧ t ≤ 37 ∧ j < 8) ∨ (t = 38 ∧ j < 20)
def vpl (g i : Nat) : Prop := (g = 0 ∧ i < 135) ∨ (g = 1 ∧ i < 10) ∨ (2 ≤ g ∧ g ≤ 4 ∧ i < 16) ∨ (5 ≤ g ∧ g ≤ 10 ∧ i < 8) ∨ (g = 11 ∧ i < 6) ∨ (12 ≤ g ∧ g ≤ 13 ∧ i < 7) ∨ (g = 14 ∧ i < 9) ∨ (g = 15 ∧ i < 20) ∨ (16 ≤ g ∧ g ≤ 18 ∧ i < 64) ∨ (g = 19 ∧ i < 600) ∨ (g = 20 ∧ i = 0) ∨ (21 ≤ g ∧ g ≤ 24 ∧ i < 16) ∨ (25 ≤ g ∧ g ≤ 26 ∧ i < 400)
theorem stp_cg {op arg op' arg' : Nat → Int32} {k n : Nat} {u t : List Bool} (h : ∀ i, i < n → op' i = op i ∧ arg' i = arg i) (hk : k < n) (hs : stp op arg k u t) : stp op' arg' k u t := by
  unfold stp at hs ⊢
  rw [(h k hk).1]
  by_cases c : 1 ≤ k
  · rw [(h (k - 1) (by omega)).1, (h (k - 1) (by omega)).2]
    exact hs
  · rcases hs with z | z | ⟨-, z, -⟩ | z | z | z
    · exact Or.inl z
    · exact Or.inr (Or.inl z)
    · exact absurd z c
    · exact Or.inr (Or.inr (Or.inr (Or.inl z)))
    · exact Or.inr (Or.inr (Or.inr (Or.inr (Or.inl z))))
    · exact Or.inr (Or.inr (Or.inr (Or.inr (Or.inr z))))
theorem sgF_cg {op arg op' arg' : Nat → Int32} {n : Nat} (h : ∀ i, i < n → op' i = op i ∧ arg' i = arg i) : ∀ m k u t, k + m ≤ n → sgF op arg m k u t → sgF op' arg' m k u t
  | 0, _, _, _, _, hs => hs
  | m + 1, k, u, t, hk, hs => by
    obtain ⟨u', h1, h2⟩ := hs
    exact ⟨u', stp_cg h (by omega) h1, sgF_cg h m (k + 1) u' t (by omega) h2⟩
theorem wfx_cg {op arg op' arg' : Nat → Int32} {n a b : Nat} (h : ∀ i, i < n → op' i = op i ∧ arg' i = arg i) (hb : b ≤ n) (hw : wfx op arg a b) : wfx op' arg' a b := by
  intro hab
  obtain ⟨t, ht⟩ := hw hab
  exact ⟨t, sgF_cg h (b - a) a [] [t] (by omega) ht⟩
set_option maxHeartbeats 4000000 in
theorem IW.ve {N np nb : Nat} {M M' : Mm} {w w' : Nat} {v v' : Vw} (h : IW N np nb M w v) (E : ∀ t j, wpl t j → M' (w' + t) j = M (w + t) j) (Ec : ∀ nz, nz ≤ 400 → M (w + 15) 6 = nI nz → ∀ j, j < nz → M' (w' + 16) j = M (w + 16) j) (V : ∀ g i, vpl g i → v' g i = v g i) : IW N np nb M' w' v' := by
  obtain ⟨hC, ⟨hQ, hW⟩, hB, hL, hP, hT⟩ := h
  unfold wpl at E
  unfold vpl at V
  refine ⟨?_, ?_, ?_, ?_, ?_, ?_⟩
  · obtain ⟨⟨a1, a2, a3, a4, a5, a6⟩, b, c⟩ := hC
    refine ⟨⟨by rw [V 1 0 (by omega), E 1 0 (by omega)]; exact a1, by rw [V 1 1 (by omega), E 1 1 (by omega)]; exact a2, by rw [E 1 0 (by omega)]; exact a3, by rw [E 1 1 (by omega)]; exact a4, a5, a6⟩, fun i hi => ?_, fun i hi => ?_⟩
    · rw [V 2 i (by omega), V 3 i (by omega), V 4 i (by omega), E 2 i (by omega), E 3 i (by omega), E 4 i (by omega)]; exact b i hi
    · rw [V 5 i (by omega), V 6 i (by omega), E 5 i (by omega), E 6 i (by omega)]; exact c i hi
  · have c0 : cqR M (fun a => if w' + 7 ≤ a ∧ a ≤ w' + 13 then M' a else M a) (w' + 7) (w + 7) := by
      refine ⟨fun a ha => if_neg (by omega), fun j h1 h2 => ?_, fun t j h1 h2 hj => ?_⟩
      · show (if w' + 7 ≤ w' + 7 ∧ w' + 7 ≤ w' + 13 then M' (w' + 7) else M (w' + 7)) j = _
        rw [if_pos (by omega)]
        exact E 7 j (by omega)
      · show (if w' + 7 ≤ w' + 7 + t ∧ w' + 7 + t ≤ w' + 13 then M' (w' + 7 + t) else M (w' + 7 + t)) j = _
        rw [if_pos (by omega), Nat.add_assoc, Nat.add_assoc]
        refine E (7 + t) j ?_
        unfold qln at hj
        rcases (by omega : t = 1 ∨ t = 2 ∨ t = 3 ∨ t = 4 ∨ t = 5 ∨ t = 6) with rfl | rfl | rfl | rfl | rfl | rfl <;> simp at hj <;> omega
    have cd : ∀ d, d ≤ 6 → M' (w' + 7 + d) = (fun a => if w' + 7 ≤ a ∧ a ≤ w' + 13 then M' a else M a) (w' + 7 + d) := fun d hd => by
      show _ = if w' + 7 ≤ w' + 7 + d ∧ w' + 7 + d ≤ w' + 13 then M' (w' + 7 + d) else M (w' + 7 + d)
      rw [if_pos (by omega)]
    exact ⟨(IQ.cq (N' := N) hQ c0 (fun k hk => V 0 k (by omega))).cg (fun _ _ => rfl) cd, (WQ.cq hW c0).cg cd⟩
  · intro i hi
    rw [V 19 i (by omega), E 14 i (by omega)]
    exact hB i hi
  · obtain ⟨nl, nz, h1, h2, h3, h4, h5, h6, fr, wh, en, f0, f1, hl⟩ := hL
    have hc : ∀ i, i < nz → v' 25 i = v 25 i ∧ v' 26 i = v 26 i := fun i hi => ⟨V 25 i (by omega), V 26 i (by omega)⟩
    refine ⟨nl, nz, h1, h2, by rw [V 20 0 (by omega)]; exact h3, by rw [E 15 7 (by omega)]; exact h4, by rw [E 15 6 (by omega)]; exact h5, fun i hi => ?_, fr, wh, en, f0, f1, fun l hll => ?_⟩
    · rw [(hc i hi).1, (hc i hi).2, Ec nz h2 h5 i hi]; exact h6 i hi
    · obtain ⟨a1, a2, a3, a4, b1, b2, b3, b4, b5, w1, w2⟩ := hl l hll
      refine ⟨a1, a2, a3, ?_, by rw [V 22 l (by omega)]; exact b1, by rw [V 23 l (by omega)]; exact b2, by rw [V 24 l (by omega)]; exact b3, by rw [E 18 l (by omega)]; exact b4, by rw [E 19 l (by omega)]; exact b5, wfx_cg hc (by omega) w1, wfx_cg hc a3 w2⟩
      rw [V 21 l (by omega), E 17 l (by omega)]; exact a4
  · obtain ⟨⟨a1, a2, a3, a4⟩, b, c, d, e⟩ := hP
    refine ⟨⟨by rw [V 1 2 (by omega), E 22 6 (by omega)]; exact a1, by rw [V 1 4 (by omega), E 22 7 (by omega)]; exact a2, by rw [V 1 3 (by omega), E 22 8 (by omega)]; exact a3, by rw [E 22 8 (by omega)]; exact a4⟩, fun i hi => ?_, fun i hi => ?_, fun b' hb => ?_, fun i hi hl => ?_⟩
    · rw [V 7 i (by omega), E 23 i (by omega)]; exact b i hi
    · rw [V 17 i (by omega), E 24 i (by omega)]; exact c i hi
    · rw [E 24 (8 * b') (by omega)]; exact d b' hb
    · rw [E 22 8 (by omega)] at hl
      rw [V 18 (4 * i) (by omega), V 18 (4 * i + 1) (by omega), V 18 (4 * i + 2) (by omega), V 18 (4 * i + 3) (by omega), E 25 i (by omega), E 26 i (by omega), E 27 i (by omega), E 28 i (by omega)]
      exact e i hi hl
  · obtain ⟨t1, ⟨p1, p2, t2⟩, ⟨q1, q2, t3⟩, t4, t4', ⟨r1, r2, t5⟩, ⟨s1, s2, t6⟩, ⟨u1, u2, t7⟩⟩ := hT
    refine ⟨fun i hi => ?_, ⟨by rw [V 1 6 (by omega), E 29 9 (by omega)]; exact p1, by rw [E 29 9 (by omega)]; exact p2, fun i hi => ?_⟩, ⟨by rw [V 1 5 (by omega), E 29 10 (by omega)]; exact q1, by rw [E 29 10 (by omega)]; exact q2, fun i hi => ?_⟩, fun i hi => ?_, fun b t hb ht => ?_, ⟨by rw [V 1 7 (by omega), E 29 11 (by omega)]; exact r1, by rw [E 29 11 (by omega)]; exact r2, fun i hi => ?_⟩, ⟨by rw [V 1 8 (by omega), E 29 12 (by omega)]; exact s1, by rw [E 29 12 (by omega)]; exact s2, fun i hi => ?_⟩, ⟨by rw [V 1 9 (by omega), E 29 13 (by omega)]; exact u1, by rw [E 29 13 (by omega)]; exact u2, fun i hi => ?_⟩⟩
    · rw [V 8 i (by omega), E 30 i (by omega)]; exact t1 i hi
    · rw [V 14 i (by omega), E 31 i (by omega), E 29 9 (by omega)]; exact t2 i hi
    · rw [V 11 i (by omega), E 32 i (by omega), E 29 10 (by omega)]; exact t3 i hi
    · rw [V 16 i (by omega), E 33 i (by omega)]; exact t4 i hi
    · obtain ⟨k, hk, ek⟩ := t4' b t hb ht
      exact ⟨k, hk, by rw [E 33 _ (by omega)]; exact ek⟩
    · rw [V 12 i (by omega), V 13 i (by omega), E 34 i (by omega), E 35 i (by omega)]; exact t5 i hi
    · rw [V 9 i (by omega), V 10 i (by omega), E 36 i (by omega), E 37 i (by omega)]; exact t6 i hi
    · rw [V 15 i (by omega), E 38 i (by omega)]; exact t7 i hi
/-- a whole_v is being copied_v: what is through_v -/
def PR (X X' : Mm) (d s : Nat) (dn : Nat → Nat → Prop) : Prop := (∀ a, ¬ (d + 1 ≤ a ∧ a ≤ d + 38) → X' a = X a) ∧ ∀ t j, 1 ≤ t → t ≤ 38 → dn t j → X' (d + t) j = X (s + t) j
def dsW (d s : Nat) : Prop := (d = 1 ∧ s = 40) ∨ (d = 40 ∧ s = 1)
theorem PR.mono {X X' : Mm} {d s : Nat} {p q : Nat → Nat → Prop} (h : PR X X' d s p) (hq : ∀ t j, q t j → p t j) : PR X X' d s q := ⟨h.1, fun t j h1 h2 h3 => h.2 t j h1 h2 (hq t j h3)⟩
theorem jn_cpr {A Z : Mm} {a0 a1 n : Nat} (h0 : a0 < 159) (h1 : a1 < 159) : cpr (jn A Z) a0 a1 n = jn (cpr A a0 a1 n) Z := by
  funext a j
  by_cases ha : a < 159
  · rw [jl j ha]
    unfold cpr
    rw [jl j h0, jl j ha]
  · rw [jh j (by omega)]
    unfold cpr
    rw [if_neg (by omega), jh j (by omega)]
theorem pr_row {X X' Z : Mm} {d s n : Nat} {dn : Nat → Nat → Prop} {K : Mm → Prop} (t0 : Nat) (hd : dsW d s) (ht1 : 1 ≤ t0) (ht : t0 ≤ 38) (l1 : ln (s + t0) = n) (l2 : ln (d + t0) = n) (hn : n < 5000) (h : PR X X' d s dn) (hK : ∀ X'', PR X X'' d s (fun t j => dn t j ∨ (t = t0 ∧ j < n)) → K (jn X'' Z)) : T_X11_copyRow (s + t0) (d + t0) (jn X' Z) K := by
  unfold dsW at hd
  refine copyRow_ok l1 l2 hn (by omega) ?_
  rw [jn_cpr (by omega) (by omega)]
  refine hK _ ⟨fun a ha => by rw [cpr_hi (by omega)]; exact h.1 a ha, fun t j h1 h2 h3 => ?_⟩
  have src : X' (s + t0) = X (s + t0) := h.1 _ (by omega)
  by_cases c : t = t0 ∧ j < n
  · rw [c.1, cpr_at c.2, src]
  · rcases h3 with z | z
    · unfold cpr
      by_cases c2 : d + t = d + t0 ∧ j < n
      · exact absurd ⟨by omega, c2.2⟩ c
      · rw [if_neg c2]; exact h.2 t j h1 h2 z
    · exact absurd z c
theorem pr_up {X X' : Mm} {d s : Nat} {dn : Nat → Nat → Prop} (t0 j0 : Nat) (hd : dsW d s) (ht1 : 1 ≤ t0) (ht : t0 ≤ 38) (h : PR X X' d s dn) : PR X (m_up X' (d + t0) j0 (X' (s + t0) j0)) d s (fun t j => dn t j ∨ (t = t0 ∧ j = j0)) := by
  unfold dsW at hd
  refine ⟨fun a ha => by rw [m_up_ne (by omega)]; exact h.1 a ha, fun t j h1 h2 h3 => ?_⟩
  have src : X' (s + t0) = X (s + t0) := h.1 _ (by omega)
  rw [mu]
  by_cases c : d + t = d + t0 ∧ j = j0
  · rw [if_pos c, src, c.2, show t = t0 by omega]
  · rw [if_neg c]
    rcases h3 with z | z
    · exact h.2 t j h1 h2 z
    · exact absurd ⟨by omega, z.2⟩ c
theorem rf_W {d : Nat} (h : d = 1 ∨ d = 40) : (rf d 0 = d + 1 ∧ rf d 1 = d + 7 ∧ rf d 2 = d + 14 ∧ rf d 3 = d + 15 ∧ rf d 4 = d + 22 ∧ rf d 5 = d + 29) ∧ (rf (d + 1) 2 = d + 2 ∧ rf (d + 1) 3 = d + 3 ∧ rf (d + 1) 4 = d + 4 ∧ rf (d + 1) 5 = d + 5 ∧ rf (d + 1) 6 = d + 6) ∧ (rf (d + 15) 0 = d + 16 ∧ rf (d + 15) 1 = d + 17 ∧ rf (d + 15) 2 = d + 18 ∧ rf (d + 15) 3 = d + 19) ∧ (rf (d + 22) 0 = d + 23 ∧ rf (d + 22) 1 = d + 24 ∧ rf (d + 22) 2 = d + 25 ∧ rf (d + 22) 3 = d + 26 ∧ rf (d + 22) 4 = d + 27 ∧ rf (d + 22) 5 = d + 28) ∧ (rf (d + 29) 0 = d + 30 ∧ rf (d + 29) 1 = d + 31 ∧ rf (d + 29) 2 = d + 32 ∧ rf (d + 29) 3 = d + 33 ∧ rf (d + 29) 4 = d + 34 ∧ rf (d + 29) 5 = d + 35 ∧ rf (d + 29) 6 = d + 36 ∧ rf (d + 29) 7 = d + 37 ∧ rf (d + 29) 8 = d + 38) := by
  rcases h with rfl | rfl <;> decide +kernel
theorem ln_W {d : Nat} (h : d = 1 ∨ d = 40) : (ln (d + 2) = 16 ∧ ln (d + 3) = 16 ∧ ln (d + 4) = 16 ∧ ln (d + 5) = 8 ∧ ln (d + 6) = 8 ∧ ln (d + 14) = 600 ∧ ln (d + 17) = 16 ∧ ln (d + 18) = 16 ∧ ln (d + 19) = 16) ∧ (ln (d + 23) = 8 ∧ ln (d + 24) = 64 ∧ ln (d + 25) = 16 ∧ ln (d + 26) = 16 ∧ ln (d + 27) = 16 ∧ ln (d + 28) = 16) ∧ (ln (d + 30) = 8 ∧ ln (d + 31) = 9 ∧ ln (d + 32) = 6 ∧ ln (d + 33) = 64 ∧ ln (d + 34) = 7 ∧ ln (d + 35) = 7 ∧ ln (d + 36) = 8 ∧ ln (d + 37) = 8 ∧ ln (d + 38) = 20) := by
  rcases h with rfl | rfl <;> decide +kernel
theorem wpl_6 {t j : Nat} (h : wpl t j) (g2 : t ≤ 6) : (t = 1 ∧ j = 0) ∨ (t = 1 ∧ j = 1) ∨ (t = 2 ∧ j < 16) ∨ (t = 3 ∧ j < 16) ∨ (t = 4 ∧ j < 16) ∨ (t = 5 ∧ j < 8) ∨ (t = 6 ∧ j < 8) := by
  rcases (by omega : t = 0 ∨ t = 1 ∨ t = 2 ∨ t = 3 ∨ t = 4 ∨ t = 5 ∨ t = 6) with rfl | rfl | rfl | rfl | rfl | rfl | rfl <;> simp [wpl] at h ⊢ <;> omega
theorem wpl_13 {t j : Nat} (h : wpl t j) (g1 : ¬ t ≤ 6) (g2 : t ≤ 13) : (t = 7 ∧ 6 ≤ j ∧ j ≤ 12) ∨ (8 ≤ t ∧ t ≤ 10 ∧ j < 16) ∨ (11 ≤ t ∧ t ≤ 12 ∧ j < 8) ∨ (t = 13 ∧ j < 64) := by
  rcases (by omega : t = 7 ∨ t = 8 ∨ t = 9 ∨ t = 10 ∨ t = 11 ∨ t = 12 ∨ t = 13) with rfl | rfl | rfl | rfl | rfl | rfl | rfl <;> simp [wpl] at h ⊢ <;> omega
theorem wpl_19 {t j : Nat} (h : wpl t j) (g1 : ¬ t ≤ 14) (g2 : t ≤ 19) : (t = 15 ∧ j = 6) ∨ (t = 15 ∧ j = 7) ∨ (t = 17 ∧ j < 16) ∨ (t = 18 ∧ j < 16) ∨ (t = 19 ∧ j < 16) := by
  rcases (by omega : t = 15 ∨ t = 16 ∨ t = 17 ∨ t = 18 ∨ t = 19) with rfl | rfl | rfl | rfl | rfl <;> simp [wpl] at h ⊢ <;> omega
theorem wpl_28 {t j : Nat} (h : wpl t j) (g1 : ¬ t ≤ 19) (g2 : t ≤ 28) : (t = 23 ∧ j < 8) ∨ (t = 22 ∧ j = 6) ∨ (t = 25 ∧ j < 16) ∨ (t = 26 ∧ j < 16) ∨ (t = 27 ∧ j < 16) ∨ (t = 28 ∧ j < 16) ∨ (t = 22 ∧ j = 8) ∨ (t = 24 ∧ j < 64) ∨ (t = 22 ∧ j = 7) := by
  rcases (by omega : t = 20 ∨ t = 21 ∨ t = 22 ∨ t = 23 ∨ t = 24 ∨ t = 25 ∨ t = 26 ∨ t = 27 ∨ t = 28) with rfl | rfl | rfl | rfl | rfl | rfl | rfl | rfl | rfl <;> simp [wpl] at h ⊢ <;> omega
theorem wpl_38 {t j : Nat} (h : wpl t j) (g1 : ¬ t ≤ 28) : (t = 30 ∧ j < 8) ∨ (t = 31 ∧ j < 9) ∨ (t = 32 ∧ j < 6) ∨ (t = 33 ∧ j < 64) ∨ (t = 34 ∧ j < 7) ∨ (t = 35 ∧ j < 7) ∨ (t = 36 ∧ j < 8) ∨ (t = 37 ∧ j < 8) ∨ (t = 38 ∧ j < 20) ∨ (t = 29 ∧ j = 9) ∨ (t = 29 ∧ j = 10) ∨ (t = 29 ∧ j = 11) ∨ (t = 29 ∧ j = 12) ∨ (t = 29 ∧ j = 13) := by
  have g2 : t ≤ 38 := by unfold wpl at h; omega
  rcases (by omega : t = 29 ∨ t = 30 ∨ t = 31 ∨ t = 32 ∨ t = 33 ∨ t = 34 ∨ t = 35 ∨ t = 36 ∨ t = 37 ∨ t = 38) with rfl | rfl | rfl | rfl | rfl | rfl | rfl | rfl | rfl | rfl <;> simp [wpl] at h ⊢ <;> omega
theorem wpl_14 {j : Nat} (h : wpl 14 j) : j < 600 := by simp [wpl] at h; omega
