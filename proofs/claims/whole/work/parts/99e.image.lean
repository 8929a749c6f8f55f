/-- the place_v of the model's image: which cell_v is kept_v there_v -/
def adr (t : Nat) : Nat × Nat :=
  if t < 135 then ([160].getD (t % 1) 0, t / 1) else if t < 145 then (159, [6, 7, 37, 39, 41, 51, 53, 59, 62, 65].getD (t - 135) 0) else
  if t < 193 then ([163, 164, 165].getD ((t - 145) % 3) 0, (t - 145) / 3) else
  if t < 241 then ([166, 167, 179, 184, 195, 196].getD ((t - 193) % 6) 0, (t - 193) / 6) else
  if t < 247 then ([187].getD ((t - 241) % 1) 0, (t - 241) / 1) else
  if t < 261 then ([193, 194].getD ((t - 247) % 2) 0, (t - 247) / 2) else
  if t < 270 then ([188].getD ((t - 261) % 1) 0, (t - 261) / 1) else
  if t < 290 then ([197].getD ((t - 270) % 1) 0, (t - 270) / 1) else
  if t < 482 then ([190, 181, 180].getD ((t - 290) % 3) 0, (t - 290) / 3) else
  if t < 1082 then ([168].getD ((t - 482) % 1) 0, (t - 482) / 1) else if t < 1083 then (171, 0) else
  if t < 1147 then ([172, 173, 174, 175].getD ((t - 1083) % 4) 0, (t - 1083) / 4) else ([176, 177].getD ((t - 1147) % 2) 0, (t - 1147) / 2)
theorem adr_160 {i : Nat} (hi : i < 135) : adr (0 + 1 * i + 0) = (160, i) := by
  unfold adr
  rw [if_pos (by omega), show (0 + 1 * i + 0) % 1 = 0 by omega, show (0 + 1 * i + 0) / 1 = i by omega]
  rfl
theorem adr_163 {i : Nat} (hi : i < 16) : adr (145 + 3 * i + 0) = (163, i) := by
  unfold adr
  rw [if_neg (by omega), if_neg (by omega), if_pos (by omega), show (145 + 3 * i + 0 - 145) % 3 = 0 by omega, show (145 + 3 * i + 0 - 145) / 3 = i by omega]
  rfl
theorem adr_164 {i : Nat} (hi : i < 16) : adr (145 + 3 * i + 1) = (164, i) := by
  unfold adr
  rw [if_neg (by omega), if_neg (by omega), if_pos (by omega), show (145 + 3 * i + 1 - 145) % 3 = 1 by omega, show (145 + 3 * i + 1 - 145) / 3 = i by omega]
  rfl
theorem adr_165 {i : Nat} (hi : i < 16) : adr (145 + 3 * i + 2) = (165, i) := by
  unfold adr
  rw [if_neg (by omega), if_neg (by omega), if_pos (by omega), show (145 + 3 * i + 2 - 145) % 3 = 2 by omega, show (145 + 3 * i + 2 - 145) / 3 = i by omega]
  rfl
theorem adr_166 {i : Nat} (hi : i < 8) : adr (193 + 6 * i + 0) = (166, i) := by
  unfold adr
  rw [if_neg (by omega), if_neg (by omega), if_neg (by omega), if_pos (by omega), show (193 + 6 * i + 0 - 193) % 6 = 0 by omega, show (193 + 6 * i + 0 - 193) / 6 = i by omega]
  rfl
theorem adr_167 {i : Nat} (hi : i < 8) : adr (193 + 6 * i + 1) = (167, i) := by
  unfold adr
  rw [if_neg (by omega), if_neg (by omega), if_neg (by omega), if_pos (by omega), show (193 + 6 * i + 1 - 193) % 6 = 1 by omega, show (193 + 6 * i + 1 - 193) / 6 = i by omega]
  rfl
theorem adr_179 {i : Nat} (hi : i < 8) : adr (193 + 6 * i + 2) = (179, i) := by
  unfold adr
  rw [if_neg (by omega), if_neg (by omega), if_neg (by omega), if_pos (by omega), show (193 + 6 * i + 2 - 193) % 6 = 2 by omega, show (193 + 6 * i + 2 - 193) / 6 = i by omega]
  rfl
theorem adr_184 {i : Nat} (hi : i < 8) : adr (193 + 6 * i + 3) = (184, i) := by
  unfold adr
  rw [if_neg (by omega), if_neg (by omega), if_neg (by omega), if_pos (by omega), show (193 + 6 * i + 3 - 193) % 6 = 3 by omega, show (193 + 6 * i + 3 - 193) / 6 = i by omega]
  rfl
theorem adr_195 {i : Nat} (hi : i < 8) : adr (193 + 6 * i + 4) = (195, i) := by
  unfold adr
  rw [if_neg (by omega), if_neg (by omega), if_neg (by omega), if_pos (by omega), show (193 + 6 * i + 4 - 193) % 6 = 4 by omega, show (193 + 6 * i + 4 - 193) / 6 = i by omega]
  rfl
theorem adr_196 {i : Nat} (hi : i < 8) : adr (193 + 6 * i + 5) = (196, i) := by
  unfold adr
  rw [if_neg (by omega), if_neg (by omega), if_neg (by omega), if_pos (by omega), show (193 + 6 * i + 5 - 193) % 6 = 5 by omega, show (193 + 6 * i + 5 - 193) / 6 = i by omega]
  rfl
theorem adr_187 {i : Nat} (hi : i < 6) : adr (241 + 1 * i + 0) = (187, i) := by
  unfold adr
  rw [if_neg (by omega), if_neg (by omega), if_neg (by omega), if_neg (by omega), if_pos (by omega), show (241 + 1 * i + 0 - 241) % 1 = 0 by omega, show (241 + 1 * i + 0 - 241) / 1 = i by omega]
  rfl
theorem adr_193 {i : Nat} (hi : i < 7) : adr (247 + 2 * i + 0) = (193, i) := by
  unfold adr
  rw [if_neg (by omega), if_neg (by omega), if_neg (by omega), if_neg (by omega), if_neg (by omega), if_pos (by omega), show (247 + 2 * i + 0 - 247) % 2 = 0 by omega, show (247 + 2 * i + 0 - 247) / 2 = i by omega]
  rfl
theorem adr_194 {i : Nat} (hi : i < 7) : adr (247 + 2 * i + 1) = (194, i) := by
  unfold adr
  rw [if_neg (by omega), if_neg (by omega), if_neg (by omega), if_neg (by omega), if_neg (by omega), if_pos (by omega), show (247 + 2 * i + 1 - 247) % 2 = 1 by omega, show (247 + 2 * i + 1 - 247) / 2 = i by omega]
  rfl
theorem adr_188 {i : Nat} (hi : i < 9) : adr (261 + 1 * i + 0) = (188, i) := by
  unfold adr
  rw [if_neg (by omega), if_neg (by omega), if_neg (by omega), if_neg (by omega), if_neg (by omega), if_neg (by omega), if_pos (by omega), show (261 + 1 * i + 0 - 261) % 1 = 0 by omega, show (261 + 1 * i + 0 - 261) / 1 = i by omega]
  rfl
theorem adr_197 {i : Nat} (hi : i < 20) : adr (270 + 1 * i + 0) = (197, i) := by
  unfold adr
  rw [if_neg (by omega), if_neg (by omega), if_neg (by omega), if_neg (by omega), if_neg (by omega), if_neg (by omega), if_neg (by omega), if_pos (by omega), show (270 + 1 * i + 0 - 270) % 1 = 0 by omega, show (270 + 1 * i + 0 - 270) / 1 = i by omega]
  rfl
theorem adr_190 {i : Nat} (hi : i < 64) : adr (290 + 3 * i + 0) = (190, i) := by
  unfold adr
  rw [if_neg (by omega), if_neg (by omega), if_neg (by omega), if_neg (by omega), if_neg (by omega), if_neg (by omega), if_neg (by omega), if_neg (by omega), if_pos (by omega), show (290 + 3 * i + 0 - 290) % 3 = 0 by omega, show (290 + 3 * i + 0 - 290) / 3 = i by omega]
  rfl
theorem adr_181 {i : Nat} (hi : i < 64) : adr (290 + 3 * i + 1) = (181, i) := by
  unfold adr
  rw [if_neg (by omega), if_neg (by omega), if_neg (by omega), if_neg (by omega), if_neg (by omega), if_neg (by omega), if_neg (by omega), if_neg (by omega), if_pos (by omega), show (290 + 3 * i + 1 - 290) % 3 = 1 by omega, show (290 + 3 * i + 1 - 290) / 3 = i by omega]
  rfl
theorem adr_180 {i : Nat} (hi : i < 64) : adr (290 + 3 * i + 2) = (180, i) := by
  unfold adr
  rw [if_neg (by omega), if_neg (by omega), if_neg (by omega), if_neg (by omega), if_neg (by omega), if_neg (by omega), if_neg (by omega), if_neg (by omega), if_pos (by omega), show (290 + 3 * i + 2 - 290) % 3 = 2 by omega, show (290 + 3 * i + 2 - 290) / 3 = i by omega]
  rfl
theorem adr_168 {i : Nat} (hi : i < 600) : adr (482 + 1 * i + 0) = (168, i) := by
  unfold adr
  rw [if_neg (by omega), if_neg (by omega), if_neg (by omega), if_neg (by omega), if_neg (by omega), if_neg (by omega), if_neg (by omega), if_neg (by omega), if_neg (by omega), if_pos (by omega), show (482 + 1 * i + 0 - 482) % 1 = 0 by omega, show (482 + 1 * i + 0 - 482) / 1 = i by omega]
  rfl
theorem adr_172 {i : Nat} (hi : i < 16) : adr (1083 + 4 * i + 0) = (172, i) := by
  unfold adr
  rw [if_neg (by omega), if_neg (by omega), if_neg (by omega), if_neg (by omega), if_neg (by omega), if_neg (by omega), if_neg (by omega), if_neg (by omega), if_neg (by omega), if_neg (by omega), if_neg (by omega), if_pos (by omega), show (1083 + 4 * i + 0 - 1083) % 4 = 0 by omega, show (1083 + 4 * i + 0 - 1083) / 4 = i by omega]
  rfl
theorem adr_173 {i : Nat} (hi : i < 16) : adr (1083 + 4 * i + 1) = (173, i) := by
  unfold adr
  rw [if_neg (by omega), if_neg (by omega), if_neg (by omega), if_neg (by omega), if_neg (by omega), if_neg (by omega), if_neg (by omega), if_neg (by omega), if_neg (by omega), if_neg (by omega), if_neg (by omega), if_pos (by omega), show (1083 + 4 * i + 1 - 1083) % 4 = 1 by omega, show (1083 + 4 * i + 1 - 1083) / 4 = i by omega]
  rfl
theorem adr_174 {i : Nat} (hi : i < 16) : adr (1083 + 4 * i + 2) = (174, i) := by
  unfold adr
  rw [if_neg (by omega), if_neg (by omega), if_neg (by omega), if_neg (by omega), if_neg (by omega), if_neg (by omega), if_neg (by omega), if_neg (by omega), if_neg (by omega), if_neg (by omega), if_neg (by omega), if_pos (by omega), show (1083 + 4 * i + 2 - 1083) % 4 = 2 by omega, show (1083 + 4 * i + 2 - 1083) / 4 = i by omega]
  rfl
theorem adr_175 {i : Nat} (hi : i < 16) : adr (1083 + 4 * i + 3) = (175, i) := by
  unfold adr
  rw [if_neg (by omega), if_neg (by omega), if_neg (by omega), if_neg (by omega), if_neg (by omega), if_neg (by omega), if_neg (by omega), if_neg (by omega), if_neg (by omega), if_neg (by omega), if_neg (by omega), if_pos (by omega), show (1083 + 4 * i + 3 - 1083) % 4 = 3 by omega, show (1083 + 4 * i + 3 - 1083) / 4 = i by omega]
  rfl
theorem adr_176 {i : Nat} (hi : i < 400) : adr (1147 + 2 * i + 0) = (176, i) := by
  unfold adr
  rw [if_neg (by omega), if_neg (by omega), if_neg (by omega), if_neg (by omega), if_neg (by omega), if_neg (by omega), if_neg (by omega), if_neg (by omega), if_neg (by omega), if_neg (by omega), if_neg (by omega), if_neg (by omega), show (1147 + 2 * i + 0 - 1147) % 2 = 0 by omega, show (1147 + 2 * i + 0 - 1147) / 2 = i by omega]
  rfl
theorem adr_177 {i : Nat} (hi : i < 400) : adr (1147 + 2 * i + 1) = (177, i) := by
  unfold adr
  rw [if_neg (by omega), if_neg (by omega), if_neg (by omega), if_neg (by omega), if_neg (by omega), if_neg (by omega), if_neg (by omega), if_neg (by omega), if_neg (by omega), if_neg (by omega), if_neg (by omega), if_neg (by omega), show (1147 + 2 * i + 1 - 1147) % 2 = 1 by omega, show (1147 + 2 * i + 1 - 1147) / 2 = i by omega]
  rfl
theorem adr_m : ∀ q, q < 10 → adr (135 + q) = (159, [6, 7, 37, 39, 41, 51, 53, 59, 62, 65].getD q 0) := by decide +kernel
theorem adr_171 : adr 1082 = (171, 0) := by decide +kernel
/-- and back -/
def inv_a (p : Nat × Nat) : Nat :=
  if p.1 = 160 then p.2 else if p.1 = 159 then (if p.2 = 6 then 135 else if p.2 = 7 then 136 else if p.2 = 37 then 137 else if p.2 = 39 then 138 else if p.2 = 41 then 139 else if p.2 = 51 then 140 else if p.2 = 53 then 141 else if p.2 = 59 then 142 else if p.2 = 62 then 143 else 144) else
  if p.1 = 163 then 145 + 3 * p.2 else
  if p.1 = 164 then 146 + 3 * p.2 else
  if p.1 = 165 then 147 + 3 * p.2 else
  if p.1 = 166 then 193 + 6 * p.2 else
  if p.1 = 167 then 194 + 6 * p.2 else
  if p.1 = 179 then 195 + 6 * p.2 else
  if p.1 = 184 then 196 + 6 * p.2 else
  if p.1 = 195 then 197 + 6 * p.2 else
  if p.1 = 196 then 198 + 6 * p.2 else
  if p.1 = 187 then 241 + 1 * p.2 else
  if p.1 = 193 then 247 + 2 * p.2 else
  if p.1 = 194 then 248 + 2 * p.2 else
  if p.1 = 188 then 261 + 1 * p.2 else
  if p.1 = 197 then 270 + 1 * p.2 else
  if p.1 = 190 then 290 + 3 * p.2 else
  if p.1 = 181 then 291 + 3 * p.2 else
  if p.1 = 180 then 292 + 3 * p.2 else
  if p.1 = 168 then 482 + 1 * p.2 else
  if p.1 = 171 then 1082 else
  if p.1 = 172 then 1083 + 4 * p.2 else
  if p.1 = 173 then 1084 + 4 * p.2 else
  if p.1 = 174 then 1085 + 4 * p.2 else
  if p.1 = 175 then 1086 + 4 * p.2 else
  if p.1 = 176 then 1147 + 2 * p.2 else
  1148 + 2 * p.2
theorem inv_adr : ∀ t, t < 1947 → inv_a (adr t) = t := by decide +kernel
theorem adr_inj {s t : Nat} (hs : s < 1947) (ht : t < 1947) (h : adr s = adr t) : s = t := by
  rw [← inv_adr s hs, ← inv_adr t ht, h]
theorem adr_no : ∀ t, t < 1947 → ¬ (adr t).1 = 199 ∧ ¬ (adr t).1 = 169 ∧ ¬ (adr t).1 = 170 ∧ ((adr t).1 = 159 → ¬ (adr t).2 = 0 ∧ ¬ (adr t).2 = 3 ∧ ¬ (adr t).2 = 5 ∧ ¬ (adr t).2 = 15 ∧ ¬ (adr t).2 = 35 ∧ ¬ (adr t).2 = 36 ∧ ¬ (adr t).2 = 68 ∧ ¬ (adr t).2 = 69 ∧ ¬ (adr t).2 = 70) := by decide +kernel
/-- the walk_v over the image: t places_v are through_v; md: 1 as it is taken_v, 0 as it is gone back to -/
def KS (md : Int32) (Y Yt : Mm) (t : Nat) : Prop :=
  Yt 159 70 = nI t ∧ Yt 159 68 = md ∧ ((¬ md = 0 ∧ (∀ n, n < t → Yt 199 n = Y (adr n).1 (adr n).2) ∧ ∀ a j, a ≠ 199 → ¬ (a = 159 ∧ j = 70) → Yt a j = Y a j) ∨
    (md = 0 ∧ (∀ n, n < t → Yt (adr n).1 (adr n).2 = Y 199 n) ∧ ∀ a j, (∀ n, n < t → ¬ adr n = (a, j)) → ¬ (a = 159 ∧ j = 70) → Yt a j = Y a j))
set_option maxHeartbeats 1000000 in
theorem kp_st {md : Int32} {Y Yt Z : Mm} {t a j : Nat} {K : Int32 → Mm → Prop} (ht : t < 1947) (had : adr t = (a, j)) (h : KS md Y Yt t) (hK : ∀ r Y1, KS md Y (m_up Y1 a j r) (t + 1) → K r (jn Z Y1)) : T_X12_keeps (jn Z Yt a j) (jn Z Yt) K := by
  obtain ⟨h1, h2, h3⟩ := h
  obtain ⟨n1, -, -, n2⟩ := adr_no t ht
  rw [had] at n1 n2
  have n1 : ¬ a = 199 := n1
  have n2 : a = 159 → ¬ j = 0 ∧ ¬ j = 3 ∧ ¬ j = 5 ∧ ¬ j = 15 ∧ ¬ j = 35 ∧ ¬ j = 36 ∧ ¬ j = 68 ∧ ¬ j = 69 ∧ ¬ j = 70 := n2
  have n70 : ¬ (a = 159 ∧ j = 70) := fun z => (n2 z.1).2.2.2.2.2.2.2.2 z.2
  have n68 : ¬ (a = 159 ∧ j = 68) := fun z => (n2 z.1).2.2.2.2.2.2.1 z.2
  have ha : 159 ≤ a := by
    have : ∀ t, t < 1947 → 159 ≤ (adr t).1 := by decide +kernel
    have := this t ht
    rw [had] at this
    exact this
  rw [T_X12_keeps, jh 70 (by omega), h1, nI_1, jn_uph (by omega)]
  intro M1 e1
  have w70 : M1 159 70 = nI (t + 1) := by rw [e1, jh _ (by omega), mu, if_pos ⟨rfl, rfl⟩]
  have w68 : M1 159 68 = md := by rw [e1, jh _ (by omega), mu, if_neg (by omega)]; exact h2
  rw [w70, w68, nI_pred, nI_clamp (n := t) (by omega)]
  rcases h3 with ⟨g1, g2, g3⟩ | ⟨g1, g2, g3⟩
  · refine ⟨fun z => absurd z g1, fun _ => ⟨vp_in_nI (by omega) (by decide), fun M3 e3 => ?_⟩⟩
    rw [e3, e1, jh _ ha, jn_uph (by omega)]
    refine hK _ _ ⟨?_, ?_, Or.inl ⟨g1, fun n hn => ?_, fun a' j' z1 z2 => ?_⟩⟩
    · rw [mu, if_neg (fun w => n70 ⟨w.1.symm, w.2.symm⟩), mu, if_neg (by omega), mu, if_pos ⟨rfl, rfl⟩]
    · rw [mu, if_neg (fun w => n68 ⟨w.1.symm, w.2.symm⟩), mu, if_neg (by omega), mu, if_neg (by omega)]; exact h2
    · rw [mu, if_neg (fun w => n1 w.1.symm), mu]
      by_cases c : n = t
      · rw [if_pos ⟨rfl, c⟩, c, had]
        exact g3 a j n1 n70
      · rw [if_neg (fun w => c w.2), mu, if_neg (by omega)]
        exact g2 n (by omega)
    · rw [mu]
      by_cases c : a' = a ∧ j' = j
      · rw [if_pos c, c.1, c.2]; exact g3 a j n1 n70
      · rw [if_neg c, mu, if_neg (fun w => z1 w.1), mu, if_neg z2]; exact g3 a' j' z1 z2
  · refine ⟨fun _ => ⟨vp_in_nI (by omega) (by decide), ?_⟩, fun z => absurd g1 z⟩
    have w199 : M1 199 t = Y 199 t := by
      rw [e1, jh _ (by omega), mu, if_neg (by omega)]
      refine g3 199 t (fun n hn z => ?_) (by omega)
      have := (adr_no n (by omega)).1
      rw [z] at this
      exact this rfl
    rw [w199, e1]
    refine hK _ _ ⟨?_, ?_, Or.inr ⟨g1, fun n hn => ?_, fun a' j' z1 z2 => ?_⟩⟩
    · rw [mu, if_neg (fun w => n70 ⟨w.1.symm, w.2.symm⟩), mu, if_pos ⟨rfl, rfl⟩]
    · rw [mu, if_neg (fun w => n68 ⟨w.1.symm, w.2.symm⟩), mu, if_neg (by omega)]; exact h2
    · by_cases c : n = t
      · rw [c, had, mu, if_pos ⟨rfl, rfl⟩]
      · have ne : ¬ ((adr n).1 = a ∧ (adr n).2 = j) := fun w => c (adr_inj (by omega) ht (by rw [had]; exact Prod.ext w.1 w.2))
        have n3 := (adr_no n (by omega)).2.2.2
        rw [mu, if_neg ne, mu, if_neg (fun w => (n3 w.1).2.2.2.2.2.2.2.2 w.2)]
        exact g2 n (by omega)
    · rw [mu, if_neg (fun w => z1 t (by omega) (by rw [had]; exact Prod.ext w.1.symm w.2.symm)), mu, if_neg z2]
      exact g3 a' j' (fun n hn => z1 n (by omega)) z2
theorem kl_i35 {md : Int32} {Y Z : Mm} {x : Int32} {K : Int32 → Mm → Prop} (hK : ∀ Y1, KS md Y Y1 135 → (T_X12_keepsMany (jn Z Y1) (fun M15 => T_X12_keepsTold M15 (fun M17 => T_X12_image_74 5000 x 0 M17 K)))) : ∀ m i f Yt, i + m = 135 → m < f → KS md Y Yt (0 + 1 * i) → T_X12_image_35 f x (nI i) (jn Z Yt) K := by
  intro m
  induction m with
  | zero =>
    intro i f Yt him hf h
    obtain ⟨f, rfl⟩ : ∃ g, f = g + 1 := ⟨f - 1, by omega⟩
    have e : i = 135 := by omega
    subst e
    rw [T_X12_image_35]
    exact pk_le 135 135 (fun _ => hK Yt h) (fun z => absurd z (by omega))
  | succ m ih =>
    intro i f Yt him hf h
    obtain ⟨f, rfl⟩ : ∃ g, f = g + 1 := ⟨f - 1, by omega⟩
    rw [T_X12_image_35, nI_clamp (n := i) (by omega)]
    refine pk_le 135 i (fun z => absurd z (by omega)) (fun _ => ⟨vp_in_nI (by omega) (by decide), kp_st (t := 0 + 1 * i + 0) (by omega) (adr_160 (by omega)) h (fun r1 Y1 h1 => ⟨vp_in_nI (by omega) (by decide), fun M1 e1 => ?_⟩)⟩)
    intro y ey
    rw [e1, ey, nI_1, jn_uph (by omega)]
    refine ih (i + 1) f _ (by omega) (by omega) ?_
    rw [show 0 + 1 * (i + 1) = 0 + 1 * i + 0 + 1 by omega]
    exact h1
theorem kl_t2 {md : Int32} {Y Z : Mm} {K : Mm → Prop} (hK : ∀ Y1, KS md Y Y1 193 → T_X12_keepsTold_64 5000 0 (jn Z Y1) K) : ∀ m i f Yt, i + m = 16 → m < f → KS md Y Yt (145 + 3 * i) → T_X12_keepsTold_2 f (nI i) (jn Z Yt) K := by
  intro m
  induction m with
  | zero =>
    intro i f Yt him hf h
    obtain ⟨f, rfl⟩ : ∃ g, f = g + 1 := ⟨f - 1, by omega⟩
    have e : i = 16 := by omega
    subst e
    rw [T_X12_keepsTold_2]
    exact pk_le 16 16 (fun _ => hK Yt h) (fun z => absurd z (by omega))
  | succ m ih =>
    intro i f Yt him hf h
    obtain ⟨f, rfl⟩ : ∃ g, f = g + 1 := ⟨f - 1, by omega⟩
    rw [T_X12_keepsTold_2, nI_clamp (n := i) (by omega)]
    refine pk_le 16 i (fun z => absurd z (by omega)) (fun _ => ⟨vp_in_nI (by omega) (by decide), kp_st (t := 145 + 3 * i + 0) (by omega) (adr_163 (by omega)) h (fun r1 Y1 h1 => ⟨vp_in_nI (by omega) (by decide), fun M1 e1 => ?_⟩)⟩)
    rw [e1, jn_uph (by omega)]
    refine ⟨vp_in_nI (by omega) (by decide), kp_st (t := 145 + 3 * i + 1) (by omega) (adr_164 (by omega)) h1 (fun r2 Y2 h2 => ⟨vp_in_nI (by omega) (by decide), fun M2 e2 => ?_⟩)⟩
    rw [e2, jn_uph (by omega)]
    refine ⟨vp_in_nI (by omega) (by decide), kp_st (t := 145 + 3 * i + 2) (by omega) (adr_165 (by omega)) h2 (fun r3 Y3 h3 => ⟨vp_in_nI (by omega) (by decide), fun M3 e3 => ?_⟩)⟩
    intro y ey
    rw [e3, ey, nI_1, jn_uph (by omega)]
    refine ih (i + 1) f _ (by omega) (by omega) ?_
    rw [show 145 + 3 * (i + 1) = 145 + 3 * i + 2 + 1 by omega]
    exact h3
theorem kl_t64 {md : Int32} {Y Z : Mm} {K : Mm → Prop} (hK : ∀ Y1, KS md Y Y1 241 → T_X12_keepsTold_174 5000 0 (jn Z Y1) K) : ∀ m i f Yt, i + m = 8 → m < f → KS md Y Yt (193 + 6 * i) → T_X12_keepsTold_64 f (nI i) (jn Z Yt) K := by
  intro m
  induction m with
  | zero =>
    intro i f Yt him hf h
    obtain ⟨f, rfl⟩ : ∃ g, f = g + 1 := ⟨f - 1, by omega⟩
    have e : i = 8 := by omega
    subst e
    rw [T_X12_keepsTold_64]
    exact pk_le 8 8 (fun _ => hK Yt h) (fun z => absurd z (by omega))
  | succ m ih =>
    intro i f Yt him hf h
    obtain ⟨f, rfl⟩ : ∃ g, f = g + 1 := ⟨f - 1, by omega⟩
    rw [T_X12_keepsTold_64, nI_clamp (n := i) (by omega)]
    refine pk_le 8 i (fun z => absurd z (by omega)) (fun _ => ⟨vp_in_nI (by omega) (by decide), kp_st (t := 193 + 6 * i + 0) (by omega) (adr_166 (by omega)) h (fun r1 Y1 h1 => ⟨vp_in_nI (by omega) (by decide), fun M1 e1 => ?_⟩)⟩)
    rw [e1, jn_uph (by omega)]
    refine ⟨vp_in_nI (by omega) (by decide), kp_st (t := 193 + 6 * i + 1) (by omega) (adr_167 (by omega)) h1 (fun r2 Y2 h2 => ⟨vp_in_nI (by omega) (by decide), fun M2 e2 => ?_⟩)⟩
    rw [e2, jn_uph (by omega)]
    refine ⟨vp_in_nI (by omega) (by decide), kp_st (t := 193 + 6 * i + 2) (by omega) (adr_179 (by omega)) h2 (fun r3 Y3 h3 => ⟨vp_in_nI (by omega) (by decide), fun M3 e3 => ?_⟩)⟩
    rw [e3, jn_uph (by omega)]
    refine ⟨vp_in_nI (by omega) (by decide), kp_st (t := 193 + 6 * i + 3) (by omega) (adr_184 (by omega)) h3 (fun r4 Y4 h4 => ⟨vp_in_nI (by omega) (by decide), fun M4 e4 => ?_⟩)⟩
    rw [e4, jn_uph (by omega)]
    refine ⟨vp_in_nI (by omega) (by decide), kp_st (t := 193 + 6 * i + 4) (by omega) (adr_195 (by omega)) h4 (fun r5 Y5 h5 => ⟨vp_in_nI (by omega) (by decide), fun M5 e5 => ?_⟩)⟩
    rw [e5, jn_uph (by omega)]
    refine ⟨vp_in_nI (by omega) (by decide), kp_st (t := 193 + 6 * i + 5) (by omega) (adr_196 (by omega)) h5 (fun r6 Y6 h6 => ⟨vp_in_nI (by omega) (by decide), fun M6 e6 => ?_⟩)⟩
    intro y ey
    rw [e6, ey, nI_1, jn_uph (by omega)]
    refine ih (i + 1) f _ (by omega) (by omega) ?_
    rw [show 193 + 6 * (i + 1) = 193 + 6 * i + 5 + 1 by omega]
    exact h6
theorem kl_t174 {md : Int32} {Y Z : Mm} {K : Mm → Prop} (hK : ∀ Y1, KS md Y Y1 247 → T_X12_keepsTold_204 5000 0 (jn Z Y1) K) : ∀ m i f Yt, i + m = 6 → m < f → KS md Y Yt (241 + 1 * i) → T_X12_keepsTold_174 f (nI i) (jn Z Yt) K := by
  intro m
  induction m with
  | zero =>
    intro i f Yt him hf h
    obtain ⟨f, rfl⟩ : ∃ g, f = g + 1 := ⟨f - 1, by omega⟩
    have e : i = 6 := by omega
    subst e
    rw [T_X12_keepsTold_174]
    exact pk_le 6 6 (fun _ => hK Yt h) (fun z => absurd z (by omega))
  | succ m ih =>
    intro i f Yt him hf h
    obtain ⟨f, rfl⟩ : ∃ g, f = g + 1 := ⟨f - 1, by omega⟩
    rw [T_X12_keepsTold_174, nI_clamp (n := i) (by omega)]
    refine pk_le 6 i (fun z => absurd z (by omega)) (fun _ => ⟨vp_in_nI (by omega) (by decide), kp_st (t := 241 + 1 * i + 0) (by omega) (adr_187 (by omega)) h (fun r1 Y1 h1 => ⟨vp_in_nI (by omega) (by decide), fun M1 e1 => ?_⟩)⟩)
    intro y ey
    rw [e1, ey, nI_1, jn_uph (by omega)]
    refine ih (i + 1) f _ (by omega) (by omega) ?_
    rw [show 241 + 1 * (i + 1) = 241 + 1 * i + 0 + 1 by omega]
    exact h1
theorem kl_t204 {md : Int32} {Y Z : Mm} {K : Mm → Prop} (hK : ∀ Y1, KS md Y Y1 261 → T_X12_keepsTold_250 5000 0 (jn Z Y1) K) : ∀ m i f Yt, i + m = 7 → m < f → KS md Y Yt (247 + 2 * i) → T_X12_keepsTold_204 f (nI i) (jn Z Yt) K := by
  intro m
  induction m with
  | zero =>
    intro i f Yt him hf h
    obtain ⟨f, rfl⟩ : ∃ g, f = g + 1 := ⟨f - 1, by omega⟩
    have e : i = 7 := by omega
    subst e
    rw [T_X12_keepsTold_204]
    exact pk_le 7 7 (fun _ => hK Yt h) (fun z => absurd z (by omega))
  | succ m ih =>
    intro i f Yt him hf h
    obtain ⟨f, rfl⟩ : ∃ g, f = g + 1 := ⟨f - 1, by omega⟩
    rw [T_X12_keepsTold_204, nI_clamp (n := i) (by omega)]
    refine pk_le 7 i (fun z => absurd z (by omega)) (fun _ => ⟨vp_in_nI (by omega) (by decide), kp_st (t := 247 + 2 * i + 0) (by omega) (adr_193 (by omega)) h (fun r1 Y1 h1 => ⟨vp_in_nI (by omega) (by decide), fun M1 e1 => ?_⟩)⟩)
    rw [e1, jn_uph (by omega)]
    refine ⟨vp_in_nI (by omega) (by decide), kp_st (t := 247 + 2 * i + 1) (by omega) (adr_194 (by omega)) h1 (fun r2 Y2 h2 => ⟨vp_in_nI (by omega) (by decide), fun M2 e2 => ?_⟩)⟩
    intro y ey
    rw [e2, ey, nI_1, jn_uph (by omega)]
    refine ih (i + 1) f _ (by omega) (by omega) ?_
    rw [show 247 + 2 * (i + 1) = 247 + 2 * i + 1 + 1 by omega]
    exact h2
theorem kl_t250 {md : Int32} {Y Z : Mm} {K : Mm → Prop} (hK : ∀ Y1, KS md Y Y1 270 → T_X12_keepsTold_280 5000 0 (jn Z Y1) K) : ∀ m i f Yt, i + m = 9 → m < f → KS md Y Yt (261 + 1 * i) → T_X12_keepsTold_250 f (nI i) (jn Z Yt) K := by
  intro m
  induction m with
  | zero =>
    intro i f Yt him hf h
    obtain ⟨f, rfl⟩ : ∃ g, f = g + 1 := ⟨f - 1, by omega⟩
    have e : i = 9 := by omega
    subst e
    rw [T_X12_keepsTold_250]
    exact pk_le 9 9 (fun _ => hK Yt h) (fun z => absurd z (by omega))
  | succ m ih =>
    intro i f Yt him hf h
    obtain ⟨f, rfl⟩ : ∃ g, f = g + 1 := ⟨f - 1, by omega⟩
    rw [T_X12_keepsTold_250, nI_clamp (n := i) (by omega)]
    refine pk_le 9 i (fun z => absurd z (by omega)) (fun _ => ⟨vp_in_nI (by omega) (by decide), kp_st (t := 261 + 1 * i + 0) (by omega) (adr_188 (by omega)) h (fun r1 Y1 h1 => ⟨vp_in_nI (by omega) (by decide), fun M1 e1 => ?_⟩)⟩)
    intro y ey
    rw [e1, ey, nI_1, jn_uph (by omega)]
    refine ih (i + 1) f _ (by omega) (by omega) ?_
    rw [show 261 + 1 * (i + 1) = 261 + 1 * i + 0 + 1 by omega]
    exact h1
theorem kl_t280 {md : Int32} {Y Z : Mm} {K : Mm → Prop} (hK : ∀ Y1, KS md Y Y1 290 → T_X12_keepsTold_310 5000 0 (jn Z Y1) K) : ∀ m i f Yt, i + m = 20 → m < f → KS md Y Yt (270 + 1 * i) → T_X12_keepsTold_280 f (nI i) (jn Z Yt) K := by
  intro m
  induction m with
  | zero =>
    intro i f Yt him hf h
    obtain ⟨f, rfl⟩ : ∃ g, f = g + 1 := ⟨f - 1, by omega⟩
    have e : i = 20 := by omega
    subst e
    rw [T_X12_keepsTold_280]
    exact pk_le 20 20 (fun _ => hK Yt h) (fun z => absurd z (by omega))
  | succ m ih =>
    intro i f Yt him hf h
    obtain ⟨f, rfl⟩ : ∃ g, f = g + 1 := ⟨f - 1, by omega⟩
    rw [T_X12_keepsTold_280, nI_clamp (n := i) (by omega)]
    refine pk_le 20 i (fun z => absurd z (by omega)) (fun _ => ⟨vp_in_nI (by omega) (by decide), kp_st (t := 270 + 1 * i + 0) (by omega) (adr_197 (by omega)) h (fun r1 Y1 h1 => ⟨vp_in_nI (by omega) (by decide), fun M1 e1 => ?_⟩)⟩)
    intro y ey
    rw [e1, ey, nI_1, jn_uph (by omega)]
    refine ih (i + 1) f _ (by omega) (by omega) ?_
    rw [show 270 + 1 * (i + 1) = 270 + 1 * i + 0 + 1 by omega]
    exact h1
theorem kl_t310 {md : Int32} {Y Z : Mm} {K : Mm → Prop} (hK : ∀ Y1, KS md Y Y1 482 → K (jn Z Y1)) : ∀ m i f Yt, i + m = 64 → m < f → KS md Y Yt (290 + 3 * i) → T_X12_keepsTold_310 f (nI i) (jn Z Yt) K := by
  intro m
  induction m with
  | zero =>
    intro i f Yt him hf h
    obtain ⟨f, rfl⟩ : ∃ g, f = g + 1 := ⟨f - 1, by omega⟩
    have e : i = 64 := by omega
    subst e
    rw [T_X12_keepsTold_310]
    exact pk_le 64 64 (fun _ => hK Yt h) (fun z => absurd z (by omega))
  | succ m ih =>
    intro i f Yt him hf h
    obtain ⟨f, rfl⟩ : ∃ g, f = g + 1 := ⟨f - 1, by omega⟩
    rw [T_X12_keepsTold_310, nI_clamp (n := i) (by omega)]
    refine pk_le 64 i (fun z => absurd z (by omega)) (fun _ => ⟨vp_in_nI (by omega) (by decide), kp_st (t := 290 + 3 * i + 0) (by omega) (adr_190 (by omega)) h (fun r1 Y1 h1 => ⟨vp_in_nI (by omega) (by decide), fun M1 e1 => ?_⟩)⟩)
    rw [e1, jn_uph (by omega)]
    refine ⟨vp_in_nI (by omega) (by decide), kp_st (t := 290 + 3 * i + 1) (by omega) (adr_181 (by omega)) h1 (fun r2 Y2 h2 => ⟨vp_in_nI (by omega) (by decide), fun M2 e2 => ?_⟩)⟩
    rw [e2, jn_uph (by omega)]
    refine ⟨vp_in_nI (by omega) (by decide), kp_st (t := 290 + 3 * i + 2) (by omega) (adr_180 (by omega)) h2 (fun r3 Y3 h3 => ⟨vp_in_nI (by omega) (by decide), fun M3 e3 => ?_⟩)⟩
    intro y ey
    rw [e3, ey, nI_1, jn_uph (by omega)]
    refine ih (i + 1) f _ (by omega) (by omega) ?_
    rw [show 290 + 3 * (i + 1) = 290 + 3 * i + 2 + 1 by omega]
    exact h3
theorem kl_i74 {md : Int32} {Y Z : Mm} {x : Int32} {K : Int32 → Mm → Prop} (hK : ∀ Y1, KS md Y Y1 1082 → (T_X12_keepsLaw (jn Z Y1) (fun M3 => ((x = 0 → (∀ M5 : Mm, M5 = m_up M3 159 3 0 → K 1 M5)) ∧ (¬ x = 0 → K 1 M3))))) : ∀ m i f Yt, i + m = 600 → m < f → KS md Y Yt (482 + 1 * i) → T_X12_image_74 f x (nI i) (jn Z Yt) K := by
  intro m
  induction m with
  | zero =>
    intro i f Yt him hf h
    obtain ⟨f, rfl⟩ : ∃ g, f = g + 1 := ⟨f - 1, by omega⟩
    have e : i = 600 := by omega
    subst e
    rw [T_X12_image_74]
    exact pk_le 600 600 (fun _ => hK Yt h) (fun z => absurd z (by omega))
  | succ m ih =>
    intro i f Yt him hf h
    obtain ⟨f, rfl⟩ : ∃ g, f = g + 1 := ⟨f - 1, by omega⟩
    rw [T_X12_image_74, nI_clamp (n := i) (by omega)]
    refine pk_le 600 i (fun z => absurd z (by omega)) (fun _ => ⟨vp_in_nI (by omega) (by decide), kp_st (t := 482 + 1 * i + 0) (by omega) (adr_168 (by omega)) h (fun r1 Y1 h1 => ⟨vp_in_nI (by omega) (by decide), fun M1 e1 => ?_⟩)⟩)
    intro y ey
    rw [e1, ey, nI_1, jn_uph (by omega)]
    refine ih (i + 1) f _ (by omega) (by omega) ?_
    rw [show 482 + 1 * (i + 1) = 482 + 1 * i + 0 + 1 by omega]
    exact h1
theorem kl_l18 {md : Int32} {Y Z : Mm} {K : Mm → Prop} (hK : ∀ Y1, KS md Y Y1 1147 → T_X12_keepsLaw_96 5000 0 (jn Z Y1) K) : ∀ m i f Yt, i + m = 16 → m < f → KS md Y Yt (1083 + 4 * i) → T_X12_keepsLaw_18 f (nI i) (jn Z Yt) K := by
  intro m
  induction m with
  | zero =>
    intro i f Yt him hf h
    obtain ⟨f, rfl⟩ : ∃ g, f = g + 1 := ⟨f - 1, by omega⟩
    have e : i = 16 := by omega
    subst e
    rw [T_X12_keepsLaw_18]
    exact pk_le 16 16 (fun _ => hK Yt h) (fun z => absurd z (by omega))
  | succ m ih =>
    intro i f Yt him hf h
    obtain ⟨f, rfl⟩ : ∃ g, f = g + 1 := ⟨f - 1, by omega⟩
    rw [T_X12_keepsLaw_18, nI_clamp (n := i) (by omega)]
    refine pk_le 16 i (fun z => absurd z (by omega)) (fun _ => ⟨vp_in_nI (by omega) (by decide), kp_st (t := 1083 + 4 * i + 0) (by omega) (adr_172 (by omega)) h (fun r1 Y1 h1 => ⟨vp_in_nI (by omega) (by decide), fun M1 e1 => ?_⟩)⟩)
    rw [e1, jn_uph (by omega)]
    refine ⟨vp_in_nI (by omega) (by decide), kp_st (t := 1083 + 4 * i + 1) (by omega) (adr_173 (by omega)) h1 (fun r2 Y2 h2 => ⟨vp_in_nI (by omega) (by decide), fun M2 e2 => ?_⟩)⟩
    rw [e2, jn_uph (by omega)]
    refine ⟨vp_in_nI (by omega) (by decide), kp_st (t := 1083 + 4 * i + 2) (by omega) (adr_174 (by omega)) h2 (fun r3 Y3 h3 => ⟨vp_in_nI (by omega) (by decide), fun M3 e3 => ?_⟩)⟩
    rw [e3, jn_uph (by omega)]
    refine ⟨vp_in_nI (by omega) (by decide), kp_st (t := 1083 + 4 * i + 3) (by omega) (adr_175 (by omega)) h3 (fun r4 Y4 h4 => ⟨vp_in_nI (by omega) (by decide), fun M4 e4 => ?_⟩)⟩
    intro y ey
    rw [e4, ey, nI_1, jn_uph (by omega)]
    refine ih (i + 1) f _ (by omega) (by omega) ?_
    rw [show 1083 + 4 * (i + 1) = 1083 + 4 * i + 3 + 1 by omega]
    exact h4
theorem kl_l96 {md : Int32} {Y Z : Mm} {K : Mm → Prop} (hK : ∀ Y1, KS md Y Y1 1947 → K (jn Z Y1)) : ∀ m i f Yt, i + m = 400 → m < f → KS md Y Yt (1147 + 2 * i) → T_X12_keepsLaw_96 f (nI i) (jn Z Yt) K := by
  intro m
  induction m with
  | zero =>
    intro i f Yt him hf h
    obtain ⟨f, rfl⟩ : ∃ g, f = g + 1 := ⟨f - 1, by omega⟩
    have e : i = 400 := by omega
    subst e
    rw [T_X12_keepsLaw_96]
    exact pk_le 400 400 (fun _ => hK Yt h) (fun z => absurd z (by omega))
  | succ m ih =>
    intro i f Yt him hf h
    obtain ⟨f, rfl⟩ : ∃ g, f = g + 1 := ⟨f - 1, by omega⟩
    rw [T_X12_keepsLaw_96, nI_clamp (n := i) (by omega)]
    refine pk_le 400 i (fun z => absurd z (by omega)) (fun _ => ⟨vp_in_nI (by omega) (by decide), kp_st (t := 1147 + 2 * i + 0) (by omega) (adr_176 (by omega)) h (fun r1 Y1 h1 => ⟨vp_in_nI (by omega) (by decide), fun M1 e1 => ?_⟩)⟩)
    rw [e1, jn_uph (by omega)]
    refine ⟨vp_in_nI (by omega) (by decide), kp_st (t := 1147 + 2 * i + 1) (by omega) (adr_177 (by omega)) h1 (fun r2 Y2 h2 => ⟨vp_in_nI (by omega) (by decide), fun M2 e2 => ?_⟩)⟩
    intro y ey
    rw [e2, ey, nI_1, jn_uph (by omega)]
    refine ih (i + 1) f _ (by omega) (by omega) ?_
    rw [show 1147 + 2 * (i + 1) = 1147 + 2 * i + 1 + 1 by omega]
    exact h2
theorem kl_many {md : Int32} {Y Z Yt : Mm} {K : Mm → Prop} (h0 : KS md Y Yt 135) (hK : ∀ Y1, KS md Y Y1 145 → K (jn Z Y1)) : T_X12_keepsMany (jn Z Yt) K := by
  rw [T_X12_keepsMany]
  refine kp_st (t := 135) (by omega) (adr_m 0 (by omega)) h0 (fun r1 Y1 h1 M1 e1 => ?_)
  rw [e1, jn_uph (by omega)]
  refine kp_st (t := 136) (by omega) (adr_m 1 (by omega)) h1 (fun r2 Y2 h2 M2 e2 => ?_)
  rw [e2, jn_uph (by omega)]
  refine kp_st (t := 137) (by omega) (adr_m 2 (by omega)) h2 (fun r3 Y3 h3 M3 e3 => ?_)
  rw [e3, jn_uph (by omega)]
  refine kp_st (t := 138) (by omega) (adr_m 3 (by omega)) h3 (fun r4 Y4 h4 M4 e4 => ?_)
  rw [e4, jn_uph (by omega)]
  refine kp_st (t := 139) (by omega) (adr_m 4 (by omega)) h4 (fun r5 Y5 h5 M5 e5 => ?_)
  rw [e5, jn_uph (by omega)]
  refine kp_st (t := 140) (by omega) (adr_m 5 (by omega)) h5 (fun r6 Y6 h6 M6 e6 => ?_)
  rw [e6, jn_uph (by omega)]
  refine kp_st (t := 141) (by omega) (adr_m 6 (by omega)) h6 (fun r7 Y7 h7 M7 e7 => ?_)
  rw [e7, jn_uph (by omega)]
  refine kp_st (t := 142) (by omega) (adr_m 7 (by omega)) h7 (fun r8 Y8 h8 M8 e8 => ?_)
  rw [e8, jn_uph (by omega)]
  refine kp_st (t := 143) (by omega) (adr_m 8 (by omega)) h8 (fun r9 Y9 h9 M9 e9 => ?_)
  rw [e9, jn_uph (by omega)]
  refine kp_st (t := 144) (by omega) (adr_m 9 (by omega)) h9 (fun r10 Y10 h10 M10 e10 => ?_)
  rw [e10, jn_uph (by omega)]
  exact hK _ h10
theorem kl_told {md : Int32} {Y Z Yt : Mm} {K : Mm → Prop} (h : KS md Y Yt 145) (hK : ∀ Y1, KS md Y Y1 482 → K (jn Z Y1)) : T_X12_keepsTold (jn Z Yt) K := by
  rw [T_X12_keepsTold]
  exact kl_t2 (fun Y1 h1 => kl_t64 (fun Y2 h2 => kl_t174 (fun Y3 h3 => kl_t204 (fun Y4 h4 => kl_t250 (fun Y5 h5 => kl_t280 (fun Y6 h6 => kl_t310 hK 64 0 5000 Y6 (by omega) (by omega) h6) 20 0 5000 Y5 (by omega) (by omega) h5) 9 0 5000 Y4 (by omega) (by omega) h4) 7 0 5000 Y3 (by omega) (by omega) h3) 6 0 5000 Y2 (by omega) (by omega) h2) 8 0 5000 Y1 (by omega) (by omega) h1) 16 0 5000 Yt (by omega) (by omega) h
theorem kl_law {md : Int32} {Y Z Yt : Mm} {K : Mm → Prop} (h : KS md Y Yt 1082) (hK : ∀ Y1, KS md Y Y1 1947 → K (jn Z Y1)) : T_X12_keepsLaw (jn Z Yt) K := by
  rw [T_X12_keepsLaw]
  refine kp_st (t := 1082) (by omega) adr_171 h (fun r Y0 h0 M44 e44 => ?_)
  rw [e44, jn_uph (by omega)]
  exact kl_l18 (fun Y1 h1 => kl_l96 hK 400 0 5000 Y1 (by omega) (by omega) h1) 16 0 5000 _ (by omega) (by omega) h0
theorem kl_all {md x : Int32} {Y Z Yt : Mm} {K : Int32 → Mm → Prop} (h : KS md Y Yt 0) (hK : ∀ Y1, KS md Y Y1 1947 → ((x = 0 → K 1 (jn Z (m_up Y1 159 3 0))) ∧ (¬ x = 0 → K 1 (jn Z Y1)))) : T_X12_image_35 5000 x 0 (jn Z Yt) K := by
  refine kl_i35 (fun Y1 h1 => kl_many h1 (fun Y2 h2 => kl_told h2 (fun Y3 h3 => kl_i74 (fun Y4 h4 => kl_law h4 (fun Y5 h5 => ⟨fun z M5 e5 => ?_, fun z => (hK Y5 h5).2 z⟩)) 600 0 5000 Y3 (by omega) (by omega) h3))) 135 0 5000 Yt (by omega) (by omega) h
  rw [e5, jn_uph (by omega)]
  exact (hK Y5 h5).1 z
