/-! TEXT: signs -/
def isSn (c : Nat) : Prop := c = 59 ∨ c = 43 ∨ c = 45 ∨ c = 42 ∨ c = 47 ∨ c = 40 ∨ c = 41 ∨ c = 60 ∨ c = 61 ∨ c = 62
theorem sg_lp {b : Int32} {M : Mm} {K : Int32 → Mm → Prop} (k1 : ∀ t, t < 10 → (sb_.getD 1 []).getD t 0 = b → K (nI t) M) (k2 : (∀ t, t < 10 → ¬ (sb_.getD 1 []).getD t 0 = b) → K (-1) M) : ∀ m j f, j + m = 10 → m < f → (∀ t, t < j → ¬ (sb_.getD 1 []).getD t 0 = b) → T_J1_indexOfChar_4cfef_7 1 f (nI 10) b (nI j) M K := by
  intro m
  induction m with
  | zero =>
    intro j f hj hf h
    obtain ⟨f, rfl⟩ : ∃ g, f = g + 1 := ⟨f - 1, by omega⟩
    have e : j = 10 := by omega
    subst e
    rw [T_J1_indexOfChar_4cfef_7]
    exact pk_le 10 10 (fun _ => k2 h) (fun z => absurd z (by omega))
  | succ m ih =>
    intro j f hj hf h
    obtain ⟨f, rfl⟩ : ∃ g, f = g + 1 := ⟨f - 1, by omega⟩
    have v : vp_in (nI j) (sl_.getD 1 0) := vp_in_nI (N := 10) (by omega) (by decide)
    rw [T_J1_indexOfChar_4cfef_7, nI_clamp (n := j) (by omega)]
    refine pk_le 10 j (fun z => absurd z (by omega)) (fun _ => ⟨v, fun z => k1 j (by omega) z, fun z y4 g4 => ?_⟩)
    rw [g4, nI_1]
    refine ih (j + 1) f (by omega) (by omega) (fun t ht => ?_)
    by_cases c : t = j
    · rw [c]; exact z
    · exact h t (by omega)
theorem sg_v : ∀ c, c < 256 → (((nI c).toUInt32 % 65536).toInt32 = nI c) ∧ ((∃ t, t < 10 ∧ (sb_.getD 1 []).getD t 0 = (nI c).toInt8.toInt32) ↔ (c = 59 ∨ c = 43 ∨ c = 45 ∨ c = 42 ∨ c = 47 ∨ c = 40 ∨ c = 41 ∨ c = 60 ∨ c = 61 ∨ c = 62)) := by decide +kernel
theorem sg_ok {c : Nat} (hc : c ≤ 255) {M : Mm} {K : Int32 → Mm → Prop} (k : ∀ r : Int32, (r < 0 ↔ ¬ isSn c) → K r M) : T_J0_indexOf_0f7a4 1 (((nI c).toUInt32 % 65536).toInt32) M K := by
  obtain ⟨e1, e2⟩ := sg_v c (by omega)
  have ey : (nI (sl_.getD 1 0)) >>> ((0 : Int32) &&& 31) = nI 10 := by decide +kernel
  have c1 : ¬ nI c < 0 := nI_pos (by omega)
  have c2 : ¬ (255 : Int32) < nI c := nI_nlt (b := 255) (a := 255) (by omega) (by decide) |> fun _ => (fun z => absurd ((nI_ltI (a := 255) (by decide) (by omega)).mp z) (by omega))
  rw [T_J0_indexOf_0f7a4, T_J0_indexOf_7cf53, T_J0_isLatin1_aae02, e1]
  refine ⟨fun z => absurd z (by decide), fun _ => ⟨fun _ => ⟨fun z => absurd z (by decide), fun _ => ?_⟩, fun z => absurd rfl z⟩⟩
  rw [T_J0_length_8abf5, T_J0_coder_7d493]
  refine ⟨fun z => absurd z (by decide), fun _ => ⟨rfl, ?_⟩⟩
  rw [ey, T_J1_indexOf_4cfef, T_J1_canEncode_9a6ad]
  refine ⟨fun z => absurd z c1, fun _ => ⟨fun z => absurd z c2, fun _ => ⟨fun z => absurd z (by decide), fun _ y5 g5 y6 g6 => ?_⟩⟩⟩
  have e5 : y5 = nI 0 := by rw [g5]; decide
  have e6 : y6 = nI 10 := by rw [g6]; decide +kernel
  rw [e5, e6]
  refine ⟨fun _ => ?_, fun z => absurd (by decide) z⟩
  rw [T_J1_indexOfChar_4cfef]
  intro y g
  rw [g]
  refine sg_lp (fun t ht z => k _ ⟨fun w => absurd w (nI_pos (by omega)), fun w => absurd (e2.mp ⟨t, ht, z⟩) w⟩) (fun z => k _ ⟨fun _ w => ?_, fun _ => by decide⟩) 10 0 5000 (by omega) (by omega) (fun t ht => absurd ht (by omega))
  obtain ⟨t, ht, z2⟩ := e2.mpr w
  exact z t ht z2
