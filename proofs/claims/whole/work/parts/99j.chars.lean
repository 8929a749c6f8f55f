/-! TEXT: letters_v, digits -/
def isLn (c : Nat) : Prop := (97 ≤ c ∧ c ≤ 122) ∨ (65 ≤ c ∧ c ≤ 90)
def isDn (c : Nat) : Prop := 48 ≤ c ∧ c ≤ 57
theorem cl_y {c : Nat} (hc : c ≤ 255) (h : isLn c) {M : Mm} {K : Int32 → Mm → Prop} (k : K 1 M) : T_X7_isLetter (nI c) M K := by
  have a1 : nI c < (97 : Int32) ↔ c < 97 := nI_ltI (b := 97) (by omega) (by decide)
  have a2 : nI c ≤ (122 : Int32) ↔ c ≤ 122 := nI_leI (b := 122) (by omega) (by decide)
  have a3 : nI c < (65 : Int32) ↔ c < 65 := nI_ltI (b := 65) (by omega) (by decide)
  have a4 : (90 : Int32) < nI c ↔ 90 < c := nI_ltI (a := 90) (by decide) (by omega)
  unfold isLn at h
  rw [T_X7_isLetter, T_X7_isLetter_12, T_X7_isLetter_24, a1, a2, a3, a4]
  exact ⟨fun z => ⟨fun z => absurd z (by omega), fun _ => ⟨fun z => absurd z (by omega), fun _ => k⟩⟩, fun _ => ⟨fun _ => k, fun z => ⟨fun z => absurd z (by omega), fun _ => ⟨fun z => absurd z (by omega), fun _ => k⟩⟩⟩⟩
theorem cl_n {c : Nat} (hc : c ≤ 255) (h : ¬ isLn c) {M : Mm} {K : Int32 → Mm → Prop} (k : K 0 M) : T_X7_isLetter (nI c) M K := by
  have a1 : nI c < (97 : Int32) ↔ c < 97 := nI_ltI (b := 97) (by omega) (by decide)
  have a2 : nI c ≤ (122 : Int32) ↔ c ≤ 122 := nI_leI (b := 122) (by omega) (by decide)
  have a3 : nI c < (65 : Int32) ↔ c < 65 := nI_ltI (b := 65) (by omega) (by decide)
  have a4 : (90 : Int32) < nI c ↔ 90 < c := nI_ltI (a := 90) (by decide) (by omega)
  unfold isLn at h
  rw [T_X7_isLetter, T_X7_isLetter_12, T_X7_isLetter_24, a1, a2, a3, a4]
  have b : (c < 65 → K 0 M) ∧ (¬ c < 65 → (90 < c → K 0 M) ∧ (¬ 90 < c → K 1 M)) := ⟨fun _ => k, fun z => ⟨fun _ => k, fun z2 => absurd (by omega) h⟩⟩
  exact ⟨fun _ => b, fun z => ⟨fun z2 => absurd (by omega) h, fun _ => b⟩⟩
theorem cd_y {c : Nat} (hc : c ≤ 255) (h : isDn c) {M : Mm} {K : Int32 → Mm → Prop} (k : K 1 M) : T_X7_isDigit (nI c) M K := by
  have a1 : nI c < (48 : Int32) ↔ c < 48 := nI_ltI (b := 48) (by omega) (by decide)
  have a4 : (57 : Int32) < nI c ↔ 57 < c := nI_ltI (a := 57) (by decide) (by omega)
  unfold isDn at h
  rw [T_X7_isDigit, a1, a4]
  exact ⟨fun z => absurd z (by omega), fun _ => ⟨fun z => absurd z (by omega), fun _ => k⟩⟩
theorem cd_n {c : Nat} (hc : c ≤ 255) (h : ¬ isDn c) {M : Mm} {K : Int32 → Mm → Prop} (k : K 0 M) : T_X7_isDigit (nI c) M K := by
  have a1 : nI c < (48 : Int32) ↔ c < 48 := nI_ltI (b := 48) (by omega) (by decide)
  have a4 : (57 : Int32) < nI c ↔ 57 < c := nI_ltI (a := 57) (by decide) (by omega)
  unfold isDn at h
  rw [T_X7_isDigit, a1, a4]
  exact ⟨fun _ => k, fun _ => ⟨fun _ => k, fun z => absurd (by omega) h⟩⟩
theorem ml_y {c : Nat} (hc : c ≤ 255) (h : isLn c) {M : Mm} {K : Int32 → Mm → Prop} (k : K 1 M) : T_X12_isLetter (nI c) M K := by
  have a1 : (97 : Int32) ≤ nI c ↔ 97 ≤ c := nI_leI (a := 97) (by decide) (by omega)
  have a2 : nI c ≤ (122 : Int32) ↔ c ≤ 122 := nI_leI (b := 122) (by omega) (by decide)
  have a3 : (65 : Int32) ≤ nI c ↔ 65 ≤ c := nI_leI (a := 65) (by decide) (by omega)
  have a4 : nI c ≤ (90 : Int32) ↔ c ≤ 90 := nI_leI (b := 90) (by omega) (by decide)
  rw [T_X12_isLetter]
  by_cases d : 97 ≤ c ∧ c ≤ 122
  · rw [ii_pos (by rw [a1, a2]; exact d)]
    exact ⟨fun z => absurd z (by decide), fun _ => k⟩
  · rw [ii_neg (by rw [a1, a2]; exact d)]
    refine ⟨fun _ => ?_, fun z => absurd rfl z⟩
    rw [ii_pos (by rw [a3, a4]; exact h.resolve_left d)]
    exact ⟨fun z => absurd z (by decide), fun _ => k⟩
theorem ml_n {c : Nat} (hc : c ≤ 255) (h : ¬ isLn c) {M : Mm} {K : Int32 → Mm → Prop} (k : K 0 M) : T_X12_isLetter (nI c) M K := by
  have a1 : (97 : Int32) ≤ nI c ↔ 97 ≤ c := nI_leI (a := 97) (by decide) (by omega)
  have a2 : nI c ≤ (122 : Int32) ↔ c ≤ 122 := nI_leI (b := 122) (by omega) (by decide)
  have a3 : (65 : Int32) ≤ nI c ↔ 65 ≤ c := nI_leI (a := 65) (by decide) (by omega)
  have a4 : nI c ≤ (90 : Int32) ↔ c ≤ 90 := nI_leI (b := 90) (by omega) (by decide)
  rw [T_X12_isLetter, ii_neg (by rw [a1, a2]; exact fun z => h (Or.inl z))]
  refine ⟨fun _ => ?_, fun z => absurd rfl z⟩
  rw [ii_neg (by rw [a3, a4]; exact fun z => h (Or.inr z))]
  exact ⟨fun _ => k, fun z => absurd rfl z⟩
theorem md_y {c : Nat} (hc : c ≤ 255) (h : isDn c) {M : Mm} {K : Int32 → Mm → Prop} (k : K 1 M) : T_X12_isDigit (nI c) M K := by
  have a1 : (48 : Int32) ≤ nI c ↔ 48 ≤ c := nI_leI (a := 48) (by decide) (by omega)
  have a2 : nI c ≤ (57 : Int32) ↔ c ≤ 57 := nI_leI (b := 57) (by omega) (by decide)
  rw [T_X12_isDigit, ii_pos (by rw [a1, a2]; exact h)]
  exact ⟨Or.inr rfl, k⟩
theorem md_n {c : Nat} (hc : c ≤ 255) (h : ¬ isDn c) {M : Mm} {K : Int32 → Mm → Prop} (k : K 0 M) : T_X12_isDigit (nI c) M K := by
  have a1 : (48 : Int32) ≤ nI c ↔ 48 ≤ c := nI_leI (a := 48) (by decide) (by omega)
  have a2 : nI c ≤ (57 : Int32) ↔ c ≤ 57 := nI_leI (b := 57) (by omega) (by decide)
  rw [T_X12_isDigit, ii_neg (by rw [a1, a2]; exact h)]
  exact ⟨Or.inl rfl, k⟩
theorem ml_e {M : Mm} {K : Int32 → Mm → Prop} (k : K 0 M) : T_X12_isLetter (-1) M K := by
  rw [T_X12_isLetter, ii_neg (by decide)]
  refine ⟨fun _ => ?_, fun z => absurd rfl z⟩
  rw [ii_neg (by decide)]
  exact ⟨fun _ => k, fun z => absurd rfl z⟩
theorem md_e {M : Mm} {K : Int32 → Mm → Prop} (k : K 0 M) : T_X12_isDigit (-1) M K := by
  rw [T_X12_isDigit, ii_neg (by decide)]
  exact ⟨Or.inl rfl, k⟩
