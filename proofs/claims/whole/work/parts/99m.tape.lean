/-! TEXT: the model's signs, the tape -/
theorem ms_ok {c : Nat} (hc : c ≤ 255) {M : Mm} {K : Int32 → Mm → Prop} (k1 : isSn c → K 1 M) (k0 : ¬ isSn c → K 0 M) : T_X12_isMarkSign (nI c) M K := by
  have q : ∀ n : Nat, n ≤ 255 → (nI c = nI n ↔ c = n) := fun n hn => nI_eq (by omega) (by omega)
  have e1 : nI c = (59 : Int32) ↔ c = 59 := q 59 (by omega)
  have e2 : nI c = (43 : Int32) ↔ c = 43 := q 43 (by omega)
  have e3 : nI c = (45 : Int32) ↔ c = 45 := q 45 (by omega)
  have e4 : nI c = (42 : Int32) ↔ c = 42 := q 42 (by omega)
  have e5 : nI c = (47 : Int32) ↔ c = 47 := q 47 (by omega)
  have e6 : nI c = (40 : Int32) ↔ c = 40 := q 40 (by omega)
  have e7 : nI c = (41 : Int32) ↔ c = 41 := q 41 (by omega)
  have e8 : nI c = (60 : Int32) ↔ c = 60 := q 60 (by omega)
  have e9 : nI c = (61 : Int32) ↔ c = 61 := q 61 (by omega)
  have e10 : nI c = (62 : Int32) ↔ c = 62 := q 62 (by omega)
  unfold isSn at k1 k0
  rw [T_X12_isMarkSign, T_X12_isMarkSign_60, e1, e2, e3, e4, e5, e6, e7, e8, e9, e10]
  refine ⟨fun z => k1 (by omega), fun _ => ⟨fun z => k1 (by omega), fun _ => ⟨fun z => k1 (by omega), fun _ => ⟨fun z => k1 (by omega), fun _ => ⟨fun z => k1 (by omega), fun _ => ⟨fun z => k1 (by omega), fun _ => ⟨fun z => k1 (by omega), fun _ => ⟨fun z => k1 (by omega), fun _ => ⟨fun z => k1 (by omega), fun _ => ⟨fun z => k1 (by omega), fun _ => k0 (by omega)⟩⟩⟩⟩⟩⟩⟩⟩⟩⟩
/-- the tape: k chars -/
def TP (ch : Nat → Nat) (k : Nat) (M : Mm) : Prop := k ≤ 400 ∧ M 159 15 = nI k ∧ ∀ i, i < k → M 169 i = nI (ch i) ∧ ch i ≤ 255
theorem raw_ok {ch : Nat → Nat} {k i : Nat} {M : Mm} {K : Int32 → Mm → Prop} (h : TP ch k M) (hi : i ≤ 400) (q1 : i < k → K (nI (ch i)) M) (q2 : ¬ i < k → K (-1) M) : T_X12_raw (nI i) M K := by
  obtain ⟨h1, h2, h3⟩ := h
  rw [T_X12_raw, h2, nI_clamp (n := i) (by omega)]
  refine pk_le k i (fun z => q2 (by omega)) (fun z => ⟨vp_in_nI (by omega) (by decide), ?_⟩)
  rw [(h3 i (by omega)).1]
  exact q1 (by omega)
