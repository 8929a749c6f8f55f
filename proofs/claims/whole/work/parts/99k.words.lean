/-! TEXT: the class's two_v texts_v -/
theorem kw_len {M : Mm} {K : Int32 → Mm → Prop} (k : K (nI 147) M) : T_J0_length_8abf5 0 M K := by
  have e : (nI (sl_.getD 0 0)) >>> ((0 : Int32) &&& 31) = nI 147 := by decide +kernel
  rw [T_J0_length_8abf5, T_J0_coder_7d493]
  refine ⟨fun z => absurd z (by decide), fun _ => ⟨rfl, ?_⟩⟩
  rw [e]
  exact k
theorem kw_v : ∀ i, i < 147 → (((((sb_.getD 0 []).getD i 0) &&& 255)).toUInt32 % 65536).toInt32 = wd_t (i + 1) := by decide +kernel
theorem kw_nc : ∀ i, i < 148 → narrow .char (.int (wd_t i)) = .int (wd_t i) := by
  have h : ∀ i, i < 148 → ∃ c : Nat, c < 128 ∧ wd_t i = nI c := by
    intro i hi
    have h2 : ∀ i, i < 148 → wd_t i = nI (wd_t i).toNatClampNeg ∧ (wd_t i).toNatClampNeg < 128 := by decide +kernel
    exact ⟨_, (h2 i hi).2, (h2 i hi).1⟩
  intro i hi
  obtain ⟨c, hc, e⟩ := h i hi
  rw [e]
  have : ∀ c, c < 128 → narrow .char (.int (nI c)) = .int (nI c) := by decide +kernel
  exact this c hc
theorem kw_at {M : Mm} {K : Int32 → Mm → Prop} {i : Nat} (hi : i < 147) (k : K (wd_t (i + 1)) M) : T_J0_charAt_5068e 0 (nI i) M K := by
  have v : vp_in (nI i) (sl_.getD 0 0) := vp_in_nI (N := 147) hi (by decide)
  have l : (nI (sl_.getD 0 0)) = nI 147 := rfl
  have c1 : ¬ nI i < 0 := nI_pos (by omega)
  have c2 : nI i < nI 147 := nI_lt hi (by decide)
  rw [T_J0_charAt_5068e, T_J0_isLatin1_aae02]
  refine ⟨fun z => absurd z (by decide), fun _ => ⟨fun _ => ⟨fun z => absurd z (by decide), fun _ => ?_⟩, fun z => absurd rfl z⟩⟩
  rw [T_J1_charAt_3b067, nI_clamp (n := i) (by omega), kw_v i hi, T_J0_checkIndex_df160, T_J3_checkIndex_8e157]
  exact ⟨fun z => absurd z c1, fun _ => ⟨fun _ => ⟨v, kw_nc (i + 1) (by omega), kw_nc (i + 1) (by omega), k⟩, fun z => absurd c2 z⟩⟩
