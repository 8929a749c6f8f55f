/-- what is still_v asked_v of text -/
def TX : Prop := ∀ (N : Nat) (M : Mm), Inv N M → ∀ x : Int32, Ay (T_X11_text x) (T_X12_text x) N M
theorem vin_k {L i : Nat} (k : Nat) (c : Int32) (e : c = nI k) (h : i + k < L) (hL : L ≤ 3072) : vp_in (nI i + c) L := by
  rw [e, nI_add]
  exact vp_in_nI h (by omega)
theorem l14 {B : Int32 → Mm → Prop} {N i : Nat} (hB : ∀ M2, Inv (N + 1000) M2 → B (nI i + 6) M2) : ∀ M2, Inv (N + 1000) M2 → T_L_law_1409 B (nI i) M2 := by
  intro M2 h
  rw [T_L_law_1409]
  intro y1 e
  rw [e]
  exact hB M2 h
theorem lc_0 {N L i : Nat} {M : Mm} {xs : Nat → Int32} {B : Int32 → Mm → Prop} (h : Inv N M) (hN : N < 800000) (hi : i + 6 ≤ L) (hL : L ≤ 3072) (hB : ∀ M2, Inv (N + 1000) M2 → B (nI i + 6) M2) : T_L_case0 B L xs (nI i) M := by
  have b := l14 hB
  have v1 : vp_in (nI i + 1) L := vin_k 1 _ rfl (by omega) hL
  rw [T_L_case0]
  exact ⟨v1, (Ah.ay (Ag.ah (ag_state h _))) _ (fun r M1 k2 => ⟨v1, k2 _ (fun M2 hI => ⟨fun _ => b M2 hI, fun z => absurd rfl z⟩)⟩)⟩
theorem lc_1 {N L i : Nat} {M : Mm} {xs : Nat → Int32} {B : Int32 → Mm → Prop} (h : Inv N M) (hN : N < 800000) (hi : i + 6 ≤ L) (hL : L ≤ 3072) (hB : ∀ M2, Inv (N + 1000) M2 → B (nI i + 6) M2) : T_L_case1 B L xs (nI i) M := by
  have b := l14 hB
  have v1 : vp_in (nI i + 1) L := vin_k 1 _ rfl (by omega) hL
  have v2 : vp_in (nI i + 2) L := vin_k 2 _ rfl (by omega) hL
  have v3 : vp_in (nI i + 3) L := vin_k 3 _ rfl (by omega) hL
  rw [T_L_case1]
  exact ⟨v1, v2, v3, (Ah.ay (Ag.ah (ag_parcel h _ _ _))) _ (fun r M1 k2 => ⟨v1, v2, v3, k2 _ (fun M2 hI => ⟨fun _ => b M2 hI, fun z => absurd rfl z⟩)⟩)⟩
theorem lc_2 {N L i : Nat} {M : Mm} {xs : Nat → Int32} {B : Int32 → Mm → Prop} (h : Inv N M) (hN : N < 800000) (hi : i + 6 ≤ L) (hL : L ≤ 3072) (hB : ∀ M2, Inv (N + 1000) M2 → B (nI i + 6) M2) : T_L_case2 B L xs (nI i) M := by
  have b := l14 hB
  have v1 : vp_in (nI i + 1) L := vin_k 1 _ rfl (by omega) hL
  have v2 : vp_in (nI i + 2) L := vin_k 2 _ rfl (by omega) hL
  have v3 : vp_in (nI i + 3) L := vin_k 3 _ rfl (by omega) hL
  rw [T_L_case2]
  exact ⟨v1, v2, v3, fun c => (Ah.ay (Ag.ah (ag_bidder h _ _ 0))) _ (fun r M1 k2 => ⟨v1, v2, v3, fun _ => k2 _ (fun M2 hI => ⟨fun _ => b M2 hI, fun z => absurd rfl z⟩), fun z => absurd c z⟩), fun c => (Ah.ay (Ag.ah (ag_bidder h _ _ 1))) _ (fun r M1 k2 => ⟨v1, v2, v3, fun z => absurd z c, fun _ => k2 _ (fun M2 hI => ⟨fun _ => b M2 hI, fun z => absurd rfl z⟩)⟩)⟩
theorem lc_3 {N L i : Nat} {M : Mm} {xs : Nat → Int32} {B : Int32 → Mm → Prop} (h : Inv N M) (hN : N < 800000) (hi : i + 6 ≤ L) (hL : L ≤ 3072) (hB : ∀ M2, Inv (N + 1000) M2 → B (nI i + 6) M2) : T_L_case3 B L xs (nI i) M := by
  have b := l14 hB
  have v1 : vp_in (nI i + 1) L := vin_k 1 _ rfl (by omega) hL
  have v2 : vp_in (nI i + 2) L := vin_k 2 _ rfl (by omega) hL
  have v3 : vp_in (nI i + 3) L := vin_k 3 _ rfl (by omega) hL
  rw [T_L_case3]
  exact ⟨v1, v2, v3, (Ah.ay (Ag.ah (ag_set h _ _ _))) _ (fun r M1 k2 => ⟨v1, v2, v3, k2 _ (fun M2 hI => ⟨fun _ => b M2 hI, fun z => absurd rfl z⟩)⟩)⟩
theorem lc_4 {N L i : Nat} {M : Mm} {xs : Nat → Int32} {B : Int32 → Mm → Prop} (h : Inv N M) (hN : N < 800000) (hi : i + 6 ≤ L) (hL : L ≤ 3072) (hB : ∀ M2, Inv (N + 1000) M2 → B (nI i + 6) M2) : T_L_case4 B L xs (nI i) M := by
  have b := l14 hB
  have v1 : vp_in (nI i + 1) L := vin_k 1 _ rfl (by omega) hL
  rw [T_L_case4]
  exact ⟨v1, (Ah.ay (ah_sell h (by omega) _)) _ (fun r M1 k2 => ⟨v1, k2 _ (fun M2 hI => ⟨fun _ => b M2 hI, fun z => absurd rfl z⟩)⟩)⟩
theorem lc_5 {N L i : Nat} {M : Mm} {xs : Nat → Int32} {B : Int32 → Mm → Prop} (h : Inv N M) (hN : N < 800000) (hi : i + 6 ≤ L) (hL : L ≤ 3072) (hB : ∀ M2, Inv (N + 1000) M2 → B (nI i + 6) M2) : T_L_case5 B L xs (nI i) M := by
  have b := l14 hB
  have v1 : vp_in (nI i + 1) L := vin_k 1 _ rfl (by omega) hL
  have v2 : vp_in (nI i + 2) L := vin_k 2 _ rfl (by omega) hL
  rw [T_L_case5]
  exact ⟨v1, v2, (Ah.ay (ah_pay h _ _)) _ (fun r M1 k2 => ⟨v1, v2, k2 _ (fun M2 hI => ⟨fun _ => b M2 hI, fun z => absurd rfl z⟩)⟩)⟩
theorem lc_6 {N L i : Nat} {M : Mm} {xs : Nat → Int32} {B : Int32 → Mm → Prop} (h : Inv N M) (hN : N < 800000) (hi : i + 6 ≤ L) (hL : L ≤ 3072) (hB : ∀ M2, Inv (N + 1000) M2 → B (nI i + 6) M2) : T_L_case6 B L xs (nI i) M := by
  have b := l14 hB
  have v1 : vp_in (nI i + 1) L := vin_k 1 _ rfl (by omega) hL
  have v2 : vp_in (nI i + 2) L := vin_k 2 _ rfl (by omega) hL
  have v3 : vp_in (nI i + 3) L := vin_k 3 _ rfl (by omega) hL
  rw [T_L_case6]
  exact ⟨v1, v2, v3, (Ah.ay (ah_give h (by omega) _ _ _)) _ (fun r M1 k2 => ⟨v1, v2, v3, k2 _ (fun M2 hI => ⟨fun _ => b M2 hI, fun z => absurd rfl z⟩)⟩)⟩
theorem lc_7 {N L i : Nat} {M : Mm} {xs : Nat → Int32} {B : Int32 → Mm → Prop} (h : Inv N M) (hN : N < 800000) (hi : i + 6 ≤ L) (hL : L ≤ 3072) (hB : ∀ M2, Inv (N + 1000) M2 → B (nI i + 6) M2) : T_L_case7 B L xs (nI i) M := by
  have b := l14 hB
  have v1 : vp_in (nI i + 1) L := vin_k 1 _ rfl (by omega) hL
  rw [T_L_case7]
  exact ⟨v1, (Ah.ay (ah_settle h (by omega) _)) _ (fun r M1 k2 => ⟨v1, k2 _ (fun M2 hI => ⟨fun _ => b M2 hI, fun z => absurd rfl z⟩)⟩)⟩
theorem lc_8 {N L i : Nat} {M : Mm} {xs : Nat → Int32} {B : Int32 → Mm → Prop} (h : Inv N M) (hN : N < 800000) (hi : i + 6 ≤ L) (hL : L ≤ 3072) (hB : ∀ M2, Inv (N + 1000) M2 → B (nI i + 6) M2) : T_L_case8 B L xs (nI i) M := by
  have b := l14 hB
  have v1 : vp_in (nI i + 1) L := vin_k 1 _ rfl (by omega) hL
  rw [T_L_case8]
  exact ⟨v1, (Ah.ay (ah_days h (by omega) _)) _ (fun r M1 k2 => ⟨v1, k2 _ (fun M2 hI => ⟨fun _ => b M2 hI, fun z => absurd rfl z⟩)⟩)⟩
theorem lc_9 {N L i : Nat} {M : Mm} {xs : Nat → Int32} {B : Int32 → Mm → Prop} (h : Inv N M) (hN : N < 800000) (hi : i + 6 ≤ L) (hL : L ≤ 3072) (hB : ∀ M2, Inv (N + 1000) M2 → B (nI i + 6) M2) : T_L_case9 B L xs (nI i) M := by
  have b := l14 hB
  have v1 : vp_in (nI i + 1) L := vin_k 1 _ rfl (by omega) hL
  have v2 : vp_in (nI i + 2) L := vin_k 2 _ rfl (by omega) hL
  have v3 : vp_in (nI i + 3) L := vin_k 3 _ rfl (by omega) hL
  have v4 : vp_in (nI i + 4) L := vin_k 4 _ rfl (by omega) hL
  have v5 : vp_in (nI i + 5) L := vin_k 5 _ rfl (by omega) hL
  rw [T_L_case9]
  exact ⟨v1, v2, v3, v4, v5, (Ah.ay (ah_feed h _ _ _ _ _)) _ (fun r M1 k2 => ⟨v1, v2, v3, v4, v5, k2 _ (fun M2 hI => ⟨fun _ => b M2 hI, fun z => absurd rfl z⟩)⟩)⟩
theorem lc_10 {N L i : Nat} {M : Mm} {xs : Nat → Int32} {B : Int32 → Mm → Prop} (h : Inv N M) (hN : N < 800000) (hi : i + 6 ≤ L) (hL : L ≤ 3072) (hB : ∀ M2, Inv (N + 1000) M2 → B (nI i + 6) M2) : T_L_case10 B L xs (nI i) M := by
  have b := l14 hB
  have v1 : vp_in (nI i + 1) L := vin_k 1 _ rfl (by omega) hL
  rw [T_L_case10]
  exact ⟨v1, (Ah.ay (Ag.ah (ag_end h _))) _ (fun r M1 k2 => ⟨v1, k2 _ (fun M2 hI => ⟨fun _ => b M2 hI, fun z => absurd rfl z⟩)⟩)⟩
theorem lc_11 (ht : TX) {N L i : Nat} {M : Mm} {xs : Nat → Int32} {B : Int32 → Mm → Prop} (h : Inv N M) (hN : N < 800000) (hi : i + 6 ≤ L) (hL : L ≤ 3072) (hB : ∀ M2, Inv (N + 1000) M2 → B (nI i + 6) M2) : T_L_case11 B L xs (nI i) M := by
  have b := l14 hB
  have v1 : vp_in (nI i + 1) L := vin_k 1 _ rfl (by omega) hL
  rw [T_L_case11]
  exact ⟨v1, (ht _ _ h _) _ (fun r M1 k2 => ⟨v1, k2 _ (fun M2 hI => ⟨fun _ => b M2 hI, fun z => absurd rfl z⟩)⟩)⟩
theorem lc_12 {N L i : Nat} {M : Mm} {xs : Nat → Int32} {B : Int32 → Mm → Prop} (h : Inv N M) (hN : N < 800000) (hi : i + 6 ≤ L) (hL : L ≤ 3072) (hB : ∀ M2, Inv (N + 1000) M2 → B (nI i + 6) M2) : T_L_case12 B L xs (nI i) M := by
  have b := l14 hB
  have v1 : vp_in (nI i + 1) L := vin_k 1 _ rfl (by omega) hL
  rw [T_L_case12]
  exact ⟨v1, (Ah.ay (Ag.ah (ag_fault h _))) _ (fun r M1 k2 => ⟨v1, k2 _ (fun M2 hI => ⟨fun _ => b M2 hI, fun z => absurd rfl z⟩)⟩)⟩
theorem lc_13 {N L i : Nat} {M : Mm} {xs : Nat → Int32} {B : Int32 → Mm → Prop} (h : Inv N M) (hN : N < 800000) (hi : i + 6 ≤ L) (hL : L ≤ 3072) (hB : ∀ M2, Inv (N + 1000) M2 → B (nI i + 6) M2) : T_L_case13 B L xs (nI i) M := by
  have b := l14 hB
  have v1 : vp_in (nI i + 1) L := vin_k 1 _ rfl (by omega) hL
  have v2 : vp_in (nI i + 2) L := vin_k 2 _ rfl (by omega) hL
  rw [T_L_case13]
  exact ⟨v1, v2, (Ah.ay (ah_of h _ _)) _ (fun r M1 k2 => ⟨v1, v2, k2 _ (fun M2 hI => ⟨fun _ => b M2 hI, fun z => absurd rfl z⟩)⟩)⟩
theorem lc_14 {N L i : Nat} {M : Mm} {xs : Nat → Int32} {B : Int32 → Mm → Prop} (h : Inv N M) (hN : N < 800000) (hi : i + 6 ≤ L) (hL : L ≤ 3072) (hB : ∀ M2, Inv (N + 1000) M2 → B (nI i + 6) M2) : T_L_case14 B L xs (nI i) M := by
  have b := l14 hB
  have v1 : vp_in (nI i + 1) L := vin_k 1 _ rfl (by omega) hL
  have v2 : vp_in (nI i + 2) L := vin_k 2 _ rfl (by omega) hL
  rw [T_L_case14]
  exact ⟨v1, v2, (Ah.ay (Ag.ah (ag_who h _ _))) _ (fun r M1 k2 => ⟨v1, v2, k2 _ (fun M2 hI => ⟨fun _ => b M2 hI, fun z => absurd rfl z⟩)⟩)⟩
theorem lc_15 {N L i : Nat} {M : Mm} {xs : Nat → Int32} {B : Int32 → Mm → Prop} (h : Inv N M) (hN : N < 800000) (hi : i + 6 ≤ L) (hL : L ≤ 3072) (hB : ∀ M2, Inv (N + 1000) M2 → B (nI i + 6) M2) : T_L_case15 B L xs (nI i) M := by
  have b := l14 hB
  have v1 : vp_in (nI i + 1) L := vin_k 1 _ rfl (by omega) hL
  have v2 : vp_in (nI i + 2) L := vin_k 2 _ rfl (by omega) hL
  rw [T_L_case15]
  exact ⟨v1, v2, (Ah.ay (Ag.ah (ag_book h _ _))) _ (fun r M1 k2 => ⟨v1, v2, k2 _ (fun M2 hI => ⟨fun _ => b M2 hI, fun z => absurd rfl z⟩)⟩)⟩
theorem lc_16 {N L i : Nat} {M : Mm} {xs : Nat → Int32} {B : Int32 → Mm → Prop} (h : Inv N M) (hN : N < 800000) (hi : i + 6 ≤ L) (hL : L ≤ 3072) (hB : ∀ M2, Inv (N + 1000) M2 → B (nI i + 6) M2) : T_L_case16 B L xs (nI i) M := by
  have b := l14 hB
  have v1 : vp_in (nI i + 1) L := vin_k 1 _ rfl (by omega) hL
  have v2 : vp_in (nI i + 2) L := vin_k 2 _ rfl (by omega) hL
  rw [T_L_case16]
  exact ⟨v1, v2, (Ah.ay (ah_would h _ _)) _ (fun r M1 k2 => ⟨v1, v2, k2 _ (fun M2 hI => ⟨fun _ => b M2 hI, fun z => absurd rfl z⟩)⟩)⟩
theorem lc_17 {N L i : Nat} {M : Mm} {xs : Nat → Int32} {B : Int32 → Mm → Prop} (h : Inv N M) (hN : N < 800000) (hi : i + 6 ≤ L) (hL : L ≤ 3072) (hB : ∀ M2, Inv (N + 1000) M2 → B (nI i + 6) M2) : T_L_case17 B L xs (nI i) M := by
  have b := l14 hB
  have v1 : vp_in (nI i + 1) L := vin_k 1 _ rfl (by omega) hL
  have v2 : vp_in (nI i + 2) L := vin_k 2 _ rfl (by omega) hL
  rw [T_L_case17]
  exact ⟨v1, v2, (Ah.ay (ah_goes h (by omega) _ _)) _ (fun r M1 k2 => ⟨v1, v2, k2 _ (fun M2 hI => ⟨fun _ => b M2 hI, fun z => absurd rfl z⟩)⟩)⟩
theorem lc_18 {N L i : Nat} {M : Mm} {xs : Nat → Int32} {B : Int32 → Mm → Prop} (h : Inv N M) (hN : N < 800000) (hi : i + 6 ≤ L) (hL : L ≤ 3072) (hB : ∀ M2, Inv (N + 1000) M2 → B (nI i + 6) M2) : T_L_case18 B L xs (nI i) M := by
  have b := l14 hB
  have v1 : vp_in (nI i + 1) L := vin_k 1 _ rfl (by omega) hL
  have v2 : vp_in (nI i + 2) L := vin_k 2 _ rfl (by omega) hL
  rw [T_L_case18]
  exact ⟨v1, v2, (Ah.ay (Ag.ah (ag_weighs h _ _))) _ (fun r M1 k2 => ⟨v1, v2, k2 _ (fun M2 hI => ⟨fun _ => b M2 hI, fun z => absurd rfl z⟩)⟩)⟩
theorem lc_19 {N L i : Nat} {M : Mm} {xs : Nat → Int32} {B : Int32 → Mm → Prop} (h : Inv N M) (hN : N < 800000) (hi : i + 6 ≤ L) (hL : L ≤ 3072) (hB : ∀ M2, Inv (N + 1000) M2 → B (nI i + 6) M2) : T_L_case19 B L xs (nI i) M := by
  have b := l14 hB
  have v1 : vp_in (nI i + 1) L := vin_k 1 _ rfl (by omega) hL
  have v2 : vp_in (nI i + 2) L := vin_k 2 _ rfl (by omega) hL
  rw [T_L_case19]
  exact ⟨v1, v2, (Ah.ay (ah_inside h _ _)) _ (fun r M1 k2 => ⟨v1, v2, k2 _ (fun M2 hI => ⟨fun _ => b M2 hI, fun z => absurd rfl z⟩)⟩)⟩
theorem lc_20 {N L i : Nat} {M : Mm} {xs : Nat → Int32} {B : Int32 → Mm → Prop} (h : Inv N M) (hN : N < 800000) (hi : i + 6 ≤ L) (hL : L ≤ 3072) (hB : ∀ M2, Inv (N + 1000) M2 → B (nI i + 6) M2) : T_L_case20 B L xs (nI i) M := by
  have b := l14 hB
  have v1 : vp_in (nI i + 1) L := vin_k 1 _ rfl (by omega) hL
  rw [T_L_case20]
  exact ⟨v1, (Ah.ay (Ag.ah (ag_length h _))) _ (fun r M1 k2 => ⟨v1, k2 _ (fun M2 hI => ⟨fun _ => b M2 hI, fun z => absurd rfl z⟩)⟩)⟩
theorem lc_21 {N L i : Nat} {M : Mm} {xs : Nat → Int32} {B : Int32 → Mm → Prop} (h : Inv N M) (hN : N < 800000) (hi : i + 6 ≤ L) (hL : L ≤ 3072) (hB : ∀ M2, Inv (N + 1000) M2 → B (nI i + 6) M2) : T_L_case21 B L xs (nI i) M := by
  have b := l14 hB
  have v1 : vp_in (nI i + 1) L := vin_k 1 _ rfl (by omega) hL
  have v2 : vp_in (nI i + 2) L := vin_k 2 _ rfl (by omega) hL
  rw [T_L_case21]
  exact ⟨v1, v2, (Ah.ay (ah_strings h _ _)) _ (fun r M1 k2 => ⟨v1, v2, k2 _ (fun M2 hI => ⟨fun _ => b M2 hI, fun z => absurd rfl z⟩)⟩)⟩
theorem lc_22 {N L i : Nat} {M : Mm} {xs : Nat → Int32} {B : Int32 → Mm → Prop} (h : Inv N M) (hN : N < 800000) (hi : i + 6 ≤ L) (hL : L ≤ 3072) (hB : ∀ M2, Inv (N + 1000) M2 → B (nI i + 6) M2) : T_L_case22 B L xs (nI i) M := by
  have b := l14 hB
  have v1 : vp_in (nI i + 1) L := vin_k 1 _ rfl (by omega) hL
  rw [T_L_case22]
  exact ⟨v1, (Ah.ay (Ag.ah (ag_coin h _))) _ (fun r M1 k2 => ⟨v1, k2 _ (fun M2 hI => ⟨fun _ => b M2 hI, fun z => absurd rfl z⟩)⟩)⟩
theorem lc_23 {N L i : Nat} {M : Mm} {xs : Nat → Int32} {B : Int32 → Mm → Prop} (h : Inv N M) (hN : N < 800000) (hi : i + 6 ≤ L) (hL : L ≤ 3072) (hB : ∀ M2, Inv (N + 1000) M2 → B (nI i + 6) M2) : T_L_case23 B L xs (nI i) M := by
  have b := l14 hB
  have v1 : vp_in (nI i + 1) L := vin_k 1 _ rfl (by omega) hL
  have v2 : vp_in (nI i + 2) L := vin_k 2 _ rfl (by omega) hL
  rw [T_L_case23]
  exact ⟨v1, v2, (Ah.ay (ah_pays h _ _)) _ (fun r M1 k2 => ⟨v1, v2, k2 _ (fun M2 hI => ⟨fun _ => b M2 hI, fun z => absurd rfl z⟩)⟩)⟩
theorem lc_24 {N L i : Nat} {M : Mm} {xs : Nat → Int32} {B : Int32 → Mm → Prop} (h : Inv N M) (hN : N < 800000) (hi : i + 6 ≤ L) (hL : L ≤ 3072) (hB : ∀ M2, Inv (N + 1000) M2 → B (nI i + 6) M2) : T_L_case24 B L xs (nI i) M := by
  have b := l14 hB
  have v1 : vp_in (nI i + 1) L := vin_k 1 _ rfl (by omega) hL
  have v2 : vp_in (nI i + 2) L := vin_k 2 _ rfl (by omega) hL
  rw [T_L_case24]
  exact ⟨v1, v2, (Ah.ay (ah_rank h _ _)) _ (fun r M1 k2 => ⟨v1, v2, k2 _ (fun M2 hI => ⟨fun _ => b M2 hI, fun z => absurd rfl z⟩)⟩)⟩
theorem lc_25 {N L i : Nat} {M : Mm} {xs : Nat → Int32} {B : Int32 → Mm → Prop} (h : Inv N M) (hN : N < 800000) (hi : i + 6 ≤ L) (hL : L ≤ 3072) (hB : ∀ M2, Inv (N + 1000) M2 → B (nI i + 6) M2) : T_L_case25 B L xs (nI i) M := by
  have b := l14 hB
  have v1 : vp_in (nI i + 1) L := vin_k 1 _ rfl (by omega) hL
  rw [T_L_case25]
  exact ⟨v1, (Ah.ay (ah_swaps h _)) _ (fun r M1 k2 => ⟨v1, k2 _ (fun M2 hI => ⟨fun _ => b M2 hI, fun z => absurd rfl z⟩)⟩)⟩
theorem lc_26 {N L i : Nat} {M : Mm} {xs : Nat → Int32} {B : Int32 → Mm → Prop} (h : Inv N M) (hN : N < 800000) (hi : i + 6 ≤ L) (hL : L ≤ 3072) (hB : ∀ M2, Inv (N + 1000) M2 → B (nI i + 6) M2) : T_L_case26 B L xs (nI i) M := by
  have b := l14 hB
  have v1 : vp_in (nI i + 1) L := vin_k 1 _ rfl (by omega) hL
  rw [T_L_case26]
  exact ⟨v1, (ay_wishes h _) _ (fun r M1 k2 => ⟨v1, k2 _ (fun M2 hI => ⟨fun _ => b M2 hI, fun z => absurd rfl z⟩)⟩)⟩
theorem lc_27 {N L i : Nat} {M : Mm} {xs : Nat → Int32} {B : Int32 → Mm → Prop} (h : Inv N M) (hN : N < 800000) (hi : i + 6 ≤ L) (hL : L ≤ 3072) (hB : ∀ M2, Inv (N + 1000) M2 → B (nI i + 6) M2) : T_L_case27 B L xs (nI i) M := by
  have b := l14 hB
  have v1 : vp_in (nI i + 1) L := vin_k 1 _ rfl (by omega) hL
  have v2 : vp_in (nI i + 2) L := vin_k 2 _ rfl (by omega) hL
  rw [T_L_case27]
  exact ⟨v1, v2, (Ah.ay (Ag.ah (ag_put h _ _))) _ (fun r M1 k2 => ⟨v1, v2, k2 _ (fun M2 hI => ⟨fun _ => b M2 hI, fun z => absurd rfl z⟩)⟩)⟩
theorem lc_28 {N L i : Nat} {M : Mm} {xs : Nat → Int32} {B : Int32 → Mm → Prop} (h : Inv N M) (hN : N < 800000) (hi : i + 6 ≤ L) (hL : L ≤ 3072) (hB : ∀ M2, Inv (N + 1000) M2 → B (nI i + 6) M2) : T_L_case28 B L xs (nI i) M := by
  have b := l14 hB
  have v1 : vp_in (nI i + 1) L := vin_k 1 _ rfl (by omega) hL
  rw [T_L_case28]
  exact ⟨v1, (Ah.ay (Ag.ah (ag_puts h _))) _ (fun r M1 k2 => ⟨v1, k2 _ (fun M2 hI => ⟨fun _ => b M2 hI, fun z => absurd rfl z⟩)⟩)⟩
theorem lc_29 {N L i : Nat} {M : Mm} {xs : Nat → Int32} {B : Int32 → Mm → Prop} (h : Inv N M) (hN : N < 800000) (hi : i + 6 ≤ L) (hL : L ≤ 3072) (hB : ∀ M2, Inv (N + 1000) M2 → B (nI i + 6) M2) : T_L_case29 B L xs (nI i) M := by
  have b := l14 hB
  have v1 : vp_in (nI i + 1) L := vin_k 1 _ rfl (by omega) hL
  have v2 : vp_in (nI i + 2) L := vin_k 2 _ rfl (by omega) hL
  rw [T_L_case29]
  exact ⟨v1, v2, fun c => (Ah.ay (Ag.ah (ag_clue h _ 0))) _ (fun r M1 k2 => ⟨v1, v2, fun _ => k2 _ (fun M2 hI => ⟨fun _ => b M2 hI, fun z => absurd rfl z⟩), fun z => absurd c z⟩), fun c => (Ah.ay (Ag.ah (ag_clue h _ 1))) _ (fun r M1 k2 => ⟨v1, v2, fun z => absurd z c, fun _ => k2 _ (fun M2 hI => ⟨fun _ => b M2 hI, fun z => absurd rfl z⟩)⟩)⟩
theorem lc_30 {N L i : Nat} {M : Mm} {xs : Nat → Int32} {B : Int32 → Mm → Prop} (h : Inv N M) (hN : N < 800000) (hi : i + 6 ≤ L) (hL : L ≤ 3072) (hB : ∀ M2, Inv (N + 1000) M2 → B (nI i + 6) M2) : T_L_case30 B L xs (nI i) M := by
  have b := l14 hB
  have v1 : vp_in (nI i + 1) L := vin_k 1 _ rfl (by omega) hL
  rw [T_L_case30]
  exact ⟨v1, (ay_which h _) _ (fun r M1 k2 => ⟨v1, k2 _ (fun M2 hI => ⟨fun _ => b M2 hI, fun z => absurd rfl z⟩)⟩)⟩
theorem lc_31 {N L i : Nat} {M : Mm} {xs : Nat → Int32} {B : Int32 → Mm → Prop} (h : Inv N M) (hN : N < 800000) (hi : i + 6 ≤ L) (hL : L ≤ 3072) (hB : ∀ M2, Inv (N + 1000) M2 → B (nI i + 6) M2) : T_L_case31 B L xs (nI i) M := by
  have b := l14 hB
  have v1 : vp_in (nI i + 1) L := vin_k 1 _ rfl (by omega) hL
  rw [T_L_case31]
  exact ⟨v1, (Ah.ay (Ag.ah (ag_police h _))) _ (fun r M1 k2 => ⟨v1, k2 _ (fun M2 hI => ⟨fun _ => b M2 hI, fun z => absurd rfl z⟩)⟩)⟩
theorem lc_32 {N L i : Nat} {M : Mm} {xs : Nat → Int32} {B : Int32 → Mm → Prop} (h : Inv N M) (hN : N < 800000) (hi : i + 6 ≤ L) (hL : L ≤ 3072) (hB : ∀ M2, Inv (N + 1000) M2 → B (nI i + 6) M2) : T_L_case32 B L xs (nI i) M := by
  have b := l14 hB
  have v1 : vp_in (nI i + 1) L := vin_k 1 _ rfl (by omega) hL
  rw [T_L_case32]
  exact ⟨v1, (Ah.ay (Ag.ah (ag_every h _))) _ (fun r M1 k2 => ⟨v1, k2 _ (fun M2 hI => ⟨fun _ => b M2 hI, fun z => absurd rfl z⟩)⟩)⟩
theorem lc_33 {N L i : Nat} {M : Mm} {xs : Nat → Int32} {B : Int32 → Mm → Prop} (h : Inv N M) (hN : N < 800000) (hi : i + 6 ≤ L) (hL : L ≤ 3072) (hB : ∀ M2, Inv (N + 1000) M2 → B (nI i + 6) M2) : T_L_case33 B L xs (nI i) M := by
  have b := l14 hB
  have v1 : vp_in (nI i + 1) L := vin_k 1 _ rfl (by omega) hL
  have v2 : vp_in (nI i + 2) L := vin_k 2 _ rfl (by omega) hL
  have v3 : vp_in (nI i + 3) L := vin_k 3 _ rfl (by omega) hL
  rw [T_L_case33]
  exact ⟨v1, v2, v3, (Ah.ay (Ag.ah (ag_shill h _ _ _))) _ (fun r M1 k2 => ⟨v1, v2, v3, k2 _ (fun M2 hI => ⟨fun _ => b M2 hI, fun z => absurd rfl z⟩)⟩)⟩
theorem lc_34 {N L i : Nat} {M : Mm} {xs : Nat → Int32} {B : Int32 → Mm → Prop} (h : Inv N M) (hN : N < 800000) (hi : i + 6 ≤ L) (hL : L ≤ 3072) (hB : ∀ M2, Inv (N + 1000) M2 → B (nI i + 6) M2) : T_L_case34 B L xs (nI i) M := by
  have b := l14 hB
  have v1 : vp_in (nI i + 1) L := vin_k 1 _ rfl (by omega) hL
  rw [T_L_case34]
  exact ⟨v1, (Ah.ay (Ag.ah (ag_halves h _))) _ (fun r M1 k2 => ⟨v1, k2 _ (fun M2 hI => ⟨fun _ => b M2 hI, fun z => absurd rfl z⟩)⟩)⟩
theorem lc_35 {N L i : Nat} {M : Mm} {xs : Nat → Int32} {B : Int32 → Mm → Prop} (h : Inv N M) (hN : N < 800000) (hi : i + 6 ≤ L) (hL : L ≤ 3072) (hB : ∀ M2, Inv (N + 1000) M2 → B (nI i + 6) M2) : T_L_case35 B L xs (nI i) M := by
  have b := l14 hB
  have v1 : vp_in (nI i + 1) L := vin_k 1 _ rfl (by omega) hL
  rw [T_L_case35]
  exact ⟨v1, (Ah.ay (Ag.ah (ag_game h _))) _ (fun r M1 k2 => ⟨v1, k2 _ (fun M2 hI => ⟨fun _ => b M2 hI, fun z => absurd rfl z⟩)⟩)⟩
theorem lc_36 {N L i : Nat} {M : Mm} {xs : Nat → Int32} {B : Int32 → Mm → Prop} (h : Inv N M) (hN : N < 800000) (hi : i + 6 ≤ L) (hL : L ≤ 3072) (hB : ∀ M2, Inv (N + 1000) M2 → B (nI i + 6) M2) : T_L_case36 B L xs (nI i) M := by
  have b := l14 hB
  rw [T_L_case36]
  exact (Ah.ay (ah_undo h)) _ (fun r M1 k2 => k2 _ (fun M2 hI => ⟨fun _ => b M2 hI, fun z => absurd rfl z⟩))
theorem lc_37 {N L i : Nat} {M : Mm} {xs : Nat → Int32} {B : Int32 → Mm → Prop} (h : Inv N M) (hN : N < 800000) (hi : i + 6 ≤ L) (hL : L ≤ 3072) (hB : ∀ M2, Inv (N + 1000) M2 → B (nI i + 6) M2) : T_L_case37 B L xs (nI i) M := by
  have b := l14 hB
  have v1 : vp_in (nI i + 1) L := vin_k 1 _ rfl (by omega) hL
  rw [T_L_case37]
  exact ⟨v1, fun c => (ay_image h 0 (Or.inl rfl)) _ (fun r M1 k2 => ⟨v1, fun _ => k2 _ (fun M2 hI => ⟨fun _ => b M2 hI, fun z => absurd rfl z⟩), fun z => absurd c z⟩), fun c => (ay_image h 1 (Or.inr rfl)) _ (fun r M1 k2 => ⟨v1, fun z => absurd z c, fun _ => k2 _ (fun M2 hI => ⟨fun _ => b M2 hI, fun z => absurd rfl z⟩)⟩)⟩
theorem lc_38 {N L i : Nat} {M : Mm} {xs : Nat → Int32} {B : Int32 → Mm → Prop} (h : Inv N M) (hN : N < 800000) (hi : i + 6 ≤ L) (hL : L ≤ 3072) (hB : ∀ M2, Inv (N + 1000) M2 → B (nI i + 6) M2) : T_L_case38 B L xs (nI i) M := by
  have b := l14 hB
  have v1 : vp_in (nI i + 1) L := vin_k 1 _ rfl (by omega) hL
  rw [T_L_case38]
  exact ⟨v1, (Ah.ay (Ag.ah (ag_look h _))) _ (fun r M1 k2 => ⟨v1, k2 _ (fun M2 hI => ⟨fun _ => b M2 hI, fun z => absurd rfl z⟩)⟩)⟩
theorem six_le {L i : Nat} (hL : L ≤ 3072) (hi : i < 100000) (h : ¬ (nI L) - (6 : Int32) < nI i) : i + 6 ≤ L := by
  by_cases c : 6 ≤ L
  · have e : (nI L) - (6 : Int32) = nI (L - 6) := pk_sub (b := 6) c
    rw [e] at h
    by_cases c2 : i + 6 ≤ L
    · exact c2
    · exact absurd (nI_lt (by omega) (by omega)) h
  · exfalso
    refine h ?_
    have h0 : (nI L) - (6 : Int32) < 0 := by
      rcases (by omega : L = 0 ∨ L = 1 ∨ L = 2 ∨ L = 3 ∨ L = 4 ∨ L = 5) with rfl | rfl | rfl | rfl | rfl | rfl <;> decide
    have h1 : (0 : Int32) ≤ nI i := nI_pos' (by omega)
    rw [Int32.lt_iff_toInt_lt] at h0 ⊢
    rw [Int32.le_iff_toInt_le] at h1
    omega
theorem law_go (ht : TX) {L : Nat} {xs : Nat → Int32} (hL : L ≤ 3072) : ∀ m c f M, L < 6 * c + 6 * m + 6 → m < f → Inv (1000 * c) M → 6 * c ≤ 4000 → T_L_law_18 L xs f (nI (6 * c)) M := by
  intro m
  induction m with
  | zero =>
    intro c f M hm hf h hc
    obtain ⟨f, rfl⟩ : ∃ g, f = g + 1 := ⟨f - 1, by omega⟩
    rw [T_L_law_18]
    refine ⟨fun _ => trivial, fun z => ?_⟩
    have := six_le hL (by omega) z
    omega
  | succ m ih =>
    intro c f M hm hf h hc
    obtain ⟨f, rfl⟩ : ∃ g, f = g + 1 := ⟨f - 1, by omega⟩
    rw [T_L_law_18]
    refine ⟨fun _ => trivial, fun z => ?_⟩
    have hi : 6 * c + 6 ≤ L := six_le hL (by omega) z
    have hN : 1000 * c < 800000 := by omega
    have hB : ∀ M2, Inv (1000 * c + 1000) M2 → T_L_law_18 L xs f (nI (6 * c) + 6) M2 := by
      intro M2 h2
      have e : nI (6 * c) + 6 = nI (6 * (c + 1)) := by
        rw [show 6 * (c + 1) = 6 * c + 6 by omega]
        exact nI_add (6 * c) 6
      rw [e]
      refine ih (c + 1) f M2 (by omega) (by omega) ?_ (by omega)
      rw [show 1000 * (c + 1) = 1000 * c + 1000 by omega]
      exact h2
    refine ⟨vp_in_nI (by omega) (by omega), ?_⟩
    refine ⟨fun _ => lc_0 h hN hi hL hB, fun _ => ?_⟩
    refine ⟨fun _ => lc_1 h hN hi hL hB, fun _ => ?_⟩
    refine ⟨fun _ => lc_2 h hN hi hL hB, fun _ => ?_⟩
    refine ⟨fun _ => lc_3 h hN hi hL hB, fun _ => ?_⟩
    refine ⟨fun _ => lc_4 h hN hi hL hB, fun _ => ?_⟩
    refine ⟨fun _ => lc_5 h hN hi hL hB, fun _ => ?_⟩
    refine ⟨fun _ => lc_6 h hN hi hL hB, fun _ => ?_⟩
    refine ⟨fun _ => lc_7 h hN hi hL hB, fun _ => ?_⟩
    refine ⟨fun _ => lc_8 h hN hi hL hB, fun _ => ?_⟩
    refine ⟨fun _ => lc_9 h hN hi hL hB, fun _ => ?_⟩
    refine ⟨fun _ => lc_10 h hN hi hL hB, fun _ => ?_⟩
    refine ⟨fun _ => lc_11 ht h hN hi hL hB, fun _ => ?_⟩
    refine ⟨fun _ => lc_12 h hN hi hL hB, fun _ => ?_⟩
    refine ⟨fun _ => lc_13 h hN hi hL hB, fun _ => ?_⟩
    refine ⟨fun _ => lc_14 h hN hi hL hB, fun _ => ?_⟩
    refine ⟨fun _ => lc_15 h hN hi hL hB, fun _ => ?_⟩
    refine ⟨fun _ => lc_16 h hN hi hL hB, fun _ => ?_⟩
    refine ⟨fun _ => lc_17 h hN hi hL hB, fun _ => ?_⟩
    refine ⟨fun _ => lc_18 h hN hi hL hB, fun _ => ?_⟩
    refine ⟨fun _ => lc_19 h hN hi hL hB, fun _ => ?_⟩
    refine ⟨fun _ => lc_20 h hN hi hL hB, fun _ => ?_⟩
    refine ⟨fun _ => lc_21 h hN hi hL hB, fun _ => ?_⟩
    refine ⟨fun _ => lc_22 h hN hi hL hB, fun _ => ?_⟩
    refine ⟨fun _ => lc_23 h hN hi hL hB, fun _ => ?_⟩
    refine ⟨fun _ => lc_24 h hN hi hL hB, fun _ => ?_⟩
    refine ⟨fun _ => lc_25 h hN hi hL hB, fun _ => ?_⟩
    refine ⟨fun _ => lc_26 h hN hi hL hB, fun _ => ?_⟩
    refine ⟨fun _ => lc_27 h hN hi hL hB, fun _ => ?_⟩
    refine ⟨fun _ => lc_28 h hN hi hL hB, fun _ => ?_⟩
    refine ⟨fun _ => lc_29 h hN hi hL hB, fun _ => ?_⟩
    refine ⟨fun _ => lc_30 h hN hi hL hB, fun _ => ?_⟩
    refine ⟨fun _ => lc_31 h hN hi hL hB, fun _ => ?_⟩
    refine ⟨fun _ => lc_32 h hN hi hL hB, fun _ => ?_⟩
    refine ⟨fun _ => lc_33 h hN hi hL hB, fun _ => ?_⟩
    refine ⟨fun _ => lc_34 h hN hi hL hB, fun _ => ?_⟩
    refine ⟨fun _ => lc_35 h hN hi hL hB, fun _ => ?_⟩
    refine ⟨fun _ => lc_36 h hN hi hL hB, fun _ => ?_⟩
    refine ⟨fun _ => lc_37 h hN hi hL hB, fun _ => ?_⟩
    refine ⟨fun _ => lc_38 h hN hi hL hB, fun _ => ?_⟩
    exact l14 hB M (Inv.mono h (by omega))
theorem law_pure (ht : TX) (h0 : Inv 0 M0) : ∀ (L : Nat) (xs : Nat → Int32), L ≤ 3072 → T_L_law_18 L xs 5000 0 M0 := by
  intro L xs hL
  have := law_go ht (xs := xs) hL 600 0 5000 M0 (by omega) (by omega) h0 (by omega)
  exact this
