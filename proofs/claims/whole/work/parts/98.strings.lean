/-! strings: each_v set of lengths, class cut_v, model strung -/
theorem hasM {s k : Nat} {M : Mm} {K : Int32 → Mm → Prop} (hs : s < 2 ^ 31) (hk : k < 32) (h1 : s / 2 ^ k % 2 = 1 → K 1 M) (h0 : ¬ s / 2 ^ k % 2 = 1 → K 0 M) : T_X12_has (nI s) (nI k) M K := by
  rw [T_X12_has, bit_c hs hk]
  exact pk_eq (s / 2 ^ k % 2) 1 h1 h0
theorem st_c : ∀ s, s < 512 → ∀ k, k < 9 → s / 2 ^ k % 2 = 1 → nI s ^^^ nI (2 ^ k) = nI (s - 2 ^ k) ∧ nI s &&& (nI (2 ^ k) ^^^ -1) = nI (s - 2 ^ k) ∧ pcn (s - 2 ^ k) + 1 = pcn s ∧ 2 ^ k ≤ s := by decide +kernel
theorem st_e : ∀ s, s < 512 → 1 ≤ s → ∃ k, k < 9 ∧ s / 2 ^ k % 2 = 1 := by decide +kernel
theorem st_p : ∀ s, s < 512 → pcn s ≤ 9 := by decide +kernel
/-- one length more_v behind_v v; v below_v 100: no string_v yet -/
def cdt (c p v : Nat) : Nat := if v < 100 then 100 + p else if c < v % 100 + p then 100 * (v / 100) + 100 + p else v + p
theorem cdt_c {c p v : Nat} {x : Int32} {M : Mm} {K : Int32 → Mm → Prop} (hc : c ≤ 99) (hp1 : 1 ≤ p) (hp : p ≤ 60) (hv : (v < 100 ∧ x = nI c) ∨ (100 ≤ v ∧ v ≤ 1000 ∧ x = nI v)) (hK : K (nI (cdt c p v)) M) : T_X8_cutOne x (nI p) (nI c) M K := by
  rw [T_X8_cutOne]
  rcases hv with ⟨h1, rfl⟩ | ⟨h1, h2, rfl⟩
  · have e : nI c - nI c / 100 * 100 = nI c := by
      rw [show (100 : Int32) = nI 100 from rfl, pk_rem (by omega) (by omega) (by decide), Nat.mod_eq_of_lt (by omega)]
    rw [e]
    intro y1 e1
    subst e1
    rw [nI_add]
    refine pk_lt c (c + p) (fun _ => ?_) (fun h => absurd h (by omega))
    have e2 : nI c - nI c + 100 + nI p = nI (100 + p) := by
      rw [pk_sub (Nat.le_refl c), Nat.sub_self, show (100 : Int32) = nI 100 from rfl, nI_add, nI_add, Nat.zero_add]
    rw [e2]
    unfold cdt at hK
    rw [if_pos h1] at hK
    exact hK
  · have e : nI v - nI v / 100 * 100 = nI (v % 100) := by
      rw [show (100 : Int32) = nI 100 from rfl, pk_rem (by omega) (by omega) (by decide)]
    rw [e]
    intro y1 e1
    subst e1
    rw [nI_add]
    unfold cdt at hK
    rw [if_neg (by omega)] at hK
    refine pk_lt c (v % 100 + p) (fun h => ?_) (fun h => ?_)
    · have e2 : nI v - nI (v % 100) + 100 + nI p = nI (100 * (v / 100) + 100 + p) := by
        rw [pk_sub (Nat.mod_le _ _), show (100 : Int32) = nI 100 from rfl, nI_add, nI_add]
        congr 1; omega
      rw [if_pos h] at hK
      rw [e2]; exact hK
    · rw [if_neg (by omega)] at hK
      rw [nI_add]; exact hK
theorem cdt_m {c p v : Nat} {x : Int32} {M : Mm} {K : Int32 → Mm → Prop} (hc : c ≤ 99) (hp1 : 1 ≤ p) (hp : p ≤ 60) (hv : (v < 100 ∧ x = 0) ∨ (100 ≤ v ∧ v ≤ 1000 ∧ x = nI v)) (hK : K (nI (cdt c p v)) M) : T_X12_withLength x (nI p) (nI c) M K := by
  rw [T_X12_withLength]
  rcases hv with ⟨h1, rfl⟩ | ⟨h1, h2, rfl⟩
  · intro y1 e1 y2 e2
    have z : y1 = 0 := by rw [e1]; decide
    refine ⟨fun _ => ?_, fun z2 => absurd (by rw [z]; decide) z2⟩
    rw [T_X12_withLength_38, z]
    unfold cdt at hK
    rw [if_pos h1] at hK
    have e3 : (100 : Int32) * (0 + 1) + nI p = nI (100 + p) := by
      rw [show (100 : Int32) * (0 + 1) = nI 100 from rfl, nI_add]
    rw [e3]; exact hK
  · have e : nI v - nI v / 100 * 100 = nI (v % 100) := by
      rw [show (100 : Int32) = nI 100 from rfl, pk_rem (by omega) (by omega) (by decide)]
    have ed : nI v / 100 = nI (v / 100) := by
      rw [show (100 : Int32) = nI 100 from rfl, pk_div (by omega) (by omega) (by decide)]
    rw [e, ed]
    intro y1 e1 y2 e2
    subst e1 e2
    rw [nI_add]
    unfold cdt at hK
    rw [if_neg (by omega)] at hK
    refine ⟨fun z => absurd z (nI_nle (by omega) (by omega)), fun _ => pk_lt c (v % 100 + p) (fun h => ?_) (fun h => ?_)⟩
    · rw [if_pos h] at hK
      rw [T_X12_withLength_38]
      have e3 : (100 : Int32) * (nI (v / 100) + 1) + nI p = nI (100 * (v / 100) + 100 + p) := by
        rw [nI_1, show (100 : Int32) = nI 100 from rfl, pk_mul, nI_add]
        congr 1
      rw [e3]; exact hK
    · rw [if_neg (by omega)] at hK
      have e3 : (100 : Int32) * nI (v / 100) + nI (v % 100) + nI p = nI (v + p) := by
        rw [show (100 : Int32) = nI 100 from rfl, pk_mul, nI_add, nI_add]
        congr 1; omega
      rw [e3]; exact hK
theorem cdt_b {c p v n : Nat} (hc : c ≤ 99) (hp1 : 1 ≤ p) (hp : p ≤ 60) (hv : v ≤ 100 * n + 99) : 100 ≤ cdt c p v ∧ cdt c p v ≤ 100 * (n + 1) + 99 := by
  unfold cdt
  split
  · omega
  · split <;> omega
/-- class and model up to set m -/
def CR (c m : Nat) (X Y : Mm) : Prop := X 155 0 = nI c ∧ Y 189 0 = 0 ∧ ∀ s, 1 ≤ s → s < m → ∃ v, 100 ≤ v ∧ v ≤ 100 * pcn s + 99 ∧ X 155 s = nI v ∧ Y 189 s = nI v
theorem CR.at {c m : Nat} {X Y : Mm} (h : CR c m X Y) {t : Nat} (ht : t < m) (hm : m ≤ 512) : ∃ v, v ≤ 100 * pcn t + 99 ∧ ((v < 100 ∧ X 155 t = nI c) ∨ (100 ≤ v ∧ v ≤ 1000 ∧ X 155 t = nI v)) ∧ ((v < 100 ∧ Y 189 t = 0) ∨ (100 ≤ v ∧ v ≤ 1000 ∧ Y 189 t = nI v)) := by
  rcases Nat.eq_zero_or_pos t with z | z
  · subst z
    exact ⟨0, by omega, Or.inl ⟨by omega, h.1⟩, Or.inl ⟨by omega, h.2.1⟩⟩
  · obtain ⟨v, h1, h2, h3, h4⟩ := h.2.2 t z ht
    have := st_p t (by omega)
    exact ⟨v, h2, Or.inr ⟨h1, by omega, h3⟩, Or.inr ⟨h1, by omega, h4⟩⟩
set_option maxHeartbeats 2000000 in
theorem cut_in {c n s : Nat} {L : Nat → Nat} {X : Mm} (hc : c ≤ 99) (hn : n ≤ 9) (hs1 : 1 ≤ s) (hs : s < 2 ^ n) (hL : ∀ k, k < n → 1 ≤ L k ∧ L k ≤ 60 ∧ X 32 k = nI (L k)) : ∀ m k Y x5, k + m = n → CR c s X Y → Y 159 53 = nI n → (∀ k, k < n → Y 188 k = nI (L k)) → (((∀ j, j < k → ¬ s / 2 ^ j % 2 = 1) ∧ x5 = 1000 ∧ Y 189 s = 100000000) ∨ ∃ v, 100 ≤ v ∧ v ≤ 100 * pcn s + 99 ∧ x5 = nI v ∧ Y 189 s = nI v) →
    ∃ v Y', 100 ≤ v ∧ v ≤ 100 * pcn s + 99 ∧ (∀ (Z : Mm) (K : Int32 → Mm → Prop) (B : Int32 → Int32 → Int32 → Mm → Prop) (f : Nat), m < f → B (nI c) (nI n) (nI (s + 1)) (jn (m_up X 155 s (nI v)) Z) → T_X8_fewestStrings_36 B 30 f (nI c) (nI n) (nI s) x5 (nI k) (jn X Z) K) ∧ (∀ (Z : Mm) (K : Int32 → Mm → Prop) (B : Int32 → Int32 → Mm → Prop) (f : Nat), m < f → B (nI c) (nI (s + 1)) (jn Z Y') → T_X12_stringsOf_30 B f (nI c) (nI s) (nI k) (jn Z Y) K) ∧ Y' 189 s = nI v ∧ (∀ a j, ¬ (a = 189 ∧ j = s) → Y' a j = Y a j) := by
  have hp : 2 ^ n ≤ 2 ^ 9 := Nat.pow_le_pow_right (by omega) hn
  have hs5 : s < 512 := by omega
  have r32 : rf 30 1 = 32 := by decide
  have vs : vp_in (nI s) 512 := vp_in_nI (by omega) (by decide)
  have cs : (nI s).toNatClampNeg = s := nI_clamp (by omega)
  intro m
  induction m with
  | zero =>
    intro k Y x5 hkm hR hy hY hx
    have e : k = n := by omega
    subst e
    obtain ⟨v, h1, h2, h3, h4⟩ : ∃ v, 100 ≤ v ∧ v ≤ 100 * pcn s + 99 ∧ x5 = nI v ∧ Y 189 s = nI v := by
      rcases hx with ⟨g, -⟩ | g
      · obtain ⟨j, hj, ej⟩ := st_e s hs5 hs1
        have := (st_c s hs5 j hj ej).2.2.2
        have hjk : j < k := Nat.not_le.mp fun z => by
          have := Nat.pow_le_pow_right (n := 2) (by omega) z
          omega
        exact absurd ej (g j hjk)
      · exact g
    refine ⟨v, Y, h1, h2, fun Z K B f hf q => ?_, fun Z K B f hf q => ?_, h4, fun _ _ _ => rfl⟩
    · obtain ⟨f, rfl⟩ : ∃ g, f = g + 1 := ⟨f - 1, by omega⟩
      rw [T_X8_fewestStrings_36, cs]
      refine pk_le k k (fun _ => ⟨vs, fun M3 e3 y5 e5 => ?_⟩) (fun z => absurd z (by omega))
      rw [e3, e5, h3, nI_1, jn_upl (by omega)]
      exact q
    · obtain ⟨f, rfl⟩ : ∃ g, f = g + 1 := ⟨f - 1, by omega⟩
      rw [T_X12_stringsOf_30, jh 53 (by omega), hy]
      refine pk_le k k (fun _ y3 e3 => ?_) (fun z => absurd z (by omega))
      rw [e3, nI_1]
      exact q
  | succ m ih =>
    intro k Y x5 hkm hR hy hY hx
    have vk : vp_in (nI k) 9 := vp_in_nI (by omega) (by decide)
    have ck : (nI k).toNatClampNeg = k := nI_clamp (by omega)
    by_cases bt' : s / 2 ^ k % 2 = 1
    · obtain ⟨w1, w2, w3, w4⟩ := st_c s hs5 k (by omega) bt'
      have hpk : 0 < 2 ^ k := Nat.two_pow_pos k
      obtain ⟨v, hv, hvx, hvy⟩ := hR.at (t := s - 2 ^ k) (by omega) (by omega)
      obtain ⟨l1, l2, l3⟩ := hL k (by omega)
      obtain ⟨b1, b2⟩ := cdt_b (c := c) (p := L k) (v := v) (n := pcn (s - 2 ^ k)) hc l1 l2 hv
      rw [w3] at b2
      have h9 := st_p s hs5
      have vq : vp_in (nI (s - 2 ^ k)) 512 := vp_in_nI (by omega) (by decide)
      have cq : (nI (s - 2 ^ k)).toNatClampNeg = s - 2 ^ k := nI_clamp (by omega)
      -- the better one on both_v sides
      obtain ⟨u, u1, u2, u3, u4⟩ : ∃ u, 100 ≤ u ∧ u ≤ 100 * pcn s + 99 ∧ (if nI (cdt c (L k) v) < x5 then nI (cdt c (L k) v) else x5) = nI u ∧ (if Y 189 s < nI (cdt c (L k) v) then Y 189 s else nI (cdt c (L k) v)) = nI u := by
        rcases hx with ⟨-, g2, g3⟩ | ⟨u, g1, g2, g3, g4⟩
        · refine ⟨cdt c (L k) v, b1, b2, ?_, ?_⟩
          · rw [g2, if_pos (show nI (cdt c (L k) v) < 1000 from nI_lt (b := 1000) (by omega) (by decide))]
          · rw [g3, if_neg (show ¬ (100000000 : Int32) < nI (cdt c (L k) v) from nI_nlt (a := 100000000) (by omega) (by decide))]
        · rw [g3, g4]
          by_cases cc : cdt c (L k) v < u
          · exact ⟨cdt c (L k) v, b1, b2, by rw [if_pos (nI_lt cc (by omega))], by rw [if_neg (nI_nlt (by omega) (by omega))]⟩
          · refine ⟨u, g1, g2, by rw [if_neg (nI_nlt (by omega) (by omega))], ?_⟩
            by_cases ce : u = cdt c (L k) v
            · rw [← ce]; exact ite_self _
            · rw [if_pos (nI_lt (by omega) (by omega))]
      obtain ⟨v', Y', i1, i2, i3, i4, i5, i6⟩ := ih (k + 1) (m_up Y 189 s (nI u)) (nI u) (by omega) ⟨hR.1, by rw [mu, if_neg (by omega)]; exact hR.2.1, fun t t1 t2 => by rw [mu, if_neg (by omega)]; exact hR.2.2 t t1 t2⟩ (by rw [mu, if_neg (by omega)]; exact hy) (fun j hj => by rw [m_up_ne (by omega)]; exact hY j hj) (Or.inr ⟨u, u1, u2, rfl, by rw [mu, if_pos ⟨rfl, rfl⟩]⟩)
      refine ⟨v', Y', i1, i2, fun Z K B f hf q => ?_, fun Z K B f hf q => ?_, i5, fun a j h => by rw [i6 a j h, mu, if_neg h]⟩
      · obtain ⟨f, rfl⟩ : ∃ g, f = g + 1 := ⟨f - 1, by omega⟩
        rw [T_X8_fewestStrings_36, bit_c (by omega) (by omega), shl_c (by omega), w1, cq, r32, ck, jl _ (by omega), jl _ (by omega), l3]
        refine pk_le n k (fun z => absurd z (by omega)) (fun _ => pk_eq (s / 2 ^ k % 2) 1 (fun _ => ⟨vq, vk, cdt_c hc l1 l2 hvx (fun y12 e12 => ?_)⟩) (fun z => absurd bt' z))
        rw [T_X8_fewestStrings_84]
        intro y1 e1
        rw [e1, e12, u3, nI_1]
        exact i3 Z K B f (by omega) q
      · obtain ⟨f, rfl⟩ : ∃ g, f = g + 1 := ⟨f - 1, by omega⟩
        rw [T_X12_stringsOf_30, jh 53 (by omega), hy]
        refine pk_le n k (fun z => absurd z (by omega)) (fun _ => hasM (by omega) (by omega) (fun _ => ⟨fun z => absurd z (by decide), fun _ => ?_⟩) (fun z => absurd bt' z))
        rw [shl_c (by omega), w2, cq, cs, ck, jh _ (by omega), jh _ (by omega), jh _ (by omega), hY k (by omega)]
        refine ⟨vs, vq, vk, cdt_m hc l1 l2 hvy (lesserM_ok ⟨vs, fun M17 e17 => ?_⟩)⟩
        rw [T_X12_stringsOf_86]
        intro y1 e1
        rw [e1, e17, u4, nI_1, jn_uph (by omega)]
        exact i4 Z K B f (by omega) q
    · obtain ⟨v', Y', i1, i2, i3, i4, i5, i6⟩ := ih (k + 1) Y x5 (by omega) hR hy hY (by
        rcases hx with ⟨g1, g2, g3⟩ | g
        · refine Or.inl ⟨fun j hj => ?_, g2, g3⟩
          by_cases cj : j = k
          · rw [cj]; exact bt'
          · exact g1 j (by omega)
        · exact Or.inr g)
      refine ⟨v', Y', i1, i2, fun Z K B f hf q => ?_, fun Z K B f hf q => ?_, i5, i6⟩
      · obtain ⟨f, rfl⟩ : ∃ g, f = g + 1 := ⟨f - 1, by omega⟩
        rw [T_X8_fewestStrings_36, bit_c (by omega) (by omega)]
        refine pk_le n k (fun z => absurd z (by omega)) (fun _ => pk_eq (s / 2 ^ k % 2) 1 (fun z => absurd z bt') (fun _ => ?_))
        rw [T_X8_fewestStrings_84]
        intro y1 e1
        rw [e1, nI_1]
        exact i3 Z K B f (by omega) q
      · obtain ⟨f, rfl⟩ : ∃ g, f = g + 1 := ⟨f - 1, by omega⟩
        rw [T_X12_stringsOf_30, jh 53 (by omega), hy]
        refine pk_le n k (fun z => absurd z (by omega)) (fun _ => hasM (by omega) (by omega) (fun z => absurd z bt') (fun _ => ⟨fun _ => ?_, fun z => absurd rfl z⟩))
        rw [T_X12_stringsOf_86]
        intro y1 e1
        rw [e1, nI_1]
        exact i4 Z K B f (by omega) q
set_option maxHeartbeats 1000000 in
theorem cut_out {c n : Nat} {L : Nat → Nat} (hc : c ≤ 99) (hn : n ≤ 9) : ∀ m s X Y, s + m = 2 ^ n → 1 ≤ s → (∀ k, k < n → 1 ≤ L k ∧ L k ≤ 60 ∧ X 32 k = nI (L k)) → CR c s X Y → Y 159 53 = nI n → (∀ k, k < n → Y 188 k = nI (L k)) →
    ∃ r X' Y', (∀ (Z : Mm) (K : Int32 → Mm → Prop) (f : Nat), m < f → K r (jn X' Z) → T_X8_fewestStrings_20 30 f (nI c) (nI n) (nI s) (jn X Z) K) ∧ (∀ (Z : Mm) (K : Int32 → Mm → Prop) (f : Nat), m < f → K r (jn Z Y') → T_X12_stringsOf_9 f (nI c) (nI s) (jn Z Y) K) ∧ (∀ a, a ≠ 155 → X' a = X a) ∧ (∀ a, a ≠ 189 → Y' a = Y a) := by
  have hp : 2 ^ n ≤ 2 ^ 9 := Nat.pow_le_pow_right (by omega) hn
  have hp1 : 1 ≤ 2 ^ n := Nat.two_pow_pos n
  have hsub : nI (2 ^ n) - 1 = nI (2 ^ n - 1) := by rw [show (1 : Int32) = nI 1 from rfl, pk_sub hp1]
  intro m
  induction m with
  | zero =>
    intro s X Y hsm hs1 hL hR hy hY
    have e : s = 2 ^ n := by omega
    subst e
    obtain ⟨r, hr1, hr2⟩ : ∃ r : Int32, X 155 (2 ^ n - 1) / 100 = r ∧ Y 189 (2 ^ n - 1) / 100 = r := by
      rcases Nat.eq_zero_or_pos (2 ^ n - 1) with z | z
      · rw [z, hR.1, hR.2.1]
        refine ⟨0, ?_, by decide⟩
        rw [show (100 : Int32) = nI 100 from rfl, pk_div (by omega) (by omega) (by decide), Nat.div_eq_of_lt (by omega)]
        rfl
      · obtain ⟨v, -, -, h3, h4⟩ := hR.2.2 (2 ^ n - 1) z (by omega)
        exact ⟨_, rfl, by rw [h3, h4]⟩
    refine ⟨r, X, Y, fun Z K f hf q => ?_, fun Z K f hf q => ?_, fun _ _ => rfl, fun _ _ => rfl⟩
    · obtain ⟨f, rfl⟩ : ∃ g, f = g + 1 := ⟨f - 1, by omega⟩
      rw [T_X8_fewestStrings_20, shl_c (by omega), hsub, nI_clamp (n := 2 ^ n - 1) (by omega), jl _ (by omega), hr1]
      exact pk_le (2 ^ n) (2 ^ n) (fun _ => ⟨vp_in_nI (by omega) (by decide), q⟩) (fun z => absurd z (by omega))
    · obtain ⟨f, rfl⟩ : ∃ g, f = g + 1 := ⟨f - 1, by omega⟩
      rw [T_X12_stringsOf_9, jh 53 (by omega), hy, shl_c (by omega), hsub, nI_clamp (n := 2 ^ n - 1) (by omega), jh _ (by omega), hr2]
      exact pk_le (2 ^ n) (2 ^ n) (fun _ => ⟨vp_in_nI (by omega) (by decide), q⟩) (fun z => absurd z (by omega))
  | succ m ih =>
    intro s X Y hsm hs1 hL hR hy hY
    obtain ⟨v, Y1, h1, h2, h3, h4, h5, h6⟩ := cut_in hc hn hs1 (by omega) hL n 0 (m_up Y 189 s 100000000) 1000 (by omega) ⟨hR.1, by rw [mu, if_neg (by omega)]; exact hR.2.1, fun t t1 t2 => by rw [mu, if_neg (by omega)]; exact hR.2.2 t t1 t2⟩ (by rw [mu, if_neg (by omega)]; exact hy) (fun j hj => by rw [m_up_ne (by omega)]; exact hY j hj) (Or.inl ⟨fun j hj => absurd hj (by omega), rfl, by rw [mu, if_pos ⟨rfl, rfl⟩]⟩)
    have Y1n : ∀ a j, ¬ (a = 189 ∧ j = s) → Y1 a j = Y a j := fun a j h => by rw [h6 a j h, mu, if_neg h]
    obtain ⟨r, X', Y', i1, i2, i3, i4⟩ := ih (s + 1) (m_up X 155 s (nI v)) Y1 (by omega) (by omega) (fun k hk => by rw [m_up_ne (by omega)]; exact hL k hk) ⟨by rw [mu, if_neg (by omega)]; exact hR.1, by rw [Y1n 189 0 (by omega)]; exact hR.2.1, fun t t1 t2 => by
      by_cases ct : t = s
      · subst ct
        exact ⟨v, h1, h2, by rw [mu, if_pos ⟨rfl, rfl⟩], h5⟩
      · rw [mu, if_neg (by omega), Y1n 189 t (by omega)]
        exact hR.2.2 t t1 (by omega)⟩ (by rw [Y1n 159 53 (by omega)]; exact hy) (fun j hj => by rw [Y1n 188 j (by omega)]; exact hY j hj)
    refine ⟨r, X', Y', fun Z K f hf q => ?_, fun Z K f hf q => ?_, fun a h => by rw [i3 a h, m_up_ne h], fun a h => by rw [i4 a h]; exact funext fun j => Y1n a j (fun w => h w.1)⟩
    · obtain ⟨f, rfl⟩ : ∃ g, f = g + 1 := ⟨f - 1, by omega⟩
      rw [T_X8_fewestStrings_20, shl_c (by omega)]
      exact pk_le (2 ^ n) s (fun z => absurd z (by omega)) (fun _ => h3 Z K _ 5000 (by omega) (i1 Z K f (by omega) q))
    · obtain ⟨f, rfl⟩ : ∃ g, f = g + 1 := ⟨f - 1, by omega⟩
      rw [T_X12_stringsOf_9, jh 53 (by omega), hy, shl_c (by omega), nI_clamp (n := s) (by omega)]
      refine pk_le (2 ^ n) s (fun z => absurd z (by omega)) (fun _ => ⟨vp_in_nI (by omega) (by decide), fun M21 e21 => ?_⟩)
      rw [e21, jn_uph (by omega)]
      exact h4 Z K _ 5000 (by omega) (i2 Z K f (by omega) q)
set_option maxHeartbeats 1000000 in
theorem ah_strings {N : Nat} {M : Mm} (h : Inv N M) (x y : Int32) : Ah (T_X11_strings x y) (T_X12_strings x y) N M := by
  have hf := h.t0 (x := 0)
  obtain ⟨np, nb, ⟨-, -, -, -, -, hT⟩, -, -⟩ := id h
  obtain ⟨-, ⟨e1, ⟨n, hn, en⟩, t3⟩, -⟩ := hT
  have en : M 30 9 = nI n := en
  have en2 : M 159 53 = nI n := e1.trans en
  by_cases cx : (1 : Int32) ≤ x ∧ x ≤ 99
  rotate_left
  · exact Ag.ah ⟨-1, M, _, fun K q => by simpa [T_X11_strings, iw_neg cx] using q, fun K q => by simpa [T_X12_strings, ii_neg cx] using q, hf⟩
  by_cases cy : (0 : Int32) ≤ y ∧ y ≤ 1
  rotate_left
  · exact Ag.ah ⟨-1, M, _, fun K q => by simpa [T_X11_strings, iw_pos cx, iw_neg cy] using q, fun K q => by simpa [T_X12_strings, ii_pos cx, ii_neg cy] using q, hf⟩
  obtain ⟨c, hc1, hc, rfl⟩ := rng (a := 1) (b := 99) (by decide) (by decide) cx
  have hLx : ∀ k, k < n → 1 ≤ (M 32 k).toNatClampNeg ∧ (M 32 k).toNatClampNeg ≤ 60 ∧ M 32 k = nI (M 32 k).toNatClampNeg := fun k hk => by
    obtain ⟨t1, ⟨l, l1, l2⟩, t2⟩ := t3 k (by omega)
    have l2 : M 32 k = nI l := l2
    have l0 : l ≠ 0 := fun z => t2 (by show nI k < M 30 9; rw [en]; exact nI_lt (by omega) (by omega)) (by show M 32 k = 0; rw [l2, z]; rfl)
    rw [l2, nI_clamp (by omega)]
    exact ⟨by omega, l1, rfl⟩
  have hLy : ∀ k, k < n → m_up M 159 0 0 188 k = nI (M 32 k).toNatClampNeg := fun k hk => by
    rw [m_up_ne (by omega), ← (hLx k hk).2.2]
    exact (t3 k (by omega)).1
  obtain ⟨r, X', Y', i1, i2, i3, i4⟩ := cut_out (n := n) (L := fun k => (M 32 k).toNatClampNeg) hc hn (2 ^ n - 1) 1 (m_up M 155 0 (nI c)) (m_up (m_up M 159 0 0) 189 0 0) (by have := Nat.two_pow_pos n; omega) (by omega) (fun k hk => by rw [m_up_ne (by omega)]; exact hLx k hk) ⟨by rw [mu, if_pos ⟨rfl, rfl⟩], by rw [mu, if_pos ⟨rfl, rfl⟩], fun s s1 s2 => absurd s2 (by omega)⟩ (by rw [mu, if_neg (by omega), mu, if_neg (by omega)]; exact en2) (fun k hk => by rw [m_up_ne (by omega)]; exact hLy k hk)
  have hp : 2 ^ n ≤ 2 ^ 9 := Nat.pow_le_pow_right (by omega) hn
  have fr2 : fr M (jn X' Y') := by
    intro a j hfa
    have h1 : a ≠ 155 := fun w => by rw [w] at hfa; cases hfa
    have h2 : a ≠ 189 := fun w => by rw [w] at hfa; cases hfa
    by_cases ha : a < 159
    · rw [jl j ha, i3 a h1, m_up_ne h1]
    · rw [jh j (by omega), i4 a h2, m_up_ne h2, mu, if_neg (fun w => by rw [w.1, w.2] at hfa; cases hfa)]
  have fC : ∀ (Z : Mm) (K : Int32 → Mm → Prop), K r (jn X' Z) → T_X8_fewestStrings 30 (nI c) (jn M Z) K := by
    intro Z K q
    rw [T_X8_fewestStrings, jl 9 (by omega), en, if_neg (show ¬ (9 : Int32) < nI n from nI_nlt (a := 9) hn (by decide))]
    intro y15 e15 M16 e16
    rw [e15, e16, jn_upl (by omega)]
    exact i1 Z K 5000 (by omega) q
  have fM : ∀ (Z : Mm) (K : Int32 → Mm → Prop), K r (jn Z Y') → T_X12_stringsOf (nI c) (jn Z (m_up M 159 0 0)) K := by
    intro Z K q
    rw [T_X12_stringsOf]
    intro M23 e23
    rw [e23, jn_uph (by omega)]
    exact i2 Z K 5000 (by omega) q
  have lp : ∀ m k s, k + m = n → ∃ r' X1 Y1, (∀ (K : Int32 → Mm → Prop) (f : Nat), m < f → K r' (jn X1 M) → T_X11_strings_26 f (nI c) y s (nI k) (jn M M) K) ∧ (∀ (K : Int32 → Mm → Prop) (f : Nat), m < f → K r' (jn X1 Y1) → T_X12_strings_33 f (nI c) y s (nI k) (jn X1 (m_up M 159 0 0)) K) ∧ fr M (jn X1 Y1) := by
    intro m
    induction m with
    | zero =>
      intro k s hk
      have e : k = n := by omega
      subst e
      refine ⟨if y = 0 then r else r * nI c - s, X', Y', fun K f hf q => ?_, fun K f hf q => ?_, fr2⟩
      · obtain ⟨f, rfl⟩ : ∃ g, f = g + 1 := ⟨f - 1, by omega⟩
        rw [T_X11_strings_26, jl 9 (by omega), en]
        refine pk_le k k (fun _ => fC M _ ⟨fun z => ?_, fun z => ?_⟩) (fun z => absurd z (by omega))
        · rw [if_pos z] at q; exact q
        · rw [if_neg z] at q; exact q
      · obtain ⟨f, rfl⟩ : ∃ g, f = g + 1 := ⟨f - 1, by omega⟩
        have z53 : jn X' (m_up M 159 0 0) 159 53 = nI k := by rw [jh 53 (by omega), mu, if_neg (by omega)]; exact en2
        rw [T_X12_strings_33, z53]
        refine pk_le k k (fun _ => fM X' _ ⟨fun z => ?_, fun z => ?_⟩) (fun z => absurd z (by omega))
        · rw [if_pos z] at q; exact q
        · rw [if_neg z] at q; rw [Int32.mul_comm]; exact q
    | succ m ih =>
      intro k s hk
      have vk : vp_in (nI k) 9 := vp_in_nI (by omega) (by decide)
      have ck : (nI k).toNatClampNeg = k := nI_clamp (by omega)
      have ey : m_up M 159 0 0 188 k = M 32 k := (hLy k (by omega)).trans (hLx k (by omega)).2.2.symm
      have ex53 : ∀ X1 : Mm, jn X1 (m_up M 159 0 0) 159 53 = nI n := fun X1 => by rw [jh 53 (by omega), mu, if_neg (by omega)]; exact en2
      by_cases cl : M 32 k ≤ nI c
      · obtain ⟨r', X1, Y1, j1, j2, j3⟩ := ih (k + 1) (s + M 32 k) (by omega)
        refine ⟨r', X1, Y1, fun K f hf q => ?_, fun K f hf q => ?_, j3⟩
        · obtain ⟨f, rfl⟩ : ∃ g, f = g + 1 := ⟨f - 1, by omega⟩
          rw [T_X11_strings_26, jl 9 (by omega), en, ck, jl k (by omega)]
          refine pk_le n k (fun z => absurd z (by omega)) (fun _ => ⟨vk, fun _ => ⟨vk, fun y9 e9 y10 e10 => ?_⟩, fun z => absurd cl z⟩)
          rw [e9, e10, nI_1]
          exact j1 K f (by omega) q
        · obtain ⟨f, rfl⟩ : ∃ g, f = g + 1 := ⟨f - 1, by omega⟩
          rw [T_X12_strings_33, ex53, ck, jh k (by omega), ey]
          refine pk_le n k (fun z => absurd z (by omega)) (fun _ => ⟨vk, fun _ => ⟨vk, fun y9 e9 y10 e10 => ?_⟩, fun z => absurd cl z⟩)
          rw [e9, e10, nI_1]
          exact j2 K f (by omega) q
      · refine ⟨-1, M, m_up M 159 0 0, fun K f hf q => ?_, fun K f hf q => ?_, ?_⟩
        · obtain ⟨f, rfl⟩ : ∃ g, f = g + 1 := ⟨f - 1, by omega⟩
          rw [T_X11_strings_26, jl 9 (by omega), en, ck, jl k (by omega)]
          exact pk_le n k (fun z => absurd z (by omega)) (fun _ => ⟨vk, fun z => absurd z cl, fun _ => q⟩)
        · obtain ⟨f, rfl⟩ : ∃ g, f = g + 1 := ⟨f - 1, by omega⟩
          rw [T_X12_strings_33, ex53, ck, jh k (by omega), ey]
          exact pk_le n k (fun z => absurd z (by omega)) (fun _ => ⟨vk, fun z => absurd z cl, fun _ => q⟩)
        · intro a j hfa
          by_cases ha : a < 159
          · rw [jl j ha]
          · rw [jh j (by omega), mu, if_neg (fun w => by rw [w.1, w.2] at hfa; cases hfa)]
  obtain ⟨r', X1, Y1, j1, j2, j3⟩ := lp n 0 0 (by omega)
  refine ⟨r', jn X1 M, jn X1 Y1, fun K q => ?_, fun K q => ?_, (h.fr j3).mono (by omega)⟩
  · have : T_X11_strings (nI c) y (jn M M) K := by
      rw [T_X11_strings, iw_pos cx]
      refine ⟨fun w => absurd w (by decide), fun _ => ?_⟩
      rw [iw_pos cy]
      exact ⟨fun w => absurd w (by decide), fun _ => j1 K 5000 (by omega) q⟩
    rw [jn_self] at this
    exact this
  · rw [T_X12_strings]
    intro M1 e1
    rw [jn_uph (by omega)] at e1
    subst e1
    rw [ii_pos cx]
    refine ⟨fun w => absurd w (by decide), fun _ => ?_⟩
    rw [ii_pos cy]
    exact ⟨fun w => absurd w (by decide), fun _ => j2 K 5000 (by omega) q⟩
