/-- how many bits_v, reckoned as the JDK does, over numbers_v below_v 65536 -/
def bn1 (n : Nat) : Nat := n - ((n >>> 1) &&& 1431655765)
def bn2 (n : Nat) : Nat := (n &&& 858993459) + ((n >>> 2) &&& 858993459)
def bn3 (n : Nat) : Nat := (n + (n >>> 4)) &&& 252645135
def bn4 (n : Nat) : Nat := n + (n >>> 8)
def bn5 (n : Nat) : Nat := n + (n >>> 16)
def bnf (n : Nat) : Nat := bn5 (bn4 (bn3 (bn2 (bn1 n)))) &&& 63
theorem and_sp (k x y m n : Nat) (hy : y < 2 ^ k) (hn : n < 2 ^ k) : 2 ^ k * x + y &&& 2 ^ k * m + n = 2 ^ k * (x &&& m) + (y &&& n) := by
  apply Nat.eq_of_testBit_eq
  intro i
  rw [Nat.testBit_and, Nat.testBit_two_pow_mul_add x hy, Nat.testBit_two_pow_mul_add m hn, Nat.testBit_two_pow_mul_add (x &&& m) (Nat.and_lt_two_pow y hn)]
  by_cases c : i < k
  · rw [if_pos c, if_pos c, if_pos c, Nat.testBit_and]
  · rw [if_neg c, if_neg c, if_neg c, Nat.testBit_and]
theorem msk (c m n : Nat) (hc : c < 256) (hn : n < 256) : c &&& 256 * m + n = c &&& n := by
  have := and_sp 8 0 c m n hc hn
  rw [Nat.mul_zero, Nat.zero_add, Nat.zero_and, Nat.mul_zero, Nat.zero_add] at this
  exact this
theorem bn_b : ∀ b, b < 256 → bn1 b < 256 ∧ bn2 (bn1 b) ≤ 68 ∧ bn2 (bn1 b) % 16 ≤ 4 ∧ bn3 (bn2 (bn1 b)) = pcn b ∧ pcn b ≤ 8 := by decide +kernel
theorem l_1 {a b : Nat} (ha : a < 256) (hb : b < 256) : bn1 (256 * a + b) = 256 * bn1 a + bn1 b := by
  unfold bn1
  have e1 : (256 * a + b) >>> 1 = 2 ^ 8 * (a / 2) + (128 * (a % 2) + b / 2) := by rw [Nat.shiftRight_eq_div_pow]; omega
  have e2 : 128 * (a % 2) + b / 2 &&& 85 = b / 2 &&& 85 := by
    have := and_sp 7 (a % 2) (b / 2) 0 85 (by omega) (by decide)
    rw [Nat.mul_zero, Nat.zero_add, Nat.and_zero, Nat.mul_zero, Nat.zero_add] at this
    exact this
  have e3 : a / 2 &&& 5592405 = a / 2 &&& 85 := msk (a / 2) 21845 85 (by omega) (by decide)
  have e4 : a >>> 1 &&& 1431655765 = a / 2 &&& 85 := by rw [Nat.shiftRight_eq_div_pow]; exact msk (a / 2 ^ 1) 5592405 85 (by omega) (by decide)
  have e5 : b >>> 1 &&& 1431655765 = b / 2 &&& 85 := by rw [Nat.shiftRight_eq_div_pow]; exact msk (b / 2 ^ 1) 5592405 85 (by omega) (by decide)
  have e6 : (256 * a + b) >>> 1 &&& 1431655765 = 256 * (a / 2 &&& 85) + (b / 2 &&& 85) := by
    rw [e1, show (1431655765 : Nat) = 2 ^ 8 * 5592405 + 85 from rfl, and_sp 8 _ _ _ _ (by omega) (by decide), e2, e3]
  have h1 : a / 2 &&& 85 ≤ a / 2 := Nat.and_le_left
  have h2 : b / 2 &&& 85 ≤ b / 2 := Nat.and_le_left
  rw [e6, e4, e5]
  omega
theorem l_2 {a b : Nat} (ha : a < 256) (hb : b < 256) : bn2 (256 * a + b) = 256 * bn2 a + bn2 b := by
  unfold bn2
  have e1 : (256 * a + b) >>> 2 = 2 ^ 8 * (a / 4) + (64 * (a % 4) + b / 4) := by rw [Nat.shiftRight_eq_div_pow]; omega
  have e2 : 64 * (a % 4) + b / 4 &&& 51 = b / 4 &&& 51 := by
    have := and_sp 6 (a % 4) (b / 4) 0 51 (by omega) (by decide)
    rw [Nat.mul_zero, Nat.zero_add, Nat.and_zero, Nat.mul_zero, Nat.zero_add] at this
    exact this
  have e3 : a / 4 &&& 3355443 = a / 4 &&& 51 := msk (a / 4) 13107 51 (by omega) (by decide)
  have e4 : a >>> 2 &&& 858993459 = a / 4 &&& 51 := by rw [Nat.shiftRight_eq_div_pow]; exact msk (a / 2 ^ 2) 3355443 51 (by omega) (by decide)
  have e5 : b >>> 2 &&& 858993459 = b / 4 &&& 51 := by rw [Nat.shiftRight_eq_div_pow]; exact msk (b / 2 ^ 2) 3355443 51 (by omega) (by decide)
  have e6 : (256 * a + b) >>> 2 &&& 858993459 = 256 * (a / 4 &&& 51) + (b / 4 &&& 51) := by
    rw [e1, show (858993459 : Nat) = 2 ^ 8 * 3355443 + 51 from rfl, and_sp 8 _ _ _ _ (by omega) (by decide), e2, e3]
  have e7 : 256 * a + b &&& 858993459 = 256 * (a &&& 51) + (b &&& 51) := by
    have := and_sp 8 a b 3355443 51 hb (by decide)
    rw [show a &&& 3355443 = a &&& 51 from msk a 13107 51 ha (by decide)] at this
    exact this
  have e8 : a &&& 858993459 = a &&& 51 := msk a 3355443 51 ha (by decide)
  have e9 : b &&& 858993459 = b &&& 51 := msk b 3355443 51 hb (by decide)
  rw [e6, e4, e5, e7, e8, e9]
  omega
theorem and15 (x : Nat) : x &&& 15 = x % 16 := Nat.and_two_pow_sub_one_eq_mod x 4
theorem l_3 {a b : Nat} (ha : a ≤ 68) (hb : b ≤ 68) (ha4 : a % 16 ≤ 4) : bn3 (256 * a + b) = 256 * bn3 a + bn3 b := by
  unfold bn3
  have e1 : 256 * a + b + (256 * a + b) >>> 4 = 2 ^ 8 * (a + a / 16) + (b + b / 16 + 16 * (a % 16)) := by rw [Nat.shiftRight_eq_div_pow]; omega
  have e4 : a + a >>> 4 &&& 252645135 = (a + a / 16) % 16 := by
    rw [Nat.shiftRight_eq_div_pow, show a / 2 ^ 4 = a / 16 from rfl, show (252645135 : Nat) = 256 * 986895 + 15 from rfl, msk (a + a / 16) 986895 15 (by omega) (by decide), and15]
  have e5 : b + b >>> 4 &&& 252645135 = (b + b / 16) % 16 := by
    rw [Nat.shiftRight_eq_div_pow, show b / 2 ^ 4 = b / 16 from rfl, show (252645135 : Nat) = 256 * 986895 + 15 from rfl, msk (b + b / 16) 986895 15 (by omega) (by decide), and15]
  have e3 : a + a / 16 &&& 986895 = (a + a / 16) % 16 := by
    rw [show (986895 : Nat) = 256 * 3855 + 15 from rfl, msk (a + a / 16) 3855 15 (by omega) (by decide), and15]
  rw [e1, show (252645135 : Nat) = 2 ^ 8 * 986895 + 15 from rfl, and_sp 8 _ _ _ _ (by omega) (by decide), e3, and15]
  rw [show 2 ^ 8 * 986895 + 15 = (252645135 : Nat) from rfl, e4, e5]
  omega
theorem pcn_ab {a b : Nat} (ha : a < 256) (hb : b < 256) : pcn (256 * a + b) = pcn a + pcn b := by
  unfold pcn
  omega
theorem bnf_ok {n : Nat} (hn : n < 65536) : bnf n = pcn n := by
  obtain ⟨a, b, ha, hb, rfl⟩ : ∃ a b, a < 256 ∧ b < 256 ∧ n = 256 * a + b := ⟨n / 256, n % 256, by omega, by omega, by omega⟩
  obtain ⟨a1, a2, a3, a4, a5⟩ := bn_b a ha
  obtain ⟨b1, b2, b3, b4, b5⟩ := bn_b b hb
  unfold bnf
  rw [l_1 ha hb, l_2 a1 b1, l_3 a2 b2 a3, a4, b4, pcn_ab ha hb]
  unfold bn5 bn4
  have m1 : (256 * pcn a + pcn b) / 2 ^ 8 = pcn a := by omega
  have m2 : (256 * pcn a + pcn b + pcn a) / 2 ^ 16 = 0 := by omega
  rw [Nat.shiftRight_eq_div_pow, Nat.shiftRight_eq_div_pow, show (63 : Nat) = 2 ^ 6 - 1 from rfl, Nat.and_two_pow_sub_one_eq_mod, m1, m2, show 256 * pcn a + pcn b + pcn a + 0 = 2 ^ 6 * (4 * pcn a) + (pcn a + pcn b) by omega, Nat.mul_add_mod]
  exact Nat.mod_eq_of_lt (by omega)
theorem nx_ush2 {k j : Nat} (hk : k < 2 ^ 31) (hj : j < 32) : ((nI k).toUInt32 >>> ((nI j).toUInt32 &&& Int32.toUInt32 31)).toInt32 = nI (k >>> j) := by
  have hs : k >>> j ≤ k := by
    rw [Nat.shiftRight_eq_div_pow]
    exact Nat.div_le_self _ _
  have e2 : UInt32.ofNat k >>> (UInt32.ofNat j &&& Int32.toUInt32 31) = UInt32.ofNat (k >>> j) := by
    apply UInt32.toNat_inj.1
    have h1 : (UInt32.ofNat k).toNat = k := Nat.mod_eq_of_lt (by omega)
    have h2 : (UInt32.ofNat (k >>> j)).toNat = k >>> j := Nat.mod_eq_of_lt (by omega)
    rw [UInt32.toNat_shiftRight, nx_cnt ⟨j, hj⟩, h1, h2]
  show (UInt32.ofNat k >>> (UInt32.ofNat j &&& Int32.toUInt32 31)).toInt32 = _
  rw [e2]
  rfl
theorem bcf_bn {n : Nat} (hn : n < 65536) : bcf (nI n) = nI (pcn n) := by
  have h1 : n >>> 1 &&& 1431655765 ≤ n := by
    have a1 : n >>> 1 &&& 1431655765 ≤ n >>> 1 := Nat.and_le_left
    have a2 : n >>> 1 ≤ n := by rw [Nat.shiftRight_eq_div_pow]; exact Nat.div_le_self _ _
    omega
  have e1 : bc1 (nI n) = nI (bn1 n) := by
    unfold bc1 bn1
    rw [show (1 : Int32) = nI 1 from rfl, nx_ush2 (by omega) (by omega), show (1431655765 : Int32) = nI 1431655765 from rfl, nx_and, pk_sub h1]
  have b1 : bn1 n < 65536 := by unfold bn1; omega
  have e2 : bc2 (nI (bn1 n)) = nI (bn2 (bn1 n)) := by
    unfold bc2 bn2
    rw [show (2 : Int32) = nI 2 from rfl, nx_ush2 (by omega) (by omega), show (858993459 : Int32) = nI 858993459 from rfl, nx_and, nx_and, nI_add]
  have b2 : bn2 (bn1 n) < 131072 := by
    unfold bn2
    have a1 : bn1 n &&& 858993459 ≤ bn1 n := Nat.and_le_left
    have a2 : bn1 n >>> 2 &&& 858993459 ≤ bn1 n >>> 2 := Nat.and_le_left
    have a3 : bn1 n >>> 2 ≤ bn1 n := by rw [Nat.shiftRight_eq_div_pow]; exact Nat.div_le_self _ _
    omega
  have e3 : bc3 (nI (bn2 (bn1 n))) = nI (bn3 (bn2 (bn1 n))) := by
    unfold bc3 bn3
    rw [show (4 : Int32) = nI 4 from rfl, nx_ush2 (by omega) (by omega), nI_add, show (252645135 : Int32) = nI 252645135 from rfl, nx_and]
  have b3 : bn3 (bn2 (bn1 n)) < 262144 := by
    unfold bn3
    have a1 : bn2 (bn1 n) + bn2 (bn1 n) >>> 4 &&& 252645135 ≤ bn2 (bn1 n) + bn2 (bn1 n) >>> 4 := Nat.and_le_left
    have a3 : bn2 (bn1 n) >>> 4 ≤ bn2 (bn1 n) := by rw [Nat.shiftRight_eq_div_pow]; exact Nat.div_le_self _ _
    omega
  have e4 : bc4 (nI (bn3 (bn2 (bn1 n)))) = nI (bn4 (bn3 (bn2 (bn1 n)))) := by
    unfold bc4 bn4
    rw [show (8 : Int32) = nI 8 from rfl, nx_ush2 (by omega) (by omega), nI_add]
  have b4 : bn4 (bn3 (bn2 (bn1 n))) < 524288 := by
    unfold bn4
    have a3 : bn3 (bn2 (bn1 n)) >>> 8 ≤ bn3 (bn2 (bn1 n)) := by rw [Nat.shiftRight_eq_div_pow]; exact Nat.div_le_self _ _
    omega
  have e5 : bc5 (nI (bn4 (bn3 (bn2 (bn1 n))))) = nI (bn5 (bn4 (bn3 (bn2 (bn1 n))))) := by
    unfold bc5 bn5
    rw [show (16 : Int32) = nI 16 from rfl, nx_ush2 (by omega) (by omega), nI_add]
  unfold bcf
  rw [e1, e2, e3, e4, e5, show (63 : Int32) = nI 63 from rfl, nx_and]
  show nI (bnf n) = nI (pcn n)
  rw [bnf_ok hn]
theorem pcn_2 {u : Nat} (hu : u < 32768) : pcn (2 * u) = pcn u ∧ pcn (2 * u + 1) = pcn u + 1 := by
  unfold pcn
  constructor <;> omega
theorem and_ev {u : Nat} (hu : 0 < u) : 2 * u &&& (2 * u - 1) = 2 * (u &&& (u - 1)) := by
  apply Nat.eq_of_testBit_eq
  intro i
  match i with
  | 0 =>
    rw [Nat.testBit_and, Nat.testBit_zero, Nat.testBit_zero, Nat.testBit_zero, decide_eq_false (p := 2 * u % 2 = 1) (by omega), Bool.false_and, decide_eq_false (by omega)]
  | i + 1 =>
    rw [Nat.testBit_and, Nat.testBit_add_one, Nat.testBit_add_one, Nat.testBit_add_one, show 2 * u / 2 = u by omega, show (2 * u - 1) / 2 = u - 1 by omega, show 2 * (u &&& (u - 1)) / 2 = u &&& (u - 1) by omega, Nat.testBit_and]
theorem and_od (u : Nat) : 2 * u + 1 &&& (2 * u + 1 - 1) = 2 * u := by
  apply Nat.eq_of_testBit_eq
  intro i
  match i with
  | 0 =>
    rw [Nat.testBit_and, Nat.testBit_zero, Nat.testBit_zero, Nat.testBit_zero, decide_eq_false (p := (2 * u + 1 - 1) % 2 = 1) (by omega), Bool.and_false, decide_eq_false (by omega)]
  | i + 1 =>
    rw [Nat.testBit_and, Nat.testBit_add_one, Nat.testBit_add_one, Nat.testBit_add_one, show (2 * u + 1) / 2 = u by omega, show (2 * u + 1 - 1) / 2 = u by omega, show 2 * u / 2 = u by omega, Bool.and_self]
theorem pcn_all : ∀ n v, v < 2 ^ n → n ≤ 16 → 0 < v → pcn (v &&& (v - 1)) + 1 = pcn v
  | 0, v, h, _, h0 => by rw [Nat.pow_zero] at h; omega
  | n + 1, v, h, hn, h0 => by
    have hp : 2 ^ n ≤ 2 ^ 15 := Nat.pow_le_pow_right (by omega) (by omega)
    have hps : 2 ^ (n + 1) = 2 ^ n * 2 := Nat.pow_succ 2 n
    rcases (by omega : v = 2 * (v / 2) ∨ v = 2 * (v / 2) + 1) with c | c
    · have hu : 0 < v / 2 := by omega
      have ih := pcn_all n (v / 2) (by omega) (by omega) hu
      have hle : v / 2 &&& (v / 2 - 1) ≤ v / 2 := Nat.and_le_left
      rw [c, and_ev hu, (pcn_2 (u := v / 2 &&& (v / 2 - 1)) (by omega)).1, (pcn_2 (u := v / 2) (by omega)).1]
      exact ih
    · rw [c, and_od, (pcn_2 (u := v / 2) (by omega)).1, (pcn_2 (u := v / 2) (by omega)).2]
theorem ones16 {v : Nat} {M : Mm} {K : Int32 → Mm → Prop} (hv : v < 65536) (hK : K (nI (pcn v)) M) : T_X12_onesOf (nI v) M K := by
  rw [T_X12_onesOf]
  have h : pcn v ≤ 16 := by unfold pcn; omega
  exact ones_lp (b := 65536) (by omega) (fun v hv h0 => pcn_all 16 v hv (by omega) h0) hK 5000 0 v hv (by omega) (by omega)
/-- such a set is a number_v below_v 2 to the n -/
theorem us_nat (p : Nat → Bool) : ∀ n, n ≤ 16 → ∃ s, s < 2 ^ n ∧ us p n = nI s
  | 0, _ => ⟨0, by decide, rfl⟩
  | n + 1, hn => by
    obtain ⟨s, hs, es⟩ := us_nat p n (by omega)
    have hps : 2 ^ (n + 1) = 2 ^ n * 2 := Nat.pow_succ 2 n
    rw [us]
    by_cases c : p n = true
    · rw [if_pos c, es, shl_c (by omega), nx_or]
      exact ⟨s ||| 2 ^ n, Nat.or_lt_two_pow (by omega) (Nat.pow_lt_pow_right (by omega) (by omega)), rfl⟩
    · rw [if_neg c]
      exact ⟨s, by omega, es⟩
set_option maxHeartbeats 2000000 in
theorem ah_goes {N : Nat} {M : Mm} (h : Inv N M) (hN : N < 800000) (x y : Int32) : Ah (T_X11_goes x y) (T_X12_goes x y) N M := by
  have hf := h.t0 (x := 0)
  obtain ⟨np, nb, X, Y, hI, hX, k1, k2, hS, hq, fin_v⟩ := dream_ok h
  by_cases cx : (1 : Int32) ≤ x ∧ x ≤ 60
  rotate_left
  · exact Ag.ah ⟨-1, M, _, fun K q => by simpa [T_X11_goes, iw_neg cx] using q, fun K q => by simpa [T_X12_goes, ii_neg cx] using q, hf⟩
  by_cases cy : (0 : Int32) ≤ y ∧ y ≤ 3
  rotate_left
  · exact Ag.ah ⟨-1, M, _, fun K q => by simpa [T_X11_goes, iw_pos cx, iw_neg cy] using q, fun K q => by simpa [T_X12_goes, ii_pos cx, ii_neg cy] using q, hf⟩
  obtain ⟨n, hn1, hn, rfl⟩ := rng (a := 1) (b := 60) (by decide) (by decide) cx
  have main : ∀ m i X1 Y1 N1, i + m = n → ST 131 123 np nb X1 Y1 → QR N1 np nb 123 X1 Y1 → N1 + 16 * m < 900000 →
      ∃ X' Y', (∀ (Z : Mm) (K : Int32 → Mm → Prop) (f : Nat), T_X11_goes_37 f (nI n) y (nI n) (jn X' Z) K → T_X11_goes_37 (f + m) (nI n) y (nI i) (jn X1 Z) K) ∧ (∀ (Z : Mm) (K : Int32 → Mm → Prop) (f : Nat), T_X12_goes_34 f (nI n) y (nI n) (jn Z Y') K → T_X12_goes_34 (f + m) (nI n) y (nI i) (jn Z Y1) K) ∧ ST 131 123 np nb X' Y' ∧ QR (N1 + 16 * m) np nb 123 X' Y' ∧ fX 131 123 X1 X' ∧ fY Y1 Y' := by
    intro m
    induction m with
    | zero =>
      intro i X1 Y1 N1 him g1 g2 g4
      have e : i = n := by omega
      subst e
      exact ⟨X1, Y1, fun Z K f k => k, fun Z K f k => k, g1, g2, fX.rf, fY.rf⟩
    | succ m ih =>
      intro i X1 Y1 N1 him g1 g2 g4
      obtain ⟨r, X2, Y2, d1, d2, d3, d4, d5⟩ := day_ok g1 g2 (by omega)
      obtain ⟨X', Y', i1, i2, i3, i4, i5, i6⟩ := ih (i + 1) X2 Y2 (N1 + 16) (by omega) (g1.fr d4 d5) d3 (by omega)
      refine ⟨X', Y', fun Z K f k => ?_, fun Z K f k => ?_, i3, i4.mono (by omega), d4.tr i5, d5.tr i6⟩
      · rw [show f + (m + 1) = (f + m) + 1 by omega, T_X11_goes_37]
        refine pk_le n i (fun z => absurd z (by omega)) (fun _ => d1 Z _ (fun y14 e14 => ?_))
        rw [e14, nI_1]
        exact i1 Z K f k
      · rw [show f + (m + 1) = (f + m) + 1 by omega, T_X12_goes_34]
        refine pk_le n i (fun z => absurd z (by omega)) (fun _ => d2 Z _ (fun y14 e14 => ?_))
        rw [e14, nI_1]
        exact i2 Z K f k
  obtain ⟨X', Y', i1, i2, i3, i4, i5, i6⟩ := main n 0 X Y N (by omega) hS hq (by omega)
  have hnp : np ≤ 16 := i3.2.1.1.2.2.2.2.1
  have ex : X' 2 0 = nI np := i3.2.1.1.2.2.1
  have ey : Y' 159 6 = nI np := i3.2.1.1.1.trans ex
  obtain ⟨⟨a0, a1, a2, a3, a4, a5, a6⟩, b2, -⟩ := i4.1
  obtain ⟨s, hs, es⟩ := us_nat (fun i => decide (X' 124 i = -1)) np hnp
  have hs2 : s < 65536 := Nat.lt_of_lt_of_le hs (Nat.pow_le_pow_right (by omega) hnp)
  have r124 : rf 123 0 = 124 := by decide
  have hE : ∀ a, a ≠ 160 → a ≠ 159 → m_up (enR Y' 135) 159 5 0 a = Y' a := fun a z1 z2 => by
    rw [m_up_ne z2]
    funext j
    unfold enR
    rw [if_neg (fun w => z1 w.1)]
  -- the answer_v
  have fn : ∃ r : Int32, (∀ (Z : Mm) (K : Int32 → Mm → Prop), K r (jn X' Z) → T_X11_goes_37 1 (nI n) y (nI n) (jn X' Z) K) ∧ (∀ (Z : Mm) (K : Int32 → Mm → Prop), K r (jn Z (m_up (enR Y' 135) 159 5 0)) → T_X12_goes_34 1 (nI n) y (nI n) (jn Z Y') K) := by
    have g : ∀ (r : Int32) (Z : Mm) (K : Int32 → Mm → Prop), K r (jn Z (m_up (enR Y' 135) 159 5 0)) → T_X12_goes_105 r (jn Z Y') K := by
      intro r Z K k
      rw [T_X12_goes_105]
      exact ends_ok Z _ k
    by_cases c0 : y = 0
    · refine ⟨X' 123 7, fun Z K k => ?_, fun Z K k => ?_⟩
      · rw [T_X11_goes_37, jl 7 (by omega)]
        exact pk_le n n (fun _ => ⟨fun _ => k, fun z => absurd c0 z⟩) (fun z => absurd z (by omega))
      · rw [T_X12_goes_34, jh 3 (by omega), a3]
        exact pk_le n n (fun _ => ⟨fun _ => g _ Z K k, fun z => absurd c0 z⟩) (fun z => absurd z (by omega))
    by_cases c1 : y = 1
    · refine ⟨X' 123 8, fun Z K k => ?_, fun Z K k => ?_⟩
      · rw [T_X11_goes_37, jl 8 (by omega)]
        exact pk_le n n (fun _ => ⟨fun z => absurd z c0, fun _ => ⟨fun _ => k, fun z => absurd c1 z⟩⟩) (fun z => absurd z (by omega))
      · rw [T_X12_goes_34, jh 4 (by omega), a4]
        exact pk_le n n (fun _ => ⟨fun z => absurd z c0, fun _ => ⟨fun _ => g _ Z K k, fun z => absurd c1 z⟩⟩) (fun z => absurd z (by omega))
    by_cases c2 : y = 2
    · refine ⟨X' 123 11, fun Z K k => ?_, fun Z K k => ?_⟩
      · rw [T_X11_goes_37, jl 11 (by omega)]
        exact pk_le n n (fun _ => ⟨fun z => absurd z c0, fun _ => ⟨fun z => absurd z c1, fun _ => ⟨fun _ => k, fun z => absurd c2 z⟩⟩⟩) (fun z => absurd z (by omega))
      · rw [T_X12_goes_34, jh 6 (by omega), a6]
        exact pk_le n n (fun _ => ⟨fun z => absurd z c0, fun _ => ⟨fun z => absurd z c1, fun _ => ⟨fun _ => g _ Z K k, fun z => absurd c2 z⟩⟩⟩) (fun z => absurd z (by omega))
    refine ⟨nI np - nI (pcn s), fun Z K k => ?_, fun Z K k => ?_⟩
    · rw [T_X11_goes_37, jl 0 (by omega), ex]
      refine pk_le n n (fun _ => ⟨fun z => absurd z c0, fun _ => ⟨fun z => absurd z c1, fun _ => ⟨fun z => absurd z c2, fun _ => ?_⟩⟩⟩) (fun z => absurd z (by omega))
      rw [T_X6_unsold]
      refine unsold_lp (o := 123) (M := jn X' Z) (n := np) hnp ?_ 5000 0 (by omega) (by omega)
      rw [r124, jn_lo (by omega), es]
      refine bitCount_ok ?_
      rw [bcf_bn hs2]
      exact k
    · rw [T_X12_goes_34, jh (a := 159) 6 (by omega), ey]
      refine pk_le n n (fun _ => ⟨fun z => absurd z c0, fun _ => ⟨fun z => absurd z c1, fun _ => ⟨fun z => absurd z c2, fun _ => ?_⟩⟩⟩) (fun z => absurd z (by omega))
      rw [T_X12_unsoldSet]
      refine unsoldM_lp (M := jn Z Y') (n := np) hnp (by rw [jh 6 (by omega)]; exact ey) ?_ 5000 0 (by omega) (by omega)
      rw [us_cg (q := fun i => decide (X' 124 i = -1)) (fun i hi => by
        have := (b2 i (by omega)).1
        rw [jh _ (by omega), this]
        exact decide_eq_decide.mpr (p1_0 _)), es]
      exact ones16 hs2 (g _ Z K k)
  obtain ⟨r, f1, f2⟩ := fn
  refine ⟨r, jn X' M, jn X' (m_up (enR Y' 135) 159 5 0), fun K q => ?_, fun K q => ?_, (fin_v X' Y' (N + 16 * n) (by omega) i5 i6 i4).mono (by omega)⟩
  · have : T_X11_goes (nI n) y (jn M M) K := by
      rw [T_X11_goes, iw_pos cx]
      refine ⟨fun w => absurd w (by decide), fun _ => ?_⟩
      rw [iw_pos cy]
      refine ⟨fun w => absurd w (by decide), fun _ => k1 M _ ?_⟩
      have := i1 M K (5000 - n) ?_
      · rw [show 5000 - n + n = 5000 by omega] at this
        exact this
      · obtain ⟨f, hf'⟩ : ∃ f, 5000 - n = f + 1 := ⟨4999 - n, by omega⟩
        have := f1 M K q
        rw [hf']
        rw [T_X11_goes_37] at this ⊢
        exact ⟨this.1, fun z => absurd (nI_le (Nat.le_refl n) (by omega)) z⟩
    rw [jn_self] at this
    exact this
  · rw [T_X12_goes]
    intro M1 e1
    rw [jn_uph (by omega)] at e1
    subst e1
    rw [ii_pos cx]
    refine ⟨fun w => absurd w (by decide), fun _ => ?_⟩
    rw [ii_pos cy]
    refine ⟨fun w => absurd w (by decide), fun _ => k2 X' _ ?_⟩
    have := i2 X' K (5000 - n) ?_
    · rw [show 5000 - n + n = 5000 by omega] at this
      exact this
    · obtain ⟨f, hf'⟩ : ∃ f, 5000 - n = f + 1 := ⟨4999 - n, by omega⟩
      have := f2 X' K q
      rw [hf']
      rw [T_X12_goes_34] at this ⊢
      exact ⟨this.1, fun z => absurd (nI_le (Nat.le_refl n) (by omega)) z⟩
