set_option maxHeartbeats 4000000 in
theorem ah_settle {N : Nat} {M : Mm} (h : Inv N M) (hN : N < 900000) (x : Int32) : Ah (T_X11_settle x) (T_X12_settle x) N M := by
  have hf := h.t0 (x := 0)
  obtain ⟨np, nb, hI, hX, hS, hq, hU, hg⟩ := h.beg
  have en : M 2 1 = nI nb := hI.1.1.2.2.2.1
  have hn : nb ≤ 8 := hI.1.1.2.2.2.2.2
  have en2 : M 159 7 = nI nb := hI.1.1.2.1.trans en
  have en3 : m_up M 159 0 0 159 7 = nI nb := by simpa [mu] using en2
  by_cases cx : ∃ k, k < nb ∧ x = nI k
  rotate_left
  · exact Ag.ah ⟨-1, M, _, fun K q => by simpa [T_X11_settle, hb_neg cx hn en] using q, fun K q => by simpa [T_X12_settle, ib_neg cx hn en3] using q, hf⟩
  obtain ⟨b, hb, rfl⟩ := cx
  have vb : vp_in (nI b) 8 := vp_in_nI (by omega) (by decide)
  have cb : (nI b).toNatClampNeg = b := nI_clamp (by omega)
  obtain ⟨v55, c55⟩ := vp_nat (x := 55 + nI b) (k := 55 + b) (n := 135) (nI_add 55 b) (by omega) (by decide)
  obtain ⟨v63, c63⟩ := vp_nat (x := 63 + nI b) (k := 63 + b) (n := 135) (nI_add 63 b) (by omega) (by decide)
  obtain ⟨u, hu, eu⟩ := hq.2.1.2.1 b (by omega)
  have eu : M 13 b = nI u := eu
  have eM : m_up M 159 0 0 160 (63 + b) = nI u := (hq.1.2.2.1 b (by omega)).2.trans eu
  by_cases c0 : u = 0
  · subst c0
    refine Ag.ah ⟨-1, M, m_up M 159 0 0, fun K q => ?_, fun K q => ?_, hf⟩
    · rw [T_X11_settle, hb_pos rfl hb hn en, cb, eu]
      exact ⟨fun w => absurd w (by decide), fun _ => ⟨vb, fun w => absurd w (by decide), fun _ => q⟩⟩
    · rw [T_X12_settle]
      intro M1 e1
      subst e1
      rw [ib_pos rfl hb hn en3, c63, eM]
      exact ⟨fun w => absurd w (by decide), fun _ => ⟨v63, fun _ => q, fun w => absurd rfl w⟩⟩
  obtain ⟨X1, Y1, k1, k2, k3, k4, k5, k6, k7, k8, k9⟩ := keep2 hS hq hU
  have ebx1 : X1 2 1 = nI nb := by rw [k8 2 (by omega)]; exact en
  obtain ⟨p, hp, ep⟩ := k4.2.1.1.1.2 b (by omega)
  have ep : X1 12 b = nI p := ep
  have eo : X1 13 b = nI u := by rw [k8 13 (by omega)]; exact eu
  have y55 : Y1 160 (55 + b) = X1 12 b := k4.1.purse (by omega)
  have y63 : Y1 160 (63 + b) = X1 13 b := (k4.1.2.2.1 b (by omega)).2
  have y3 : Y1 160 3 = X1 8 7 := k4.1.1.2.2.2.1
  obtain ⟨m, hm1, hm2, em⟩ : ∃ m, m ≤ p ∧ m ≤ u ∧ (if X1 12 b < X1 13 b then X1 12 b else X1 13 b) = nI m := by
    rw [ep, eo]
    by_cases c : p < u
    · rw [if_pos (nI_lt c (by omega))]; exact ⟨p, by omega, by omega, rfl⟩
    · rw [if_neg (nI_nlt (by omega) (by omega))]; exact ⟨u, by omega, by omega, rfl⟩
  have h1 : QR N np nb 8 (m_up X1 13 b (X1 13 b - nI m)) (m_up Y1 160 (63 + b) (X1 13 b - nI m)) := k4.upd (Nat.le_refl _) (by omega) (by unfold clp; omega) (fun z => absurd z (by omega)) (fun _ => rfl) (csd_5 (q_v := 8) ⟨hb, by rw [eo, pk_sub hm2]; exact sm_nI (by omega)⟩)
  have h2 := h1.up4 (b := b) (v := X1 12 b - nI m) (by omega) (by omega) (by rw [ep, pk_sub hm1]; exact sm_nI (by omega))
  have h3 := h2.up0 (i := 7) (j := 3) (v := X1 8 7 + nI m) (by omega) (by omega) ⟨fun z => absurd z (by omega), fun z => absurd z (by omega), fun z => absurd z (by omega)⟩
  have fA : fX 130 8 X1 (m_up (m_up (m_up X1 13 b (X1 13 b - nI m)) 12 b (X1 12 b - nI m)) 8 7 (X1 8 7 + nI m)) := fX.tr (fX.tr (fX.up (by omega)) (fX.up (by omega))) (fX.up (by omega))
  have fB : fY Y1 (m_up (m_up (m_up Y1 160 (63 + b) (X1 13 b - nI m)) 160 (55 + b) (X1 12 b - nI m)) 160 3 (X1 8 7 + nI m)) := fY.tr (fY.tr fY.up fY.up) fY.up
  obtain ⟨X3, Y3, n1, n2, n3, n4, n5⟩ := note_ok 5 (nI b) (nI m) (k3.fr fA fB) h3
  have f3 : fX 130 8 X1 X3 := fA.tr (fun a j w1 w2 w3 w4 w5 => n4 a j w2 (by omega))
  have g3 : fY Y1 Y3 := fB.tr (fun a j w1 w2 w3 w4 w5 => n5 a j w2 (by omega))
  refine ⟨nI m, jn X3 M, jn X3 Y3, fun K q => ?_, fun K q => ?_, mk2 (by omega) hI hX (k6.tr (f3.g (Or.inl ⟨rfl, rfl⟩))) (hg.tr (k7.tr g3.g)) (n3.mono (by omega)) ((k5.f f3 g3).mono (by omega))⟩
  · have : T_X11_settle (nI b) (jn M M) K := by
      have en' : jn M M 2 1 = nI nb := by rw [jn_self]; exact en
      rw [T_X11_settle, hb_pos rfl hb hn en', cb, jl b (by omega), eu]
      refine ⟨fun w => absurd w (by decide), fun _ => ⟨vb, fun _ => k1 M _ ?_, fun w => absurd (Int32.not_le.mp (nI_nle (by omega) (by omega))) w⟩⟩
      have en'' : jn X1 M 2 1 = nI nb := by rw [jl 1 (by omega)]; exact ebx1
      have rr : rf 130 0 = 2 ∧ rf 130 4 = 8 ∧ rf 8 3 = 12 ∧ rf 8 4 = 13 := by decide
      rw [T_X0_clearBill, rr.1, rr.2.1, rr.2.2.1, rr.2.2.2, hb_pos rfl hb hn en'', cb, jl b (by omega), jl b (by omega), em]
      refine ⟨fun w => absurd w (by decide), fun _ => ⟨vb, vb, fun y7 e7 => ⟨vb, vb, fun M9 e9 => ⟨vb, vb, fun M12 e12 M14 e14 => ?_⟩⟩⟩⟩
      subst e7
      have w1 : M9 12 b = X1 12 b := by rw [e9, mu, if_neg (by omega), jl _ (by omega)]
      have w2 : M12 8 7 = X1 8 7 := by rw [e12, mu, if_neg (by omega), e9, mu, if_neg (by omega), jl _ (by omega)]
      rw [e14, w2, e12, w1, e9, jn_upl (by omega), jn_upl (by omega), jn_upl (by omega)]
      exact n1 M _ q
    rw [jn_self] at this
    exact this
  · rw [T_X12_settle]
    intro M1 e1
    rw [jn_uph (by omega)] at e1
    subst e1
    have en' : jn X3 (m_up M 159 0 0) 159 7 = nI nb := by rw [jh 7 (by omega)]; exact en3
    rw [ib_pos rfl hb hn en', c63, c55, jh _ (by omega), eM]
    refine ⟨fun w => absurd w (by decide), fun _ => ⟨v63, fun w => absurd w (nI_ne0 (by omega) (by omega)), fun _ => k2 X3 _ ⟨v63, v55, ?_⟩⟩⟩
    rw [jh _ (by omega), jh _ (by omega), y63, y55]
    refine lesserM_ok ⟨v63, v63, ?_⟩
    rw [min_sw, em, jh _ (by omega), y63]
    refine fun M16 e16 => ⟨v55, v55, fun M19 e19 M21 e21 => ?_⟩
    have w1 : M16 160 (55 + b) = X1 12 b := by rw [e16, mu, if_neg (by omega), jh _ (by omega)]; exact y55
    have w2 : M19 160 3 = X1 8 7 := by rw [e19, mu, if_neg (by omega), e16, mu, if_neg (by omega), jh _ (by omega)]; exact y3
    rw [e21, w2, e19, w1, e16, jn_uph (by omega), jn_uph (by omega), jn_uph (by omega)]
    exact n2 X3 _ q
set_option maxHeartbeats 2000000 in
theorem ah_sell {N : Nat} {M : Mm} (h : Inv N M) (hN : N < 900000) (x : Int32) : Ah (T_X11_sell x) (T_X12_sell x) N M := by
  have hf := h.t0 (x := 0)
  obtain ⟨np, nb, hI, hX, hS, hq, hU, hg⟩ := h.beg
  have ep : M 2 0 = nI np := hI.1.1.2.2.1
  have hp : np ≤ 16 := hI.1.1.2.2.2.2.1
  have ep2 : M 159 6 = nI np := hI.1.1.1.trans ep
  have ep3 : m_up M 159 0 0 159 6 = nI np := by simpa [mu] using ep2
  have rr : rf 130 0 = 2 ∧ rf 130 4 = 8 ∧ rf 8 0 = 9 := by decide
  by_cases cx : ∃ k, k < np ∧ x = nI k
  rotate_left
  · refine Ag.ah ⟨-1, M, m_up M 159 0 0, fun K q => ?_, fun K q => by simpa [T_X12_sell, ip_neg cx hp ep3] using q, hf⟩
    rw [T_X11_sell, T_X0_canSell, rr.1, hp_neg cx hp ep]
    exact ⟨fun _ => ⟨fun _ => q, fun w => absurd rfl w⟩, fun w => absurd rfl w⟩
  obtain ⟨p, hpn, rfl⟩ := cx
  have vp : vp_in (nI p) 16 := vp_in_nI (by omega) (by decide)
  have cp : (nI p).toNatClampNeg = p := nI_clamp (by omega)
  obtain ⟨v7, c7⟩ := vp_nat (x := 7 + nI p) (k := 7 + p) (n := 135) (nI_add 7 p) (by omega) (by decide)
  have eM : m_up M 159 0 0 160 (7 + p) = M 9 p + 1 := (hq.1.2.1 p (by omega)).1
  obtain ⟨s, hs, es⟩ := (hq.2.1.1.1.1 p (by omega)).1
  have es : M 9 p + 1 = nI s := es
  by_cases cu : M 9 p = -1
  rotate_left
  · have hs0 : s ≠ 0 := fun z => cu ((p1_0 _).mp (by rw [es, z]; rfl))
    refine Ag.ah ⟨-1, M, m_up M 159 0 0, fun K q => ?_, fun K q => ?_, hf⟩
    · rw [T_X11_sell, T_X0_canSell, rr.1, rr.2.1, rr.2.2, hp_pos rfl hpn hp ep, cp]
      exact ⟨fun w => absurd w (by decide), fun _ => ⟨vp, fun w => absurd w cu, fun _ => ⟨fun _ => q, fun w => absurd rfl w⟩⟩⟩
    · rw [T_X12_sell]
      intro M1 e1
      subst e1
      rw [ip_pos rfl hpn hp ep3, c7, eM, es]
      exact ⟨fun w => absurd w (by decide), fun _ => ⟨v7, fun w => absurd w (nI_nle (by omega) (by omega)), fun _ => q⟩⟩
  obtain ⟨X1, Y1, k1, k2, k3, k4, k5, k6, k7, k8, k9⟩ := keep2 hS hq hU
  obtain ⟨r1, r2, X2, Y2, s1, s2, s3, s4, s5, s6, -⟩ := sale_ok k3 k4 hpn (by omega) (by rw [k8 9 (by omega)]; exact cu)
  refine ⟨r2, jn X2 M, jn X2 Y2, fun K q => ?_, fun K q => ?_, mk2 (by omega) hI hX (k6.tr (s4.g (Or.inl ⟨rfl, rfl⟩))) (hg.tr (k7.tr s5.g)) (s3.mono (by omega)) ((k5.f s4 s5).mono (by omega))⟩
  · have : T_X11_sell (nI p) (jn M M) K := by
      have ep' : jn M M 2 0 = nI np := by rw [jn_self]; exact ep
      rw [T_X11_sell, T_X0_canSell, rr.1, rr.2.1, rr.2.2, hp_pos rfl hpn hp ep', cp, jl p (by omega)]
      refine ⟨fun w => absurd w (by decide), fun _ => ⟨vp, fun _ => ⟨fun w => absurd w (by decide), fun _ => k1 M _ (s1 M _ ?_)⟩, fun w => absurd cu w⟩⟩
      rw [jl 7 (by omega), s6]
      exact q
    rw [jn_self] at this
    exact this
  · rw [T_X12_sell]
    intro M1 e1
    rw [jn_uph (by omega)] at e1
    subst e1
    rw [ip_pos rfl hpn hp (by rw [jh 6 (by omega)]; exact ep3), c7, jh _ (by omega), eM, cu]
    exact ⟨fun w => absurd w (by decide), fun _ => ⟨v7, fun _ => k2 X2 _ (s2 X2 _ q), fun w => absurd (by decide) w⟩⟩
set_option maxHeartbeats 2000000 in
theorem ah_days {N : Nat} {M : Mm} (h : Inv N M) (hN : N < 800000) (x : Int32) : Ah (T_X11_days x) (T_X12_days x) N M := by
  have hf := h.t0 (x := 0)
  obtain ⟨np, nb, hI, hX, hS, hq, hU, hg⟩ := h.beg
  by_cases cx : (1 : Int32) ≤ x ∧ x ≤ 60
  rotate_left
  · exact Ag.ah ⟨-1, M, _, fun K q => by simpa [T_X11_days, iw_neg cx] using q, fun K q => by simpa [T_X12_days, ii_neg cx] using q, hf⟩
  have eday : m_up M 159 0 0 160 0 = M 8 10 := hq.1.1.1
  by_cases cd : M 8 10 + x ≤ 9999
  rotate_left
  · refine Ag.ah ⟨-1, M, m_up M 159 0 0, fun K q => ?_, fun K q => ?_, hf⟩
    · rw [T_X11_days, iw_pos cx]
      exact ⟨fun w => absurd w (by decide), fun _ => ⟨fun w => absurd w cd, fun _ => q⟩⟩
    · rw [T_X12_days]
      intro M1 e1
      subst e1
      rw [ii_pos cx, eday]
      exact ⟨fun w => absurd w (by decide), fun _ => ⟨fun w => absurd w cd, fun _ => q⟩⟩
  obtain ⟨n, hn1, hn, rfl⟩ := rng (a := 1) (b := 60) (by decide) (by decide) cx
  have main_v : ∀ m i X Y s N1, i + m = n → ST 130 8 np nb X Y → QR N1 np nb 8 X Y → IU2 N1 np nb X Y → N1 + 16 * m < 900000 →
      ∃ r X' Y', (∀ (Z : Mm) (K : Int32 → Mm → Prop) (f : Nat), m < f → K r (jn X' Z) → T_X11_days_34 f (nI n) s (nI i) (jn X Z) K) ∧ (∀ (Z : Mm) (K : Int32 → Mm → Prop) (f : Nat), m < f → K r (jn Z Y') → T_X12_days_36 f (nI n) s (nI i) (jn Z Y) K) ∧ QR (N1 + 16 * m) np nb 8 X' Y' ∧ IU2 (N1 + 16 * m) np nb X' Y' ∧ gX X X' ∧ gY Y Y' := by
    intro m
    induction m with
    | zero =>
      intro i X Y s N1 him g1 g2 g3 g4
      have e : i = n := by omega
      subst e
      refine ⟨s, X, Y, fun Z K f hf k => ?_, fun Z K f hf k => ?_, g2, g3, gX.rf, gY.rf⟩
      · obtain ⟨f, rfl⟩ : ∃ g, f = g + 1 := ⟨f - 1, by omega⟩
        rw [T_X11_days_34]
        exact pk_le i i (fun _ => k) (fun z => absurd z (by omega))
      · obtain ⟨f, rfl⟩ : ∃ g, f = g + 1 := ⟨f - 1, by omega⟩
        rw [T_X12_days_36]
        exact pk_le i i (fun _ => k) (fun z => absurd z (by omega))
    | succ m ih =>
      intro i X Y s N1 him g1 g2 g3 g4
      obtain ⟨X1, Y1, k1, k2, k3, k4, k5, k6, k7, -, -⟩ := keep2 g1 g2 g3
      obtain ⟨r, X2, Y2, d1, d2, d3, d4, d5⟩ := day_ok k3 k4 (by omega)
      obtain ⟨r', X', Y', i1, i2, i3, i4, i5, i6⟩ := ih (i + 1) X2 Y2 (s + r) (N1 + 16) (by omega) (k3.fr d4 d5) d3 ((k5.f d4 d5).mono (by omega)) (by omega)
      refine ⟨r', X', Y', fun Z K f hf k => ?_, fun Z K f hf k => ?_, i3.mono (by omega), i4.mono (by omega), k6.tr ((d4.g (Or.inl ⟨rfl, rfl⟩)).tr i5), k7.tr (d5.g.tr i6)⟩
      · obtain ⟨f, rfl⟩ : ∃ g, f = g + 1 := ⟨f - 1, by omega⟩
        rw [T_X11_days_34]
        refine pk_le n i (fun z => absurd z (by omega)) (fun _ => k1 Z _ (d1 Z _ (fun y7 e7 y8 e8 => ?_)))
        rw [e7, e8, nI_1]
        exact i1 Z K f (by omega) k
      · obtain ⟨f, rfl⟩ : ∃ g, f = g + 1 := ⟨f - 1, by omega⟩
        rw [T_X12_days_36]
        refine pk_le n i (fun z => absurd z (by omega)) (fun _ => k2 Z _ (d2 Z _ (fun y7 e7 y8 e8 => ?_)))
        rw [e7, e8, nI_1]
        exact i2 Z K f (by omega) k
  obtain ⟨r, X', Y', i1, i2, i3, i4, i5, i6⟩ := main_v n 0 M (m_up M 159 0 0) 0 N (by omega) hS hq hU (by omega)
  refine ⟨r, jn X' M, jn X' Y', fun K q => ?_, fun K q => ?_, mk2 (by omega) hI hX i5 (hg.tr i6) (i3.mono (by omega)) (i4.mono (by omega))⟩
  · have : T_X11_days (nI n) (jn M M) K := by
      rw [T_X11_days, iw_pos cx, jl 10 (by omega)]
      exact ⟨fun w => absurd w (by decide), fun _ => ⟨fun _ => i1 M K 5000 (by omega) q, fun w => absurd cd w⟩⟩
    rw [jn_self] at this
    exact this
  · rw [T_X12_days]
    intro M1 e1
    rw [jn_uph (by omega)] at e1
    subst e1
    rw [ii_pos cx, jh 0 (by omega), eday]
    exact ⟨fun w => absurd w (by decide), fun _ => ⟨fun _ => i2 X' K 5000 (by omega) q, fun w => absurd cd w⟩⟩
/-- the model's row_v of now from a row_v of its own -/
def unR (Y : Mm) (b n : Nat) : Mm := fun a j => if a = 160 ∧ j < n then Y 161 (b + j) else Y a j
theorem unR_lp {c : Nat} {Y Z : Mm} {K : Int32 → Mm → Prop} (hc : c ≤ 5) (ec : Y 159 3 = nI c) (hK : K 1 (jn Z (unR Y (135 * c) 135))) : ∀ f i, i ≤ 135 → 135 - i < f → T_X12_undo_26 f (nI i) (jn Z (unR Y (135 * c) i)) K := by
  have y3 : ∀ i, unR Y (135 * c) i 159 3 = nI c := fun i => by unfold unR; rw [if_neg (by omega)]; exact ec
  intro f
  induction f with
  | zero => intro i _ h; exact absurd h (Nat.not_lt_zero _)
  | succ f ih =>
    intro i hi hf
    have e1 : (135 : Int32) * nI c + nI i = nI (135 * c + i) := by rw [show (135 : Int32) = nI 135 from rfl, pk_mul, nI_add]
    rw [T_X12_undo_26, jh 3 (by omega), y3, e1, nI_clamp (n := 135 * c + i) (by omega), nI_clamp (n := i) (by omega)]
    refine pk_le 135 i (fun h => ?_) (fun h => ⟨vp_in_nI (by omega) (by decide), vp_in_nI h (by decide), fun M4 e4 y6 e6 => ?_⟩)
    · have e : i = 135 := by omega
      subst e
      exact hK
    · have e : M4 = jn Z (unR Y (135 * c) (i + 1)) := by
        rw [e4, jh _ (by omega), jn_uph (by omega)]
        congr 1
        funext a j
        rw [mu]
        unfold unR
        by_cases w1 : a = 160 ∧ j = i
        · rw [if_pos w1, if_neg (by omega), if_pos (by omega), w1.2]
        · rw [if_neg w1]
          by_cases w2 : a = 160 ∧ j < i
          · rw [if_pos w2, if_pos (by omega)]
          · rw [if_neg w2, if_neg (by omega)]
      rw [e, e6, nI_1]
      exact ih (i + 1) (by omega) (by omega)
set_option maxHeartbeats 2000000 in
theorem ah_undo {N : Nat} {M : Mm} (h : Inv N M) : Ah T_X11_undo T_X12_undo N M := by
  have hf := h.t0 (x := 0)
  obtain ⟨np, nb, hI, hX, hS, hq, hU, hg⟩ := h.beg
  obtain ⟨f, c, hf6, hc, x1, x2, y3, hr⟩ := hU
  by_cases c0 : c = 0
  · subst c0
    refine Ag.ah ⟨0, M, m_up M 159 0 0, fun K q => ?_, fun K q => ?_, hf⟩
    · rw [T_X11_undo, T_X4_goBack, x2]
      exact ⟨fun _ => ⟨Or.inl rfl, q⟩, fun w => absurd rfl w⟩
    · rw [T_X12_undo]
      intro M1 e1
      subst e1
      rw [y3]
      exact ⟨fun _ => q, fun w => absurd rfl w⟩
  obtain ⟨d, rfl⟩ : ∃ d, c = d + 1 := ⟨c - 1, by omega⟩
  have hs : (f + d) % 6 < 6 := Nat.mod_lt _ (by omega)
  obtain ⟨q1, q2⟩ := qr_rng ((f + d) % 6)
  obtain ⟨X1, k1, k2⟩ := copyQ_ok (X := m_up M 79 2 (nI d)) (d_v := 8) (s_v := qr ((f + d) % 6)) (Or.inl rfl) (qr_isQ hs) (by omega)
  obtain ⟨r1, r2⟩ := hr d (by omega)
  have hm : ∀ t, t ≤ 6 → m_up M 79 2 (nI d) (qr ((f + d) % 6) + t) = M (qr ((f + d) % 6) + t) := fun t _ => m_up_ne (by omega)
  have r1' : IQ N (m_up M 79 2 (nI d)) (qr ((f + d) % 6)) (fun k => m_up M 159 0 0 161 (135 * d + k)) := r1.cg (fun _ _ => rfl) hm
  have r2' : WQ N np nb (m_up M 79 2 (nI d)) (qr ((f + d) % 6)) := r2.cg hm
  have hY : ∀ a j, ¬ (a = 160) → unR (m_up (m_up M 159 0 0) 159 3 (nI d)) (135 * d) 135 a j = m_up (m_up M 159 0 0) 159 3 (nI d) a j := fun a j ha => by unfold unR; rw [if_neg (fun w => ha w.1)]
  refine ⟨1, jn X1 M, jn X1 (unR (m_up (m_up M 159 0 0) 159 3 (nI d)) (135 * d) 135), fun K q => ?_, fun K q => ?_, mk2 (np := np) (nb := nb) (by omega) hI hX (fun a j z1 z2 z3 z4 => ?_) (fun a j z1 z2 z3 z4 z5 => ?_) ⟨r1'.cq k2 (fun k hk => ?_), (r2'.cq k2).mono (by omega), fun i hi => ?_⟩ (IU2.mono (N_v := N) ⟨f, d, hf6, by omega, ?_, ?_, ?_, fun i hi => ?_⟩ (by omega))⟩
  · have : T_X11_undo (jn M M) K := by
      rw [T_X11_undo, T_X4_goBack, jl 2 (by omega), x2]
      refine ⟨fun w => absurd w (nI_ne0 (by omega) (by omega)), fun _ M2 e2 => ?_⟩
      rw [nI_pred, jn_upl (by omega)] at e2
      subst e2
      have w1 : m_up M 79 2 (nI d) 79 1 = nI f := by rw [mu, if_neg (by omega)]; exact x1
      have w2 : m_up M 79 2 (nI d) 79 2 = nI d := by rw [mu, if_pos ⟨rfl, rfl⟩]
      rw [jl 1 (by omega), jl 2 (by omega), w1, w2, mod6 hf6 (by omega), nI_clamp (by omega)]
      exact ⟨vp_in_nI hs (by decide), k1 M _ ⟨Or.inr rfl, q⟩⟩
    rw [jn_self] at this
    exact this
  · rw [T_X12_undo]
    intro M1 e1
    rw [jn_uph (by omega)] at e1
    subst e1
    rw [jh 3 (by omega), y3]
    refine ⟨fun w => absurd w (nI_ne0 (by omega) (by omega)), fun _ M8 e8 => ?_⟩
    rw [nI_pred, jn_uph (by omega)] at e8
    have := unR_lp (c := d) (Y := m_up (m_up M 159 0 0) 159 3 (nI d)) (Z := X1) (K := K) (by omega) (by simp [mu]) q 5000 0 (by omega) (by omega)
    have e0 : unR (m_up (m_up M 159 0 0) 159 3 (nI d)) (135 * d) 0 = m_up (m_up M 159 0 0) 159 3 (nI d) := by
      funext a j
      unfold unR
      rw [if_neg (by omega)]
    rw [e0] at this
    rw [e8]
    exact this
  · rw [k2.1 a (by omega), m_up_ne (by omega)]
  · rw [hY a j z2, mu, if_neg z5]
    exact hg a j z1 z2 z3 z4 z5
  · unfold unR
    rw [if_pos ⟨rfl, hk⟩, mu, if_neg (by omega)]
  · rw [hY 168 i (by omega), k2.1 15 (by omega), mu, if_neg (by omega), m_up_ne (by omega)]
    exact hq.2.2 i hi
  · rw [k2.1 79 (by omega), mu, if_neg (by omega)]; exact x1
  · rw [k2.1 79 (by omega), mu, if_pos ⟨rfl, rfl⟩]
  · rw [hY 159 3 (by omega), mu, if_pos ⟨rfl, rfl⟩]
  · obtain ⟨w1, w2⟩ := qr_rng ((f + i) % 6)
    have hd : ∀ t, t ≤ 6 → X1 (qr ((f + i) % 6) + t) = M (qr ((f + i) % 6) + t) := fun t ht => by rw [k2.1 _ (by omega), m_up_ne (by omega)]
    refine ⟨(hr i (by omega)).1.cg (fun k hk => ?_) hd, (hr i (by omega)).2.cg hd⟩
    rw [hY 161 _ (by omega), mu, if_neg (by omega)]
