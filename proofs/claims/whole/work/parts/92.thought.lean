def thR (Y : Mm) (n : Nat) : Mm := fun a j => if a = 162 ∧ j < n then Y 160 j else Y a j
def enR (Y : Mm) (n : Nat) : Mm := fun a j => if a = 160 ∧ j < n then Y 162 j else Y a j
theorem thinks_ok {Y : Mm} : VM T_X12_thinks Y (m_up (thR Y 135) 159 5 1) := by
  intro Z K hK
  have L : ∀ f i, i ≤ 135 → 135 - i < f → T_X12_thinks_2 f (nI i) (jn Z (thR Y i)) K := by
    intro f
    induction f with
    | zero => intro i _ h; exact absurd h (Nat.not_lt_zero _)
    | succ f ih =>
      intro i hi hf
      rw [T_X12_thinks_2, nI_clamp (n := i) (by omega)]
      refine pk_le 135 i (fun h => ?_) (fun h => ⟨vp_in_nI h (by decide), vp_in_nI h (by decide), fun M4 e4 y6 e6 => ?_⟩)
      · have e : i = 135 := by omega
        subst e
        intro M2 e2
        rw [e2, jn_uph (by omega)]
        exact hK
      · have e : M4 = jn Z (thR Y (i + 1)) := by
          rw [e4, jh _ (by omega), jn_uph (by omega)]
          congr 1
          funext a j
          rw [mu]
          unfold thR
          by_cases w1 : a = 162 ∧ j = i
          · rw [if_pos w1, if_neg (by omega), if_pos (by omega), w1.2]
          · rw [if_neg w1]
            by_cases w2 : a = 162 ∧ j < i
            · rw [if_pos w2, if_pos (by omega)]
            · rw [if_neg w2, if_neg (by omega)]
        rw [e, e6, nI_1]
        exact ih (i + 1) (by omega) (by omega)
  have := L 5000 0 (by omega) (by omega)
  have e0 : thR Y 0 = Y := by
    funext a j
    unfold thR
    rw [if_neg (by omega)]
  rw [e0] at this
  rw [T_X12_thinks]
  exact this
theorem ends_ok {Y : Mm} : VM T_X12_endsThought Y (m_up (enR Y 135) 159 5 0) := by
  intro Z K hK
  have L : ∀ f i, i ≤ 135 → 135 - i < f → T_X12_endsThought_2 f (nI i) (jn Z (enR Y i)) K := by
    intro f
    induction f with
    | zero => intro i _ h; exact absurd h (Nat.not_lt_zero _)
    | succ f ih =>
      intro i hi hf
      rw [T_X12_endsThought_2, nI_clamp (n := i) (by omega)]
      refine pk_le 135 i (fun h => ?_) (fun h => ⟨vp_in_nI h (by decide), vp_in_nI h (by decide), fun M4 e4 y6 e6 => ?_⟩)
      · have e : i = 135 := by omega
        subst e
        intro M2 e2
        rw [e2, jn_uph (by omega)]
        exact hK
      · have e : M4 = jn Z (enR Y (i + 1)) := by
          rw [e4, jh _ (by omega), jn_uph (by omega)]
          congr 1
          funext a j
          rw [mu]
          unfold enR
          by_cases w1 : a = 160 ∧ j = i
          · rw [if_pos w1, if_neg (by omega), if_pos (by omega), w1.2]
          · rw [if_neg w1]
            by_cases w2 : a = 160 ∧ j < i
            · rw [if_pos w2, if_pos (by omega)]
            · rw [if_neg w2, if_neg (by omega)]
        rw [e, e6, nI_1]
        exact ih (i + 1) (by omega) (by omega)
  have := L 5000 0 (by omega) (by omega)
  have e0 : enR Y 0 = Y := by
    funext a j
    unfold enR
    rw [if_neg (by omega)]
  rw [e0] at this
  rw [T_X12_endsThought]
  exact this
set_option maxHeartbeats 1000000 in
/-- a thought begins -/
theorem dream_ok {N : Nat} {M : Mm} (h : Inv N M) : ∃ np nb X Y, IW N np nb M 1 (vn M) ∧ IX N M ∧ VC (T_X6_copyFrom 123 8) M X ∧ VM T_X12_thinks (m_up M 159 0 0) Y ∧ ST 131 123 np nb X Y ∧ QR N np nb 123 X Y ∧
    (∀ X' Y' N', N ≤ N' → fX 131 123 X X' → fY Y Y' → QR N' np nb 123 X' Y' → Inv N' (jn X' (m_up (enR Y' 135) 159 5 0))) := by
  obtain ⟨np, nb, hI, hX, hS, hq, hU, hg⟩ := h.beg
  obtain ⟨X, k1, k2⟩ := copyQ_ok (X := M) (d_v := 123) (s_v := 8) (by unfold isQ; omega) (Or.inl rfl) (by omega)
  have x131 : M 131 5 = 1 := hX.2.2.2.2.2.2.1
  have hY : ∀ a j, a ≠ 162 → ¬ (a = 159 ∧ j = 5) → m_up (thR (m_up M 159 0 0) 135) 159 5 1 a j = m_up M 159 0 0 a j := fun a j z1 z2 => by
    rw [mu, if_neg z2]
    unfold thR
    rw [if_neg (fun w => z1 w.1)]
  have hS1 : ST 131 123 np nb X (m_up (thR (m_up M 159 0 0) 135) 159 5 1) := by
    obtain ⟨-, hC, hL, hP, -, -⟩ := hS
    have V : ∀ k, vn (m_up (thR (m_up M 159 0 0) 135) 159 5 1) k = vn (m_up M 159 0 0) k := by
      intro k
      funext i
      unfold vn
      split
      case h_2 => split <;> exact hY _ _ (by omega) (by omega)
      all_goals exact hY _ _ (by omega) (by omega)
    exact ⟨Or.inr ⟨rfl, rfl⟩, hC.cg (fun d z1 z2 => k2.1 _ (by omega)) (by rw [V]) (by rw [V]) (fun k z1 z2 => V k), hL.cg (fun d z1 z2 => k2.1 _ (by omega)) (fun k z1 z2 => V k), hP.cg (fun d z1 z2 => k2.1 _ (by omega)) (fun i z1 z2 => by rw [V]) (V 7) (V 17) (V 18), fun z => absurd z (by omega), fun _ => ⟨by rw [k2.1 131 (by omega)]; exact x131, by simp [mu]⟩⟩
  refine ⟨np, nb, X, _, hI, hX, k1, thinks_ok, hS1, ⟨hq.1.cq k2 (fun k hk => hY _ _ (by omega) (by omega)), hq.2.1.cq k2, fun i hi => ?_⟩, ?_⟩
  · rw [hY 168 i (by omega) (by omega), k2.1 15 (by omega)]
    exact hq.2.2 i hi
  · intro X' Y' N' hN fx fy hq'
    have hE : ∀ a j, a ≠ 160 → ¬ (a = 159 ∧ j = 5) → m_up (enR Y' 135) 159 5 0 a j = Y' a j := fun a j z1 z2 => by
      rw [mu, if_neg z2]
      unfold enR
      rw [if_neg (fun w => z1 w.1)]
    have y5 : M 159 5 = 0 := hX.2.2.2.2.1
    have x8 : ∀ d, d ≤ 6 → X' (8 + d) = M (8 + d) := fun d hd => funext fun j => by
      rw [fx _ j (by omega) (by omega) (by omega) (by omega) (by omega), k2.1 _ (by omega)]
    have r160 : ∀ k, k < 135 → m_up (enR Y' 135) 159 5 0 160 k = m_up M 159 0 0 160 k := fun k hk => by
      rw [mu, if_neg (by omega)]
      unfold enR
      rw [if_pos ⟨rfl, hk⟩, fy 162 k (by omega) (by omega) (by omega) (by omega) (by omega), mu, if_neg (by omega)]
      unfold thR
      rw [if_pos ⟨rfl, hk⟩]
    refine mk2 (np := np) (nb := nb) hN hI hX (fun a j z1 z2 z3 z4 => ?_) (fun a j z1 z2 z3 z4 z5 => ?_) ⟨hq.1.cg r160 x8, (hq.2.1.cg x8).mono hN, fun i hi => ?_⟩ ((hU.cg (fun a h1 h2 => funext fun j => ?_) (funext fun j => ?_) ?_).mono hN)
    · rw [fX.g (Or.inr ⟨rfl, rfl⟩) fx a j z1 z2 z3 z4, k2.1 a (fun w => by rw [fre_123 (by omega)] at z2; cases z2)]
    · by_cases c5 : a = 159 ∧ j = 5
      · rw [c5.1, c5.2, mu, if_pos ⟨rfl, rfl⟩]
        exact y5.symm
      · rw [hE a j z2 c5, fy.g a j z1 z2 z3 z4 z5, hY a j (fun w => by rw [w] at z1; cases z1) c5]
        exact hg a j z1 z2 z3 z4 z5
    · rw [hE 168 i (by omega) (by omega)]
      exact hq'.2.2 i hi
    · rw [fx a j (by omega) (by omega) (by omega) (by omega) (by omega), k2.1 a (by omega)]
    · rw [hE 161 j (by omega) (by omega), fy 161 j (by omega) (by omega) (by omega) (by omega) (by omega), hY 161 j (by omega) (by omega)]
    · rw [hE 159 3 (by omega) (by omega), fy 159 3 (by omega) (by omega) (by omega) (by omega) (by omega), hY 159 3 (by omega) (by omega)]
set_option maxHeartbeats 1000000 in
theorem ah_would {N : Nat} {M : Mm} (h : Inv N M) (x y : Int32) : Ah (T_X11_would x y) (T_X12_would x y) N M := by
  have hf := h.t0 (x := 0)
  obtain ⟨np, nb, X, Y, hI, hX, k1, k2, hS, hq, fin_v⟩ := dream_ok h
  have ep : M 2 0 = nI np := hI.1.1.2.2.1
  have hp : np ≤ 16 := hI.1.1.2.2.2.2.1
  have ep2 : M 159 6 = nI np := hI.1.1.1.trans ep
  have ep3 : m_up M 159 0 0 159 6 = nI np := by simpa [mu] using ep2
  by_cases cx : ∃ k, k < np ∧ x = nI k
  rotate_left
  · exact Ag.ah ⟨-2, M, _, fun K q => by simpa [T_X11_would, hp_neg cx hp ep] using q, fun K q => by simpa [T_X12_would, ip_neg cx hp ep3] using q, hf⟩
  obtain ⟨p, hpn, rfl⟩ := cx
  by_cases cy : (0 : Int32) ≤ y ∧ y ≤ 2
  rotate_left
  · exact Ag.ah ⟨-2, M, _, fun K q => by simpa [T_X11_would, hp_pos rfl hpn hp ep, iw_neg cy] using q, fun K q => by simpa [T_X12_would, ip_pos rfl hpn hp ep3, ii_neg cy] using q, hf⟩
  obtain ⟨X', Y', n, t, b1, b2, b3, ⟨a6, a7, a7', -⟩, -, b6, b7, -, -, b9, b10⟩ := bids_ok hS hq hpn
  have hE : ∀ j, ¬ j = 5 → m_up (enR Y' 135) 159 5 0 159 j = Y' 159 j := fun j z2 => by
    rw [mu, if_neg (fun w => z2 w.2)]
    unfold enR
    rw [if_neg (by omega)]
  refine ⟨if y = 0 then X' 131 6 else if y = 1 then nI n else nI t, jn X' M, jn X' (m_up (enR Y' 135) 159 5 0), fun K q => ?_, fun K q => ?_, (fin_v X' Y' N (Nat.le_refl _) b6 b7 b3).mono (by omega)⟩
  · have : T_X11_would (nI p) y (jn M M) K := by
      rw [T_X11_would, hp_pos rfl hpn hp (by rw [jn_self]; exact ep)]
      refine ⟨fun w => absurd w (by decide), fun _ => ?_⟩
      rw [iw_pos cy]
      refine ⟨fun w => absurd w (by decide), fun _ => k1 M _ (b1 M _ ?_)⟩
      rw [jl 6 (by omega), jl 7 (by omega), jl 8 (by omega), a7, b9]
      refine ⟨fun w => ?_, fun w => ⟨fun w2 => ?_, fun w2 => ?_⟩⟩
      · rw [if_pos w] at q; exact q
      · rw [if_neg w, if_pos w2] at q; exact q
      · rw [if_neg w, if_neg w2] at q; exact q
    rw [jn_self] at this
    exact this
  · rw [T_X12_would]
    intro M1 e1
    rw [jn_uph (by omega)] at e1
    subst e1
    rw [ip_pos rfl hpn hp (by rw [jh 6 (by omega)]; exact ep3)]
    refine ⟨fun w => absurd w (by decide), fun _ => ?_⟩
    rw [ii_pos cy]
    refine ⟨fun w => absurd w (by decide), fun _ => k2 X' _ (b2 X' _ (ends_ok X' _ ?_))⟩
    rw [jh 46 (by omega), jh 45 (by omega), jh 47 (by omega), hE 46 (by omega), hE 45 (by omega), hE 47 (by omega), a7', b10, ← a6]
    refine ⟨fun w => ?_, fun w => ⟨fun w2 => ?_, fun w2 => ?_⟩⟩
    · rw [if_pos w] at q; exact q
    · rw [if_neg w, if_pos w2] at q; exact q
    · rw [if_neg w, if_neg w2] at q; exact q
set_option maxHeartbeats 2000000 in
/-- what the law_v tells_v of a parcel and a bidder -/
theorem of_law {N np nb p b k : Nat} {X Y : Mm} (hS : ST 130 8 np nb X Y) (h : QR N np nb 8 X Y) (hp : p < np) (hb : b < nb) (hk : k < 3) :
    ∃ r X' Y', (∀ (Z : Mm) (K : Int32 → Mm → Prop), K r (jn X' Z) → T_X0_setScene 130 (nI p) (nI b) 0 0 (jn X Z) (fun M10 => T_X2_tell 16 (nI (256 + k)) M10 K)) ∧ (k = 0 → OM (T_X12_bidsOf (nI p) (nI b) 0 0) Y r Y') ∧ (k = 1 → OM (T_X12_stepOf (nI p) (nI b) 0 0) Y r Y') ∧ (k = 2 → OM (T_X12_fullOf (nI p) (nI b) 0 0) Y r Y') ∧ (∀ a, a ≠ 21 → a ≠ 22 → X' a = X a) ∧ (∀ a, a ≠ 182 → a ≠ 183 → Y' a = Y a) := by
  obtain ⟨hA, ⟨⟨-, -, en, eb, hnp, hnb⟩, c2, c3⟩, -, -, h0, h1⟩ := id hS
  have cp : (nI p).toNatClampNeg = p := nI_clamp (by omega)
  have vp : vp_in (nI p) 16 := vp_in_nI (by omega) (by decide)
  have cb : (nI b).toNatClampNeg = b := nI_clamp (by omega)
  have vb : vp_in (nI b) 8 := vp_in_nI (by omega) (by decide)
  have gx : fX 130 8 X (scX X 8 p b 0 0) := fun a j _ _ z _ _ => by rw [scX_ne z]
  have gy : fY Y (asY Y p b 0 0) := fun a j _ _ z _ _ => by rw [asY_ne z]
  have hS1 := hS.fr gx gy
  obtain ⟨r, X1, Y1, t1, t2, -, t4, t5⟩ := tell_ok (k := k) (wo := unt (scv X 8 p b 0 0) k) hS1.2.2.1 (fun j hj => by rw [asY_at, scX_at]; exact sc_as hS h hp hb j hj) hk (by rw [scX_at])
  refine ⟨r, X1, Y1, fun Z K q => scene_ok hA en eb hnp hnb hp hb Z _ (t1 Z _ q), fun e Z K q => ?_, fun e Z K q => ?_, fun e Z K q => ?_, fun a z1 z2 => by rw [t4 a z2, scX_ne z1], fun a z1 z2 => by rw [t5 a z2, asY_ne z1]⟩
  · subst e
    rw [T_X12_bidsOf]
    refine asks_ok (by omega) (by omega) Z _ ⟨vb, ?_⟩
    rw [cb, jh b (by omega), asY_ne (by omega), show Y 166 b = X 6 b from (c3 b (by omega)).1]
    exact t2 Z _ q
  · subst e
    rw [T_X12_stepOf]
    refine asks_ok (by omega) (by omega) Z _ ⟨vb, ?_⟩
    rw [cb, jh b (by omega), asY_ne (by omega), show Y 167 b = X 7 b from (c3 b (by omega)).2.1]
    exact t2 Z _ q
  · subst e
    rw [T_X12_fullOf]
    refine asks_ok (by omega) (by omega) Z _ ⟨vp, ?_⟩
    rw [cp, jh p (by omega), asY_ne (by omega), show Y 164 p = X 4 p from (c2 p (by omega)).2.1]
    exact t2 Z _ q
set_option maxHeartbeats 4000000 in
theorem ah_of {N : Nat} {M : Mm} (h : Inv N M) (x y : Int32) : Ah (T_X11_of x y) (T_X12_of x y) N M := by
  have hf := h.t0 (x := 0)
  obtain ⟨np, nb, hI, hX, hS, hq, hU, hg⟩ := h.beg
  have ep : M 2 0 = nI np := hI.1.1.2.2.1
  have hp : np ≤ 16 := hI.1.1.2.2.2.2.1
  have ep2 : M 159 6 = nI np := hI.1.1.1.trans ep
  have ep3 : m_up M 159 0 0 159 6 = nI np := by simpa [mu] using ep2
  have en : M 2 1 = nI nb := hI.1.1.2.2.2.1
  have hn : nb ≤ 8 := hI.1.1.2.2.2.2.2
  have en2 : M 159 7 = nI nb := hI.1.1.2.1.trans en
  have en3 : m_up M 159 0 0 159 7 = nI nb := by simpa [mu] using en2
  by_cases cx : ∃ k, k < np ∧ x = nI k
  rotate_left
  · exact Ag.ah ⟨-2, M, _, fun K q => by simpa [T_X11_of, hp_neg cx hp ep] using q, fun K q => by simpa [T_X12_of, ip_neg cx hp ep3] using q, hf⟩
  obtain ⟨p, hpn, rfl⟩ := cx
  have vp : vp_in (nI p) 16 := vp_in_nI (by omega) (by decide)
  have cp : (nI p).toNatClampNeg = p := nI_clamp (by omega)
  have e9 : (9 : Int32) + nI nb = nI (9 + nb) := nI_add 9 nb
  have e19 : (19 : Int32) + nI nb = nI (19 + nb) := nI_add 19 nb
  have e29 : (29 : Int32) + nI nb = nI (29 + nb) := nI_add 29 nb
  have P1 := fun {K : Int32 → Mm → Prop} => hp_pos (M := M) (K := K) rfl hpn hp ep
  have P2 := fun {K : Int32 → Mm → Prop} => ip_pos (M := m_up M 159 0 0) (K := K) rfl hpn hp ep3
  by_cases c1 : (10 : Int32) ≤ y ∧ y ≤ 39
  · obtain ⟨w, hw1, hw2, rfl⟩ := rng (a := 10) (b := 39) (by decide) (by decide) c1
    have e10 : (10 : Int32) = nI 10 := rfl
    have ediv : nI w / 10 = nI (w / 10) := pk_div (d := 10) (by omega) (by omega) (by decide)
    have erem : nI w - nI w / 10 * 10 = nI (w % 10) := pk_rem (d := 10) (by omega) (by omega) (by decide)
    have nl : ∀ c, c < 10 → ¬ nI w = nI c := fun c hc z => by have := (nI_eq (by omega) (by omega)).mp z; omega
    have n0 := nl 0 (by omega)
    have n1 := nl 1 (by omega)
    have n2 := nl 2 (by omega)
    have n3 := nl 3 (by omega)
    have n4 := nl 4 (by omega)
    have n5 := nl 5 (by omega)
    have n0 : ¬ nI w = 0 := n0
    have n1 : ¬ nI w = 1 := n1
    have n2 : ¬ nI w = 2 := n2
    have n3 : ¬ nI w = 3 := n3
    have n4 : ¬ nI w = 4 := n4
    have n5 : ¬ nI w = 5 := n5
    have i1 : ((10 : Int32) ≤ nI w ∧ nI w ≤ nI (9 + nb)) ↔ (w < 20 ∧ w % 10 < nb) := by
      have a1 : (10 : Int32) ≤ nI w ↔ 10 ≤ w := nI_leI (a := 10) (by decide) (by omega)
      rw [a1, nI_leI (by omega) (by omega)]; omega
    have i2 : ((20 : Int32) ≤ nI w ∧ nI w ≤ nI (19 + nb)) ↔ (20 ≤ w ∧ w < 30 ∧ w % 10 < nb) := by
      have a1 : (20 : Int32) ≤ nI w ↔ 20 ≤ w := nI_leI (a := 20) (by decide) (by omega)
      rw [a1, nI_leI (by omega) (by omega)]; omega
    have i3 : ((30 : Int32) ≤ nI w ∧ nI w ≤ nI (29 + nb)) ↔ (30 ≤ w ∧ w % 10 < nb) := by
      have a1 : (30 : Int32) ≤ nI w ↔ 30 ≤ w := nI_leI (a := 30) (by decide) (by omega)
      rw [a1, nI_leI (by omega) (by omega)]; omega
    by_cases cb : w % 10 < nb
    · obtain ⟨r, X1, Y1, t1, t2, t3, t4, t5, t6⟩ := of_law (k := w / 10 - 1) hS hq hpn cb (by omega)
      have ew : (256 : Int32) + nI w / 10 - 1 = nI (256 + (w / 10 - 1)) := by
        rw [ediv, show (256 : Int32) = nI 256 from rfl, nI_add, show (1 : Int32) = nI 1 from rfl, pk_sub (by omega)]
        congr 1; omega
      have gx : gX M X1 := fun a j z1 z2 z3 z4 => by rw [t5 a (fun w => by rw [w] at z2; cases z2) (fun w => by rw [w] at z2; cases z2)]
      have gy : gY (m_up M 159 0 0) Y1 := fun a j z1 z2 z3 z4 z5 => by rw [t6 a (fun w => by rw [w] at z1; cases z1) (fun w => by rw [w] at z1; cases z1)]
      refine ⟨r, jn X1 M, jn X1 Y1, fun K q => ?_, fun K q => ?_, mk2 (by omega) hI hX gx (hg.tr gy) ((hq.cg (fun d hd => t5 _ (by omega) (by omega)) (t5 _ (by omega) (by omega)) (t6 _ (by omega) (by omega)) (t6 _ (by omega) (by omega))).mono (by omega)) ((hU.cg (fun a z1 z2 => t5 a (by omega) (by omega)) (t6 _ (by omega) (by omega)) (by rw [t6 159 (by omega) (by omega)])).mono (by omega))⟩
      · have : T_X11_of (nI p) (nI w) (jn M M) K := by
          rw [T_X11_of, hp_pos rfl hpn hp (by rw [jn_self]; exact ep)]
          refine ⟨fun z => absurd z (by decide), fun _ => ⟨fun z => absurd z n0, fun _ => ⟨fun z => absurd z n1, fun _ => ⟨fun z => absurd z n2, fun _ => ⟨fun z => absurd z n3, fun _ => ⟨fun z => absurd z n4, fun _ => ⟨fun z => absurd z n5, fun _ => ?_⟩⟩⟩⟩⟩⟩⟩
          rw [T_X11_lawOf, iw_pos c1, erem, ew]
          refine ⟨fun z => absurd z (by decide), fun _ => ?_⟩
          rw [hb_pos rfl cb hn (by rw [jn_self]; exact en)]
          exact ⟨fun z => absurd z (by decide), fun _ => t1 M _ q⟩
        rw [jn_self] at this
        exact this
      · rw [T_X12_of]
        intro M1 e1
        rw [jn_uph (by omega)] at e1
        subst e1
        rw [ip_pos rfl hpn hp (by rw [jh 6 (by omega)]; exact ep3), jh 7 (by omega), en3, e9]
        refine ⟨fun z => absurd z (by decide), fun _ => ?_⟩
        by_cases a1 : w < 20
        · rw [ii_pos (i1.mpr ⟨a1, cb⟩)]
          refine ⟨fun z => absurd z (by decide), fun _ => ?_⟩
          have es : nI w - 10 = nI (w % 10) := by
            rw [e10, pk_sub (by omega)]
            congr 1; omega
          rw [es]
          exact t2 (by omega) X1 _ q
        · rw [ii_neg (fun z => a1 (i1.mp z).1)]
          refine ⟨fun _ => ?_, fun z => absurd rfl z⟩
          rw [jh 7 (by omega), en3, e19]
          by_cases a2 : w < 30
          · rw [ii_pos (i2.mpr ⟨by omega, a2, cb⟩)]
            refine ⟨fun z => absurd z (by decide), fun _ => ?_⟩
            have es : nI w - 20 = nI (w % 10) := by
              rw [show (20 : Int32) = nI 20 from rfl, pk_sub (by omega)]
              congr 1; omega
            rw [es]
            exact t3 (by omega) X1 _ q
          · rw [ii_neg (fun z => a2 (i2.mp z).2.1)]
            refine ⟨fun _ => ?_, fun z => absurd rfl z⟩
            rw [jh 7 (by omega), en3, e29, ii_pos (i3.mpr ⟨by omega, cb⟩)]
            refine ⟨fun z => absurd z (by decide), fun _ => ?_⟩
            have es : nI w - 30 = nI (w % 10) := by
              rw [show (30 : Int32) = nI 30 from rfl, pk_sub (by omega)]
              congr 1; omega
            rw [es]
            exact t4 (by omega) X1 _ q
    · refine Ag.ah ⟨-2, M, m_up M 159 0 0, fun K q => ?_, fun K q => ?_, hf⟩
      · rw [T_X11_of, P1]
        refine ⟨fun z => absurd z (by decide), fun _ => ⟨fun z => absurd z n0, fun _ => ⟨fun z => absurd z n1, fun _ => ⟨fun z => absurd z n2, fun _ => ⟨fun z => absurd z n3, fun _ => ⟨fun z => absurd z n4, fun _ => ⟨fun z => absurd z n5, fun _ => ?_⟩⟩⟩⟩⟩⟩⟩
        rw [T_X11_lawOf, iw_pos c1, erem]
        refine ⟨fun z => absurd z (by decide), fun _ => ?_⟩
        rw [hb_neg (n := nb) (fun ⟨k, k1, k2⟩ => cb (by have := (nI_eq (by omega) (by omega)).mp k2; omega)) hn en]
        exact ⟨fun _ => q, fun z => absurd rfl z⟩
      · have j1 : ¬ ((10 : Int32) ≤ nI w ∧ nI w ≤ 9 + nI nb) := by rw [e9]; exact fun z => cb (i1.mp z).2
        have j2 : ¬ ((20 : Int32) ≤ nI w ∧ nI w ≤ 19 + nI nb) := by rw [e19]; exact fun z => cb (i2.mp z).2.2
        have j3 : ¬ ((30 : Int32) ≤ nI w ∧ nI w ≤ 29 + nI nb) := by rw [e29]; exact fun z => cb (i3.mp z).2
        simpa [T_X12_of, P2, en3, ii_neg j1, ii_neg j2, ii_neg j3, n0, n1, n2, n3, n4, n5] using q
  · have q1 := hq.1.2.1 p (by omega)
    have j1 : ¬ ((10 : Int32) ≤ y ∧ y ≤ 9 + nI nb) := fun z => c1 ⟨z.1, Int32.le_trans z.2 (by rw [e9]; exact nI_le (b := 39) (by omega) (by decide))⟩
    have j2 : ¬ ((20 : Int32) ≤ y ∧ y ≤ 19 + nI nb) := fun z => c1 ⟨Int32.le_trans (by decide) z.1, Int32.le_trans z.2 (by rw [e19]; exact nI_le (b := 39) (by omega) (by decide))⟩
    have j3 : ¬ ((30 : Int32) ≤ y ∧ y ≤ 29 + nI nb) := fun z => c1 ⟨Int32.le_trans (by decide) z.1, Int32.le_trans z.2 (by rw [e29]; exact nI_le (b := 39) (by omega) (by decide))⟩
    obtain ⟨v7, w7⟩ := vp_nat (x := 7 + nI p) (k := 7 + p) (n := 135) (nI_add 7 p) (by omega) (by decide)
    obtain ⟨v23, w23⟩ := vp_nat (x := 23 + nI p) (k := 23 + p) (n := 135) (nI_add 23 p) (by omega) (by decide)
    obtain ⟨v39, w39⟩ := vp_nat (x := 39 + nI p) (k := 39 + p) (n := 135) (nI_add 39 p) (by omega) (by decide)
    have d1 : M 163 p = M 3 p := (hI.1.2.1 p (by omega)).1
    have d2 : M 164 p = M 4 p := (hI.1.2.1 p (by omega)).2.1
    have d3 : M 165 p = M 5 p := (hI.1.2.1 p (by omega)).2.2.1
    have d4 : M 160 (7 + p) = M 9 p + 1 := (hI.2.1.1.2.1 p (by omega)).1
    have d5 : M 160 (23 + p) = M 10 p + 1 := (hI.2.1.1.2.1 p (by omega)).2.1
    have d6 : M 160 (39 + p) = M 11 p := (hI.2.1.1.2.1 p (by omega)).2.2
    have a0 : ∀ z : Int32, T_X11_lawOf (nI p) y M (fun r M2 => r = z ∧ M2 = M) → z = z := fun _ _ => rfl
    by_cases e0 : y = 0
    · subst e0; exact Ag.ah ⟨M 3 p, M, _, fun K q => by simpa [T_X11_of, P1, vp, cp] using q, fun K q => by simpa [T_X12_of, P2, en3, ii_neg j1, ii_neg j2, ii_neg j3, vp, cp, mu, d1] using q, hf⟩
    by_cases e1 : y = 1
    · subst e1; exact Ag.ah ⟨M 4 p, M, _, fun K q => by simpa [T_X11_of, P1, vp, cp] using q, fun K q => by simpa [T_X12_of, P2, en3, ii_neg j1, ii_neg j2, ii_neg j3, vp, cp, mu, d2] using q, hf⟩
    by_cases e2 : y = 2
    · subst e2; exact Ag.ah ⟨M 5 p, M, _, fun K q => by simpa [T_X11_of, P1, vp, cp] using q, fun K q => by simpa [T_X12_of, P2, en3, ii_neg j1, ii_neg j2, ii_neg j3, vp, cp, mu, d3] using q, hf⟩
    by_cases e3 : y = 3
    · subst e3; exact Ag.ah ⟨M 9 p, M, _, fun K q => by simpa [T_X11_of, P1, vp, cp] using q, fun K q => by simpa [T_X12_of, P2, en3, ii_neg j1, ii_neg j2, ii_neg j3, v7, w7, mu, d4, sub1_add1] using q, hf⟩
    by_cases e4 : y = 4
    · subst e4; exact Ag.ah ⟨M 10 p, M, _, fun K q => by simpa [T_X11_of, P1, vp, cp] using q, fun K q => by simpa [T_X12_of, P2, en3, ii_neg j1, ii_neg j2, ii_neg j3, v23, w23, mu, d5, sub1_add1] using q, hf⟩
    by_cases e5 : y = 5
    · subst e5; exact Ag.ah ⟨M 11 p, M, _, fun K q => by simpa [T_X11_of, P1, vp, cp] using q, fun K q => by simpa [T_X12_of, P2, en3, ii_neg j1, ii_neg j2, ii_neg j3, v39, w39, mu, d6] using q, hf⟩
    exact Ag.ah ⟨-2, M, _, fun K q => by simpa [T_X11_of, T_X11_lawOf, P1, e0, e1, e2, e3, e4, e5, iw_neg c1] using q, fun K q => by simpa [T_X12_of, P2, en3, ii_neg j1, ii_neg j2, ii_neg j3, e0, e1, e2, e3, e4, e5] using q, hf⟩
