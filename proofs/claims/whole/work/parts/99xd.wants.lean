/-! TEXT: who wants what -/
theorem wn_ok {ch : Nat → Nat} {k n i w : Nat} {tk ps en : Nat → Nat} (hS : TS ch k n tk ps en) (hi : i ≤ n) (hw : w < 28) {x y lo hi' : Int32} (hx : x = nI (256 + w)) (hy : y = nI w) :
    (∃ fk p, (∀ (B M : Mm) (K C : Int32 → Mm → Prop), P0 n tk ps B i M → (∀ M', PF B fk p M' → K 0 M') → T_X7_take x M (fun r9 M8 => (r9 = 0 → K 0 M8) ∧ (¬ r9 = 0 → T_X3_takeNumber lo hi' M8 (fun r13 M12 => (r13 = -1 → K 0 M12) ∧ (¬ r13 = -1 → C r13 M12))))) ∧ (∀ (B M : Mm) (K D : Int32 → Mm → Prop), Q0 ch k n tk ps en B i M → (∀ M', QF B fk p M' → K (-1) M') → T_X12_readTold y lo hi' M (fun r7 M6 => (r7 = -1 → K (-1) M6) ∧ (¬ r7 = -1 → D r7 M6)))) ∨
    (∃ v, i + 2 ≤ n ∧ v ≤ 9999 ∧ (lo ≤ nI v ∧ nI v ≤ hi') ∧ (∀ (B M : Mm) (K C : Int32 → Mm → Prop), P0 n tk ps B i M → (∀ M', P0 n tk ps B (i + 2) M' → C (nI v) M') → T_X7_take x M (fun r9 M8 => (r9 = 0 → K 0 M8) ∧ (¬ r9 = 0 → T_X3_takeNumber lo hi' M8 (fun r13 M12 => (r13 = -1 → K 0 M12) ∧ (¬ r13 = -1 → C r13 M12))))) ∧ (∀ (B M : Mm) (K D : Int32 → Mm → Prop), Q0 ch k n tk ps en B i M → (∀ M', Q0 ch k n tk ps en B (i + 2) M' → D (nI v) M') → T_X12_readTold y lo hi' M (fun r7 M6 => (r7 = -1 → K (-1) M6) ∧ (¬ r7 = -1 → D r7 M6)))) := by
  have hn := hS.n
  have tb := tkc_b (hS.c hi)
  by_cases e : tk i = 256 + w
  rotate_left
  · exact Or.inl ⟨1, ps i, fun B M K C h hK => pt_n (c := 256 + w) hn h hx tb (by omega) e (fun M' h' => ⟨fun _ => hK M' h', fun z => absurd rfl z⟩), fun B M K D h hK => qw_n (w := w) h hw hy e (fun M' h' => ⟨fun _ => hK M' h', fun z => absurd rfl z⟩)⟩
  have hin : i < n := hS.z hi (by omega)
  rcases tn_ok hS (i := i + 1) (by omega) lo hi' with ⟨fk, a1, a2⟩ | ⟨v, ai, av, ab, a1, a2⟩
  · exact Or.inl ⟨fk, ps (i + 1), fun B M K C h hK => pt_y (c := 256 + w) hn h hin hx e (fun M' h' => ⟨fun z => absurd z (by decide), fun _ => a1 B M' _ h' (fun M2 h2 => ⟨fun _ => hK M2 h2, fun z => absurd rfl z⟩)⟩), fun B M K D h hK => qw_y (w := w) hS h hin hw hy e (fun M' h' => a2 B M' _ h' (fun M2 h2 => ⟨fun _ => hK M2 h2, fun z => absurd rfl z⟩))⟩
  · have nm : ¬ nI v = -1 := nI_m1 (by omega)
    exact Or.inr ⟨v, by omega, av, ab, fun B M K C h hK => pt_y (c := 256 + w) hn h hin hx e (fun M' h' => ⟨fun z => absurd z (by decide), fun _ => a1 B M' _ h' (fun M2 h2 => ⟨fun z => absurd z nm, fun _ => hK M2 h2⟩)⟩), fun B M K D h hK => qw_y (w := w) hS h hin hw hy e (fun M' h' => a2 B M' _ h' (fun M2 h2 => ⟨fun z => absurd z nm, fun _ => hK M2 h2⟩))⟩
def wC (a j : Nat) : Prop := tC a j ∨ (a = 144 ∧ j = 7) ∨ a = 146
def wM (a j : Nat) : Prop := tM a j ∨ (a = 181 ∧ 64 ≤ j)
def WC (n : Nat) (tk ps : Nat → Nat) (B : Mm) (i l : Nat) (g : Nat → Nat) (M : Mm) : Prop := TC n tk ps i M ∧ M 144 7 = nI l ∧ ((∀ j, j < 64 → M 146 j = nI (g j)) ∧ (∀ j, g j ≤ 99) ∧ ∀ b, b < 8 → g (8 * b) = 0) ∧ ∀ a j, ¬ wC a j → M a j = B a j
def wF (a j : Nat) : Prop := wC a j ∨ (a = 132 ∧ 7 ≤ j ∧ j ≤ 8)
def WCf (B : Mm) (fk p : Nat) (M : Mm) : Prop := M 132 7 = nI fk ∧ M 132 8 = nI p ∧ ∀ a j, ¬ wF a j → M a j = B a j
def WM (ch : Nat → Nat) (k n : Nat) (tk ps en : Nat → Nat) (B : Mm) (i _l : Nat) (g : Nat → Nat) (M : Mm) : Prop := TM ch k n tk ps en i M ∧ (∀ j, j < 64 → M 181 (64 + j) = nI (g j)) ∧ ∀ a j, ¬ wM a j → M a j = B a j
def WMf (B : Mm) (fk p : Nat) (M : Mm) : Prop := M 159 33 = nI fk ∧ M 159 34 = nI p ∧ ∀ a j, ¬ wM a j → M a j = B a j
set_option maxHeartbeats 1000000 in
theorem wl_ok {ch : Nat → Nat} {k n nb : Nat} {tk ps en : Nat → Nat} (hS : TS ch k n tk ps en) (hb : nb ≤ 8) {i l : Nat} {g : Nat → Nat} (hi : i < n) (ht : tk i = 275) :
    (∃ fk p, (∀ B M K, B 136 4 = nI nb → WC n tk ps B i l g M → (∀ M', WCf B fk p M' → K 0 M') → T_X3_parseWants M K) ∧ (∀ B M K, B 159 7 = nI nb → WM ch k n tk ps en B i l g M → (∀ M', WMf B fk p M' → K (-1) M') → T_X12_readWant M K)) ∨
    (∃ i' g', i' ≤ n ∧ (∀ B M K, B 136 4 = nI nb → WC n tk ps B i l g M → (∀ M', WC n tk ps B i' (l + 1) g' M' → K 1 M') → T_X3_parseWants M K) ∧ (∀ B M K, B 159 7 = nI nb → WM ch k n tk ps en B i l g M → (∀ M', WM ch k n tk ps en B i' (l + 1) g' M' → K 0 M') → T_X12_readWant M K)) := by
  have hn := hS.n
  have cf : ∀ {B M M' : Mm} {fk p : Nat}, WC n tk ps B i l g M → PF M fk p M' → WCf B fk p M' := fun h h' => ⟨h'.1, h'.2.1, fun a j z => by rw [h'.2.2 a j (by unfold wF wC tC at z; unfold tF; omega)]; exact h.2.2.2 a j (fun w => z (Or.inl w))⟩
  have mf : ∀ {B M M' : Mm} {fk p : Nat}, WM ch k n tk ps en B i l g M → QF M fk p M' → WMf B fk p M' := fun h h' => ⟨h'.1, h'.2.1, fun a j z => by rw [h'.2.2 a j (fun w => z (Or.inl w))]; exact h.2.2 a j z⟩
  have c0 : ∀ B M K, B 136 4 = nI nb → WC n tk ps B i l g M → (∀ M2, P0 n tk ps M (i + 1) M2 → T_X3_takeNumber 0 (nI nb - 1) M2 (fun r5 M4 => (r5 = -1 → K 0 M4) ∧ (¬ r5 = -1 → T_X7_take 282 M4 (fun r9 M8 => (r9 = 0 → K 0 M8) ∧ (¬ r9 = 0 → T_X3_takeNumber 1 7 M8 (fun r13 M12 => (r13 = -1 → K 0 M12) ∧ (¬ r13 = -1 → T_X7_take 283 M12 (fun r17 M16 => (r17 = 0 → K 0 M16) ∧ (¬ r17 = 0 → T_X3_takeNumber 0 99 M16 (fun r21 M20 => (r21 = -1 → K 0 M20) ∧ (¬ r21 = -1 → T_X7_take 59 M20 (fun r25 M24 => (r25 = 0 → K 0 M24) ∧ (¬ r25 = 0 → T_X5_addWants 144 r5 r13 r21 M24 (fun M28 => K 1 M28)))))))))))))) → T_X3_parseWants M K := by
    intro B M K hB h hK
    have h0 : P0 n tk ps M i M := ⟨h.1, fun _ _ _ => rfl⟩
    rw [T_X3_parseWants]
    refine pstep hn h0 hi (fun M2 h2 => ?_)
    have e : M2 136 4 = nI nb := by
      rw [h2.2 136 4 (by unfold tC; omega), h.2.2.2 136 4 (by unfold wC tC; omega)]
      exact hB
    rw [e]
    exact hK M2 h2
  have m0 : ∀ B M K, B 159 7 = nI nb → WM ch k n tk ps en B i l g M → (∀ M2, Q0 ch k n tk ps en M (i + 1) M2 → T_X12_readNumber 0 (nI nb - 1) M2 (fun r3 M2 => (r3 = -1 → K (-1) M2) ∧ (¬ r3 = -1 → T_X12_readTold 26 1 7 M2 (fun r7 M6 => (r7 = -1 → K (-1) M6) ∧ (¬ r7 = -1 → T_X12_readTold 27 0 99 M6 (fun r11 M10 => (r11 = -1 → K (-1) M10) ∧ (¬ r11 = -1 → vp_in (64 + 8 * r3 + r7) 128 ∧ ∀ M13 : Mm, M13 = m_up M10 181 (64 + 8 * r3 + r7).toNatClampNeg r11 → T_X12_readMark 59 M13 (fun r17 M16 => K r17 M16)))))))) → T_X12_readWant M K := by
    intro B M K hB h hK
    have h0 : Q0 ch k n tk ps en M i M := ⟨h.1, fun _ _ _ => rfl⟩
    have e : M 159 7 = nI nb := by
      rw [h.2.2 159 7 (by unfold wM tM; omega)]
      exact hB
    rw [T_X12_readWant, e]
    exact qw_y (w := 19) hS h0 hi (by omega) rfl ht hK
  rcases tn_ok hS (i := i + 1) (by omega) 0 (nI nb - 1) with ⟨fk, a1, a2⟩ | ⟨v, ai, av, ab, a1, a2⟩
  · exact Or.inl ⟨fk, ps (i + 1), fun B M K hB h hK => c0 B M K hB h (fun M2 h2 => a1 M M2 _ h2 (fun M' h' => ⟨fun _ => hK M' (cf h h'), fun z => absurd rfl z⟩)), fun B M K hB h hK => m0 B M K hB h (fun M2 h2 => a2 M M2 _ h2 (fun M' h' => ⟨fun _ => hK M' (mf h h'), fun z => absurd rfl z⟩))⟩
  have hv : v < nb := nbd av (by omega) ab.2
  have nm : ¬ nI v = -1 := nI_m1 (by omega)
  rcases wn_ok hS (i := i + 2) (w := 26) (x := 282) (y := 26) (lo := 1) (hi' := 7) (by omega) (by omega) rfl rfl with ⟨fk, p, b1, b2⟩ | ⟨u, bi, bv, bb, b1, b2⟩
  · exact Or.inl ⟨fk, p, fun B M K hB h hK => c0 B M K hB h (fun M2 h2 => a1 M M2 _ h2 (fun M' h' => ⟨fun z => absurd z nm, fun _ => b1 M M' _ _ h' (fun M3 h3 => hK M3 (cf h h3))⟩)), fun B M K hB h hK => m0 B M K hB h (fun M2 h2 => a2 M M2 _ h2 (fun M' h' => ⟨fun z => absurd z nm, fun _ => b2 M M' _ _ h' (fun M3 h3 => hK M3 (mf h h3))⟩))⟩
  have hu : 1 ≤ u ∧ u ≤ 7 := ⟨(nI_leI (a := 1) (by decide) (by omega)).mp bb.1, (nI_leI (b := 7) (by omega) (by decide)).mp bb.2⟩
  rcases wn_ok hS (i := i + 4) (w := 27) (x := 283) (y := 27) (lo := 0) (hi' := 99) (by omega) (by omega) rfl rfl with ⟨fk, p, d1, d2⟩ | ⟨q, di, dv, db, d1, d2⟩
  · exact Or.inl ⟨fk, p, fun B M K hB h hK => c0 B M K hB h (fun M2 h2 => a1 M M2 _ h2 (fun M' h' => ⟨fun z => absurd z nm, fun _ => b1 M M' _ _ h' (fun M3 h3 => d1 M M3 _ _ h3 (fun M4 h4 => hK M4 (cf h h4)))⟩)), fun B M K hB h hK => m0 B M K hB h (fun M2 h2 => a2 M M2 _ h2 (fun M' h' => ⟨fun z => absurd z nm, fun _ => b2 M M' _ _ h' (fun M3 h3 => d2 M M3 _ _ h3 (fun M4 h4 => hK M4 (mf h h4)))⟩))⟩
  have hq : q ≤ 99 := (nI_leI (b := 99) (by omega) (by decide)).mp db.2
  have c2 : ∀ B M K, B 136 4 = nI nb → WC n tk ps B i l g M → (∀ M20, P0 n tk ps M (i + 6) M20 → T_X7_take 59 M20 (fun r25 M24 => (r25 = 0 → K 0 M24) ∧ (¬ r25 = 0 → T_X5_addWants 144 (nI v) (nI u) (nI q) M24 (fun M28 => K 1 M28)))) → T_X3_parseWants M K := fun B M K hB h hK => c0 B M K hB h (fun M2 h2 => a1 M M2 _ h2 (fun M' h' => ⟨fun z => absurd z nm, fun _ => b1 M M' _ _ h' (fun M3 h3 => d1 M M3 _ _ h3 hK)⟩))
  have e64 : (64 : Int32) + 8 * nI v + nI u = nI (64 + (8 * v + u)) := by
    rw [show (64 : Int32) = nI 64 from rfl, show (8 : Int32) = nI 8 from rfl, pk_mul, nI_add, nI_add, Nat.add_assoc]
  have m3 : ∀ B M K, B 159 7 = nI nb → WM ch k n tk ps en B i l g M → (∀ M5, Q0 ch k n tk ps en M5 (i + 6) M5 → (∀ a j, ¬ tM a j → M5 a j = m_up M 181 (64 + (8 * v + u)) (nI q) a j) → T_X12_readMark 59 M5 (fun r9 M8 => K r9 M8)) → T_X12_readWant M K := by
    intro B M K hB h hK
    refine m0 B M K hB h (fun M2 h2 => a2 M M2 _ h2 (fun M' h' => ⟨fun z => absurd z nm, fun _ => b2 M M' _ _ h' (fun M3 h3 => d2 M M3 _ _ h3 (fun M4 h4 => ?_))⟩))
    rw [e64, nI_clamp (n := 64 + (8 * v + u)) (by omega)]
    refine ⟨vp_in_nI (by omega) (by decide), fun M5 g5 => ?_⟩
    have E : ∀ a j, a ≠ 181 → M5 a j = M4 a j := fun a j z => by rw [g5, mu, if_neg (fun w => z w.1)]
    refine hK M5 ⟨h4.1.cg (fun j _ _ => E 159 j (by omega)) (fun j => E 169 j (by omega)) (fun j => E 170 j (by omega)), fun _ _ _ => rfl⟩ (fun a j z => ?_)
    rw [g5]
    exact up_cg (h4.2 a j z)
  have tb6 := tkc_b (hS.c (i := i + 6) (by omega))
  by_cases e4 : tk (i + 6) = 59
  rotate_left
  · refine Or.inl ⟨1, ps (i + 6), fun B M K hB h hK => c2 B M K hB h (fun M18 h18 => pt_n (c := 59) hn h18 rfl tb6 (by omega) e4 (fun M3 h3 => ⟨fun _ => hK M3 (cf h h3), fun z => absurd rfl z⟩)), fun B M K hB h hK => m3 B M K hB h (fun M5 h5 e5 => qm_n h5 e4 (fun M' h' => hK M' ⟨h'.1, h'.2.1, fun a j z => ?_⟩))⟩
    have z1 : ¬ tM a j := fun w => z (Or.inl w)
    have z2 := z
    unfold wM at z2
    rw [h'.2.2 a j z1, e5 a j z1, mu, if_neg (by omega)]
    exact h.2.2 a j z
  have hi6 : i + 6 < n := hS.z (by omega) (by omega)
  have w07 : (0 : Int32) ≤ nI v ∧ nI v ≤ (7 : Int32) := ⟨nI_le (a := 0) (by omega) (by omega), nI_le (b := 7) (by omega) (by decide)⟩
  have e8 : nI v * 8 + nI u = nI (8 * v + u) := by
    rw [show (8 : Int32) = nI 8 from rfl, pk_mul, nI_add, Nat.mul_comm]
  refine Or.inr ⟨i + 7, fup g (8 * v + u) q, by omega, fun B M K hB h hK => c2 B M K hB h (fun M18 h18 => pt_y (c := 59) hn h18 hi6 rfl e4 (fun M20 h20 => ⟨fun z => absurd z (by decide), fun _ => ?_⟩)), fun B M K hB h hK => m3 B M K hB h (fun M5 h5 e5 => qm_y hS h5 hi6 e4 (fun M' h' => hK M' ⟨h'.1, fun j hj => ?_, fun a j z => ?_⟩))⟩
  · obtain ⟨f1, f2, ⟨f3, f5, f6⟩, f4⟩ := h
    rw [T_X5_addWants, iw_pos w07]
    refine ⟨fun z => absurd z (by decide), fun _ => ?_⟩
    rw [iw_pos bb, e8, nI_clamp (n := 8 * v + u) (by omega), show rf 144 1 = 146 from by decide]
    refine ⟨fun z => absurd z (by decide), fun _ => ⟨vp_in_nI (by omega) (by decide), fun N5 g5 N7 g7 => hK N7 ?_⟩⟩
    have w6 : N5 144 7 = nI l := by rw [g5, mu, if_neg (by omega), h20.2 144 7 (by unfold tC; omega)]; exact f2
    rw [w6, nI_1] at g7
    have E : ∀ a j, ¬ (a = 144 ∧ j = 7) → ¬ (a = 146 ∧ j = 8 * v + u) → N7 a j = M20 a j := fun a j z1 z2 => by rw [g7, mu, if_neg z1, g5, mu, if_neg z2]
    refine ⟨h20.1.cg (fun j _ _ => E 132 j (by omega) (by omega)) (fun j => E 134 j (by omega) (by omega)) (fun j => E 135 j (by omega) (by omega)), by rw [g7, mu, if_pos ⟨rfl, rfl⟩], ⟨fun j hj => ?_, fun j => ?_, fun b hb => ?_⟩, fun a j z => ?_⟩
    · by_cases c : j = 8 * v + u
      · rw [c, fup_e, g7, mu, if_neg (by omega), g5, mu, if_pos ⟨rfl, rfl⟩]
      · rw [fup_n c, E 146 j (by omega) (by omega), h20.2 146 j (by unfold tC; omega)]
        exact f3 j hj
    · by_cases c : j = 8 * v + u
      · rw [c, fup_e]; exact hq
      · rw [fup_n c]; exact f5 j
    · rw [fup_n (by omega)]; exact f6 b hb
    · have z2 := z
      unfold wC at z2
      rw [E a j (by omega) (by omega), h20.2 a j (fun w => z (Or.inl w))]
      exact f4 a j z
  · rw [h'.2 181 (64 + j) (by unfold tM; omega), e5 181 (64 + j) (by unfold tM; omega), mu]
    by_cases c : j = 8 * v + u
    · rw [c, if_pos ⟨rfl, rfl⟩, fup_e]
    · rw [if_neg (by omega), fup_n c]
      exact h.2.1 j hj
  · have z1 : ¬ tM a j := fun w => z (Or.inl w)
    have z2 := z
    unfold wM at z2
    rw [h'.2 a j z1, e5 a j z1, mu, if_neg (by omega)]
    exact h.2.2 a j z
