/-! TEXT: who follows whom, who wants what -/
theorem nbd {v nb : Nat} (hv : v ≤ 9999) (hb : nb ≤ 16) (h : nI v ≤ nI nb - 1) : v < nb := by
  rcases Nat.eq_zero_or_pos nb with z | z
  · subst z
    have e : nI 0 - 1 = (-1 : Int32) := by decide
    rw [e, le_I, nI_toInt (by omega)] at h
    have : (-1 : Int32).toInt = -1 := by decide
    omega
  · obtain ⟨m, rfl⟩ : ∃ m, nb = m + 1 := ⟨nb - 1, by omega⟩
    rw [nI_pred, nI_leI (by omega) (by omega)] at h
    omega
theorem nbd' {v nb : Nat} (hv : v < nb) (hb : nb ≤ 16) : nI v ≤ nI nb - 1 := by
  obtain ⟨m, rfl⟩ : ∃ m, nb = m + 1 := ⟨nb - 1, by omega⟩
  rw [nI_pred]
  exact nI_le (by omega) (by omega)
def fC (a j : Nat) : Prop := tC a j ∨ (a = 144 ∧ j = 6) ∨ a = 145
def fM (a j : Nat) : Prop := tM a j ∨ (a = 179 ∧ 8 ≤ j)
def FC (n : Nat) (tk ps : Nat → Nat) (B : Mm) (i l : Nat) (g : Nat → Nat) (M : Mm) : Prop := TC n tk ps i M ∧ M 144 6 = nI l ∧ (∀ j, j < 8 → M 145 j + 1 = nI (g j)) ∧ ∀ a j, ¬ fC a j → M a j = B a j
def fF (a j : Nat) : Prop := fC a j ∨ (a = 132 ∧ 7 ≤ j ∧ j ≤ 8)
def FCf (B : Mm) (fk p : Nat) (M : Mm) : Prop := M 132 7 = nI fk ∧ M 132 8 = nI p ∧ ∀ a j, ¬ fF a j → M a j = B a j
def FM (ch : Nat → Nat) (k n : Nat) (tk ps en : Nat → Nat) (B : Mm) (i _l : Nat) (g : Nat → Nat) (M : Mm) : Prop := TM ch k n tk ps en i M ∧ (∀ j, j < 8 → M 179 (8 + j) = nI (g j)) ∧ ∀ a j, ¬ fM a j → M a j = B a j
def FMf (B : Mm) (fk p : Nat) (M : Mm) : Prop := M 159 33 = nI fk ∧ M 159 34 = nI p ∧ ∀ a j, ¬ fM a j → M a j = B a j
set_option maxHeartbeats 1000000 in
theorem fl_ok {ch : Nat → Nat} {k n nb : Nat} {tk ps en : Nat → Nat} (hS : TS ch k n tk ps en) (hb : nb ≤ 8) {i l : Nat} {g : Nat → Nat} (hi : i < n) (ht : tk i = 275) :
    (∃ fk p, (∀ B M K, B 136 4 = nI nb → FC n tk ps B i l g M → (∀ M', FCf B fk p M' → K 0 M') → T_X3_parseFollows M K) ∧ (∀ B M K, B 159 7 = nI nb → FM ch k n tk ps en B i l g M → (∀ M', FMf B fk p M' → K (-1) M') → T_X12_readFollow M K)) ∨
    (∃ i' g', i' ≤ n ∧ (∀ B M K, B 136 4 = nI nb → FC n tk ps B i l g M → (∀ M', FC n tk ps B i' (l + 1) g' M' → K 1 M') → T_X3_parseFollows M K) ∧ (∀ B M K, B 159 7 = nI nb → FM ch k n tk ps en B i l g M → (∀ M', FM ch k n tk ps en B i' (l + 1) g' M' → K 0 M') → T_X12_readFollow M K)) := by
  have hn := hS.n
  have cf : ∀ {B M M' : Mm} {fk p : Nat}, FC n tk ps B i l g M → PF M fk p M' → FCf B fk p M' := fun h h' => ⟨h'.1, h'.2.1, fun a j z => by rw [h'.2.2 a j (by unfold fF fC tC at z; unfold tF; omega)]; exact h.2.2.2 a j (fun w => z (Or.inl w))⟩
  have mf : ∀ {B M M' : Mm} {fk p : Nat}, FM ch k n tk ps en B i l g M → QF M fk p M' → FMf B fk p M' := fun h h' => ⟨h'.1, h'.2.1, fun a j z => by rw [h'.2.2 a j (fun w => z (Or.inl w))]; exact h.2.2 a j z⟩
  have ce : ∀ {B M M' : Mm} {i' : Nat}, B 136 4 = nI nb → FC n tk ps B i l g M → P0 n tk ps M i' M' → M' 136 4 = nI nb := fun hB h h' => by
    rw [h'.2 136 4 (by unfold tC; omega), h.2.2.2 136 4 (by unfold fC tC; omega)]
    exact hB
  have me : ∀ {B M M' : Mm} {i' : Nat}, B 159 7 = nI nb → FM ch k n tk ps en B i l g M → Q0 ch k n tk ps en M i' M' → M' 159 7 = nI nb := fun hB h h' => by
    rw [h'.2 159 7 (by unfold tM; omega), h.2.2 159 7 (by unfold fM tM; omega)]
    exact hB
  have c0 : ∀ B M K, B 136 4 = nI nb → FC n tk ps B i l g M → (∀ M2, P0 n tk ps M (i + 1) M2 → T_X3_takeNumber 0 (nI nb - 1) M2 (fun r5 M4 => (r5 = -1 → K 0 M4) ∧ (¬ r5 = -1 → T_X7_take 276 M4 (fun r9 M8 => (r9 = 0 → K 0 M8) ∧ (¬ r9 = 0 → T_X7_isNumber 0 (M8 136 4 - 1) M8 (fun r13 M12 => (r13 = 0 → K 0 M12) ∧ (¬ r13 = 0 → ∀ y15 : Int32, y15 = M12 132 6 - 1000 → (r5 = y15 → T_X7_refuse 2 M12 (fun r27 M26 => (r27 = 0 ∨ r27 = 1) ∧ K r27 M26)) ∧ (¬ r5 = y15 → T_X7_step M12 (fun M18 => T_X7_take 59 M18 (fun r21 M20 => (r21 = 0 → K 0 M20) ∧ (¬ r21 = 0 → T_X5_addFollows 144 r5 y15 M20 (fun M24 => K 1 M24)))))))))))) → T_X3_parseFollows M K := by
    intro B M K hB h hK
    have h0 : P0 n tk ps M i M := ⟨h.1, fun _ _ _ => rfl⟩
    rw [T_X3_parseFollows]
    refine pstep hn h0 hi (fun M2 h2 => ?_)
    rw [ce hB h h2]
    exact hK M2 h2
  have m0 : ∀ B M K, B 159 7 = nI nb → FM ch k n tk ps en B i l g M → (∀ M2, Q0 ch k n tk ps en M (i + 1) M2 → T_X12_readNumber 0 (nI nb - 1) M2 (fun r12 M11 => (r12 = -1 → K (-1) M11) ∧ (¬ r12 = -1 → T_X12_isWord 20 M11 (fun r16 M15 => (r16 = 0 → T_X12_errs 1 M15 (fun r27 M26 => K r27 M26)) ∧ (¬ r16 = 0 → T_X12_reads M15 (fun M19 => (M19 159 18 = 3 → (M19 159 19 = r12 → T_X12_errs 2 M19 (fun r24 M23 => K r24 M23)) ∧ (¬ M19 159 19 = r12 → T_X12_readFollow_62 r12 M19 K)) ∧ (¬ M19 159 18 = 3 → T_X12_readFollow_62 r12 M19 K))))))) → T_X12_readFollow M K := by
    intro B M K hB h hK
    have h0 : Q0 ch k n tk ps en M i M := ⟨h.1, fun _ _ _ => rfl⟩
    rw [T_X12_readFollow, me hB h h0]
    exact qw_y (w := 19) hS h0 hi (by omega) rfl ht hK
  rcases tn_ok hS (i := i + 1) (by omega) 0 (nI nb - 1) with ⟨fk, a1, a2⟩ | ⟨v, ai, av, ab, a1, a2⟩
  · exact Or.inl ⟨fk, ps (i + 1), fun B M K hB h hK => c0 B M K hB h (fun M2 h2 => a1 M M2 _ h2 (fun M' h' => ⟨fun _ => hK M' (cf h h'), fun z => absurd rfl z⟩)), fun B M K hB h hK => m0 B M K hB h (fun M2 h2 => a2 M M2 _ h2 (fun M' h' => ⟨fun _ => hK M' (mf h h'), fun z => absurd rfl z⟩))⟩
  have hv : v < nb := nbd av (by omega) ab.2
  have nm : ¬ nI v = -1 := nI_m1 (by omega)
  have tb2 := tkc_b (hS.c (i := i + 2) (by omega))
  by_cases e2 : tk (i + 2) = 276
  rotate_left
  · refine Or.inl ⟨1, ps (i + 2), fun B M K hB h hK => c0 B M K hB h (fun M2 h2 => a1 M M2 _ h2 (fun M' h' => ⟨fun z => absurd z nm, fun _ => pt_n (c := 276) hn h' rfl tb2 (by omega) e2 (fun M3 h3 => ⟨fun _ => hK M3 (cf h h3), fun z => absurd rfl z⟩)⟩)), fun B M K hB h hK => m0 B M K hB h (fun M2 h2 => a2 M M2 _ h2 (fun M' h' => ⟨fun z => absurd z nm, fun _ => iwd_n (w := 20) h'.1.2.2.2.2 (by omega) rfl (by omega) ⟨fun _ => qerr (fk := 1) h' rfl (fun M3 h3 => hK M3 (mf h h3)), fun z => absurd rfl z⟩⟩))⟩
  have hi2 : i + 2 < n := hS.z (by omega) (by omega)
  have c1 : ∀ B M K, B 136 4 = nI nb → FC n tk ps B i l g M → (∀ M8, P0 n tk ps M (i + 3) M8 → T_X7_isNumber 0 (nI nb - 1) M8 (fun r13 M12 => (r13 = 0 → K 0 M12) ∧ (¬ r13 = 0 → ∀ y15 : Int32, y15 = M12 132 6 - 1000 → (nI v = y15 → T_X7_refuse 2 M12 (fun r27 M26 => (r27 = 0 ∨ r27 = 1) ∧ K r27 M26)) ∧ (¬ nI v = y15 → T_X7_step M12 (fun M18 => T_X7_take 59 M18 (fun r21 M20 => (r21 = 0 → K 0 M20) ∧ (¬ r21 = 0 → T_X5_addFollows 144 (nI v) y15 M20 (fun M24 => K 1 M24)))))))) → T_X3_parseFollows M K := by
    intro B M K hB h hK
    refine c0 B M K hB h (fun M2 h2 => a1 M M2 _ h2 (fun M' h' => ⟨fun z => absurd z nm, fun _ => pt_y (c := 276) hn h' hi2 rfl e2 (fun M3 h3 => ⟨fun z => absurd z (by decide), fun _ => ?_⟩)⟩))
    rw [ce hB h h3]
    exact hK M3 h3
  have m1 : ∀ B M K, B 159 7 = nI nb → FM ch k n tk ps en B i l g M → (∀ M19, Q0 ch k n tk ps en M (i + 3) M19 → (M19 159 18 = 3 → (M19 159 19 = nI v → T_X12_errs 2 M19 (fun r24 M23 => K r24 M23)) ∧ (¬ M19 159 19 = nI v → T_X12_readFollow_62 (nI v) M19 K)) ∧ (¬ M19 159 18 = 3 → T_X12_readFollow_62 (nI v) M19 K)) → T_X12_readFollow M K := fun B M K hB h hK => m0 B M K hB h (fun M2 h2 => a2 M M2 _ h2 (fun M' h' => ⟨fun z => absurd z nm, fun _ => iwd_y (w := 20) h'.1.2.2.2.2 (by omega) rfl (by omega) ⟨fun z => absurd z (by decide), fun _ => qread hS h' hi2 hK⟩⟩))
  rcases tk_n (hS.c (i := i + 3) (by omega)) with ⟨u, u1, u2⟩ | b
  rotate_left
  · refine Or.inl ⟨1, ps (i + 3), fun B M K hB h hK => c1 B M K hB h (fun M8 h8 => pn_n hn h8 b (fun M' h' => ⟨fun _ => hK M' (cf h h'), fun z => absurd rfl z⟩)), fun B M K hB h hK => m1 B M K hB h (fun M19 h19 => ?_)⟩
    refine ⟨fun z => absurd ((tR_3 h19.1.2.2.2.2).mp z) (by omega), fun _ => ?_⟩
    rw [T_X12_readFollow_62]
    exact qn_n h19 b (fun M' h' => ⟨fun _ => hK M' (mf h h'), fun z => absurd rfl z⟩)
  have hi3 : i + 3 < n := hS.z (by omega) (by omega)
  have tv : ∀ (M M' : Mm), Q0 ch k n tk ps en M (i + 3) M' → M' 159 18 = 3 ∧ M' 159 19 = nI u := fun M M' h' => by
    obtain ⟨t1, t2⟩ := tR_n h'.1.2.2.2.2 (by omega)
    rw [u2, show 1000 + u - 1000 = u by omega] at t2
    exact ⟨t1, t2⟩
  have cv : ∀ (M M' : Mm) (y : Int32), P0 n tk ps M (i + 3) M' → y = M' 132 6 - 1000 → y = nI u := fun M M' y h' e => by
    rw [e, h'.1.2.2.2.1, u2, show (1000 : Int32) = nI 1000 from rfl, pk_sub (by omega), show 1000 + u - 1000 = u by omega]
  have quv : nI u = nI v ↔ u = v := nI_eq (by omega) (by omega)
  by_cases euv : u = v
  · refine Or.inl ⟨2, ps (i + 3), fun B M K hB h hK => c1 B M K hB h (fun M8 h8 => pn_y h8 u1 u2 (by rw [euv]; exact ab) ⟨fun z => absurd z (by decide), fun _ y15 g15 => ?_⟩), fun B M K hB h hK => m1 B M K hB h (fun M19 h19 => ?_)⟩
    · rw [cv _ _ _ h8 g15, euv]
      exact ⟨fun _ => pref (fk := 2) hn h8 rfl (fun M' h' => ⟨Or.inl rfl, hK M' (cf h h')⟩), fun z => absurd rfl z⟩
    · obtain ⟨t1, t2⟩ := tv _ _ h19
      rw [euv] at t2
      exact ⟨fun _ => ⟨fun _ => qerr (fk := 2) h19 rfl (fun M' h' => hK M' (mf h h')), fun z => absurd t2 z⟩, fun z => absurd t1 z⟩
  have m2 : ∀ B M K, B 159 7 = nI nb → FM ch k n tk ps en B i l g M → (∀ M19, Q0 ch k n tk ps en M (i + 3) M19 → T_X12_readFollow_62 (nI v) M19 K) → T_X12_readFollow M K := fun B M K hB h hK => m1 B M K hB h (fun M19 h19 => by
    obtain ⟨t1, t2⟩ := tv _ _ h19
    exact ⟨fun _ => ⟨fun z => absurd (quv.mp (t2.symm.trans z)) euv, fun _ => hK M19 h19⟩, fun z => absurd t1 z⟩)
  by_cases ub : (0 : Int32) ≤ nI u ∧ nI u ≤ nI nb - 1
  rotate_left
  · refine Or.inl ⟨2, ps (i + 3), fun B M K hB h hK => c1 B M K hB h (fun M8 h8 => pn_o hn h8 u1 u2 ub (fun M' h' => ⟨fun _ => hK M' (cf h h'), fun z => absurd rfl z⟩)), fun B M K hB h hK => m2 B M K hB h (fun M19 h19 => ?_)⟩
    rw [T_X12_readFollow_62, me hB h h19]
    exact qn_o h19 u2 ub (fun M' h' => ⟨fun _ => hK M' (mf h h'), fun z => absurd rfl z⟩)
  have num : ¬ nI u = -1 := nI_m1 (by omega)
  have tb4 := tkc_b (hS.c (i := i + 4) (by omega))
  have c2 : ∀ B M K, B 136 4 = nI nb → FC n tk ps B i l g M → (∀ M18, P0 n tk ps M (i + 4) M18 → T_X7_take 59 M18 (fun r21 M20 => (r21 = 0 → K 0 M20) ∧ (¬ r21 = 0 → T_X5_addFollows 144 (nI v) (nI u) M20 (fun M24 => K 1 M24)))) → T_X3_parseFollows M K := by
    intro B M K hB h hK
    refine c1 B M K hB h (fun M8 h8 => pn_y h8 u1 u2 ub ⟨fun z => absurd z (by decide), fun _ y15 g15 => ?_⟩)
    rw [cv _ _ _ h8 g15]
    exact ⟨fun z => absurd (quv.mp z.symm) euv, fun _ => pstep hn h8 hi3 hK⟩
  have m3 : ∀ B M K, B 159 7 = nI nb → FM ch k n tk ps en B i l g M → (∀ M5, Q0 ch k n tk ps en M5 (i + 4) M5 → (∀ a j, ¬ tM a j → M5 a j = m_up M 179 (8 + v) (nI (u + 1)) a j) → T_X12_readMark 59 M5 (fun r9 M8 => K r9 M8)) → T_X12_readFollow M K := by
    intro B M K hB h hK
    refine m2 B M K hB h (fun M19 h19 => ?_)
    have e8 : (8 : Int32) + nI v = nI (8 + v) := nI_add 8 v
    rw [T_X12_readFollow_62, me hB h h19, e8, nI_clamp (n := 8 + v) (by omega)]
    refine qn_y hS h19 hi3 u2 ub (fun M2 h2 => ⟨fun z => absurd z num, fun _ => ⟨vp_in_nI (by omega) (by decide), fun M5 g5 => ?_⟩⟩)
    rw [nI_1] at g5
    have E : ∀ a j, a ≠ 179 → M5 a j = M2 a j := fun a j z => by rw [g5, mu, if_neg (fun w => z w.1)]
    refine hK M5 ⟨h2.1.cg (fun j _ _ => E 159 j (by omega)) (fun j => E 169 j (by omega)) (fun j => E 170 j (by omega)), fun _ _ _ => rfl⟩ (fun a j z => ?_)
    rw [g5]
    exact up_cg (h2.2 a j z)
  by_cases e4 : tk (i + 4) = 59
  rotate_left
  · refine Or.inl ⟨1, ps (i + 4), fun B M K hB h hK => c2 B M K hB h (fun M18 h18 => pt_n (c := 59) hn h18 rfl tb4 (by omega) e4 (fun M3 h3 => ⟨fun _ => hK M3 (cf h h3), fun z => absurd rfl z⟩)), fun B M K hB h hK => m3 B M K hB h (fun M5 h5 e5 => qm_n h5 e4 (fun M' h' => hK M' ⟨h'.1, h'.2.1, fun a j z => ?_⟩))⟩
    have z1 : ¬ tM a j := fun w => z (Or.inl w)
    have z2 := z
    unfold fM at z2
    rw [h'.2.2 a j z1, e5 a j z1, mu, if_neg (by omega)]
    exact h.2.2 a j z
  have hi4 : i + 4 < n := hS.z (by omega) (by omega)
  have w07 : (0 : Int32) ≤ nI v ∧ nI v ≤ (7 : Int32) := ⟨nI_le (a := 0) (by omega) (by omega), nI_le (b := 7) (by omega) (by decide)⟩
  refine Or.inr ⟨i + 5, fup g v (u + 1), by omega, fun B M K hB h hK => c2 B M K hB h (fun M18 h18 => pt_y (c := 59) hn h18 hi4 rfl e4 (fun M20 h20 => ⟨fun z => absurd z (by decide), fun _ => ?_⟩)), fun B M K hB h hK => m3 B M K hB h (fun M5 h5 e5 => qm_y hS h5 hi4 e4 (fun M' h' => hK M' ⟨h'.1, fun j hj => ?_, fun a j z => ?_⟩))⟩
  · obtain ⟨d1, d2, d3, d4⟩ := h
    rw [T_X5_addFollows, iw_pos w07, nI_clamp (n := v) (by omega), show rf 144 0 = 145 from by decide]
    refine ⟨fun z => absurd z (by decide), fun _ => ⟨vp_in_nI (by omega) (by decide), fun N5 g5 N7 g7 => hK N7 ?_⟩⟩
    have w6 : N5 144 6 = nI l := by rw [g5, mu, if_neg (by omega), h20.2 144 6 (by unfold tC; omega)]; exact d2
    rw [w6, nI_1] at g7
    have E : ∀ a j, ¬ (a = 144 ∧ j = 6) → ¬ (a = 145 ∧ j = v) → N7 a j = M20 a j := fun a j z1 z2 => by rw [g7, mu, if_neg z1, g5, mu, if_neg z2]
    refine ⟨h20.1.cg (fun j _ _ => E 132 j (by omega) (by omega)) (fun j => E 134 j (by omega) (by omega)) (fun j => E 135 j (by omega) (by omega)), by rw [g7, mu, if_pos ⟨rfl, rfl⟩], fun j hj => ?_, fun a j z => ?_⟩
    · by_cases c : j = v
      · subst c
        rw [fup_e, g7, mu, if_neg (by omega), g5, mu, if_pos ⟨rfl, rfl⟩, nI_1]
      · rw [fup_n c, E 145 j (by omega) (by omega), h20.2 145 j (by unfold tC; omega)]
        exact d3 j hj
    · have z2 := z
      unfold fC at z2
      rw [E a j (by omega) (by omega), h20.2 a j (fun w => z (Or.inl w))]
      exact d4 a j z
  · rw [h'.2 179 (8 + j) (by unfold tM; omega), e5 179 (8 + j) (by unfold tM; omega), mu]
    by_cases c : j = v
    · subst c
      rw [if_pos ⟨rfl, rfl⟩, fup_e]
    · rw [if_neg (by omega), fup_n c]
      exact h.2.1 j hj
  · have z1 : ¬ tM a j := fun w => z (Or.inl w)
    have z2 := z
    unfold fM at z2
    rw [h'.2 a j z1, e5 a j z1, mu, if_neg (by omega)]
    exact h.2.2 a j z
