/-! TEXT: one case, by how deep_v -/
theorem ctk_y {n i c : Nat} {tk ps : Nat → Nat} {B M : Mm} {K : Int32 → Mm → Prop} {cs : List (Nat × Nat)} {x : Int32} (hn : n ≤ 400) (h : CQ n tk ps B i cs M) (hi : i < n) (hx : x = nI c) (hc : tk i = c) (hK : ∀ M', CQ n tk ps B (i + 1) cs M' → K 1 M') : T_X7_take x M K := by
  rw [T_X7_take, h.1.2.2.2.1, hc, hx]
  exact ⟨fun _ => cstep hn h hi hK, fun z => absurd rfl z⟩
theorem ctk_n {n i c : Nat} {tk ps : Nat → Nat} {B M : Mm} {K : Int32 → Mm → Prop} {cs : List (Nat × Nat)} {x : Int32} (hn : n ≤ 400) (h : CQ n tk ps B i cs M) (hx : x = nI c) (hb : tk i ≤ 10999) (hcb : c ≤ 10999) (hc : ¬ tk i = c) (hK : ∀ M', CFt B 1 (ps i) M' → K 0 M') : T_X7_take x M K := by
  have q : nI (tk i) = nI c ↔ tk i = c := nI_eq (by omega) (by omega)
  rw [T_X7_take, h.1.2.2.2.1, hx, q]
  exact ⟨fun z => absurd z hc, fun _ => cref (fk := 1) hn h rfl (fun M' h' => ⟨Or.inl rfl, hK M' h'⟩)⟩
theorem rep_s {a : Nat × Nat} {q : Nat} : [a] ++ List.replicate q a = List.replicate (q + 1) a := rfl
set_option maxHeartbeats 1000000 in
theorem case_ok {ch : Nat → Nat} {k n : Nat} {tk ps en : Nat → Nat} (hS : TS ch k n tk ps en) : ∀ (g o i : Nat) (cs : List (Nat × Nat)), g + o = 10 → o ≤ 8 → i ≤ n → cs.length ≤ i → CaS ch k n tk ps en (T_X3_parseCase g) o i cs := by
  have hn := hS.n
  intro g
  induction g with
  | zero => intro o i cs h1 h2; exact absurd h1 (by omega)
  | succ g ih =>
    intro o i cs hgo ho hi hl
    have tb := tkc_b (hS.c hi)
    have c262 : nI (tk i) = (262 : Int32) ↔ tk i = 262 := nI_eq (b := 262) (by omega) (by decide)
    have c40 : nI (tk i) = (40 : Int32) ↔ tk i = 40 := nI_eq (b := 40) (by omega) (by decide)
    by_cases hop : tk i = 262 ∨ tk i = 40
    rotate_left
    · have n1 : ¬ tk i = 262 := fun z => hop (Or.inl z)
      have n2 : ¬ tk i = 40 := fun z => hop (Or.inr z)
      have mgo : ∀ (B M : Mm) (K : Int32 → Mm → Prop) (f b o' : Nat) (s : List Nat), MP ch k n tk ps en B i cs s o' M → T_X12_readCompared M (fun r65 M64 => (r65 = -1 → K (-1) M64) ∧ (¬ r65 = -1 → T_X12_settles 9 M64 (fun M68 => T_X12_readAny_9 f (nI b) 0 M68 K))) → T_X12_readAny_9 (f + 1) (nI b) 1 M K := by
        intro B M K f b o' s h hK
        have hr := h.1.2.2.2.2
        rw [T_X12_readAny_9]
        refine ⟨fun z => absurd z (by decide), fun _ => ?_⟩
        refine iwd_n (w := 6) hr (by omega) rfl (by omega) ⟨fun _ => ?_, fun z => absurd rfl z⟩
        exact isg_n (s := 40) hr (by unfold isSn; omega) rfl n2 ⟨fun _ => hK, fun z => absurd rfl z⟩
      rcases cmp_ok hS hi hl n1 n2 with ⟨fk, p, a1, a2⟩ | ⟨i', ex, ai, a0, a1, a2⟩
      · refine Or.inl ⟨fk, p, fun B M K h hK => ?_, fun B M K q f b s hq hb hs hc ht h hf hK => ?_⟩
        · rw [T_X3_parseCase]
          exact a1 _ _ B M K h hK
        · obtain ⟨f, rfl⟩ : ∃ g, f = g + 1 := ⟨f - 1, by omega⟩
          exact mgo B M K f b o _ h (a2 M M _ h.me (fun M' h' => ⟨fun _ => hK M' (h.f h'), fun z => absurd rfl z⟩))
      · have x1 := a0.1
        have x2 := a0.2.1
        refine Or.inr ⟨i', ex, ai, a0.w (by omega), fun B M K h hK => ?_, fun B M K q f b s hq hb hs hc ht h hf hK => ?_⟩
        · rw [T_X3_parseCase]
          exact a1 _ _ B M K h hK
        · obtain ⟨f, rfl⟩ : ∃ g, f = g + 1 := ⟨f - 1, by omega⟩
          refine mgo B M K f b o _ h (a2 M M _ h.me (fun M' h' => ⟨fun z => absurd z (by decide), fun _ => ?_⟩))
          rw [T_X12_settles]
          exact pset_9 ht q 5000 o (cs ++ ex) M' (by omega) hq (by omega) (by rw [List.length_append]; omega) (h.of h') (fun M2 h2 => hK M2 f (by omega) h2)
    have hin : i < n := hS.z hi (by omega)
    -- the class at an opener
    have c100_v : ∀ (M : Mm) (K : Int32 → Mm → Prop) (B : Mm), CQ n tk ps B i cs M → T_X3_parseCaseB_100 (T_X3_parseCase g) (nI o) (nI (tk i)) M K → T_X3_parseCase (g + 1) (nI o) M K := by
      intro M K B h h100
      rw [T_X3_parseCase, T_X3_parseCaseB]
      intro y34 g34
      rw [g34, h.1.2.2.2.1]
      refine ⟨fun _ => h100, fun z1 => ⟨fun _ => h100, fun z2 => absurd hop (fun q => q.elim (fun q => z1 (c262.mpr q)) (fun q => z2 (c40.mpr q)))⟩⟩
    have m33 : ∀ (M : Mm) (K : Int32 → Mm → Prop) (f b : Nat), tokR (tk i) (M 159 18) (M 159 19) → T_X12_readAny_33 (fun x1 x2 M => T_X12_readAny_9 f x1 x2 M K) (nI b) 1 (if tk i = 262 then 1 else 0) M K → T_X12_readAny_9 (f + 1) (nI b) 1 M K := by
      intro M K f b hr h33
      rw [T_X12_readAny_9]
      refine ⟨fun z => absurd z (by decide), fun _ => ?_⟩
      by_cases e : tk i = 262
      · rw [if_pos e] at h33
        exact iwd_y (w := 6) hr (by omega) rfl e ⟨fun z => absurd z (by decide), fun _ => h33⟩
      · rw [if_neg e] at h33
        refine iwd_n (w := 6) hr (by omega) rfl e ⟨fun _ => ?_, fun z => absurd rfl z⟩
        exact isg_y (s := 40) hr (by unfold isSn; omega) rfl (by omega) ⟨fun z => absurd z (by decide), fun _ => h33⟩
    by_cases ho8 : o = 8
    · subst ho8
      refine Or.inl ⟨3, ps i, fun B M K h hK => c100_v M K B h ?_, fun B M K q f b s hq hb hs hc ht h hf hK => ?_⟩
      · rw [T_X3_parseCaseB_100]
        exact ⟨fun z => absurd z (by decide), fun _ => cref (fk := 3) hn h rfl (fun M' h' => ⟨Or.inl rfl, hK M' h'⟩)⟩
      · obtain ⟨f, rfl⟩ : ∃ g, f = g + 1 := ⟨f - 1, by omega⟩
        refine m33 M K f b h.1.2.2.2.2 ?_
        rw [T_X12_readAny_33]
        exact ⟨fun _ => perr (fk := 3) h rfl hK, fun z => absurd h.2.2.2.1 z⟩
    have ho7 : o < 8 := by omega
    have ihC : ∀ i cs, i ≤ n → cs.length ≤ i → CaS ch k n tk ps en (T_X3_parseCase g) (o + 1) i cs := fun i cs h1 h2 => ih (o + 1) i cs (by omega) (by omega) h1 h2
    have o8 : nI o < (8 : Int32) := nI_lt (b := 8) (by omega) (by decide)
    -- the model opens one
    have mo7 : ∀ (B M M7 : Mm) (s : List Nat), MP ch k n tk ps en B i cs s o M → M7 = m_up M 159 30 (M 159 30 + 1) → MP ch k n tk ps en B i cs s (o + 1) M7 := by
      intro B M M7 s h g7
      obtain ⟨a1, a2, a3, a4, a5, a6, a7⟩ := h
      rw [a4, nI_1] at g7
      have E : ∀ a j, ¬ (a = 159 ∧ j = 30) → M7 a j = M a j := fun a j z => by rw [g7, mu, if_neg z]
      exact ⟨a1.cg (fun j _ _ => E 159 j (by omega)) (fun j => E 169 j (by omega)) (fun j => E 170 j (by omega)), by rw [E 159 29 (by omega)]; exact a2, fun j y hy => by rw [E 176 _ (by omega), E 177 _ (by omega)]; exact a3 j y hy, by rw [g7, mu, if_pos ⟨rfl, rfl⟩], by rw [E 159 32 (by omega)]; exact a5, a6.cg (fun j _ => E 178 j (by omega)), fun a j z => by rw [E a j (by unfold xM at z; omega)]; exact a7 a j z⟩
    have n8 : ∀ (B M : Mm) (s : List Nat), MP ch k n tk ps en B i cs s o M → ¬ M 159 30 = 8 := fun B M s h z => by
      rw [h.2.2.2.1] at z
      exact absurd ((nI_eq (b := 8) (by omega) (by decide)).mp z) ho8
    by_cases e262 : tk i = 262
    · -- not
      have cgo : ∀ (B M : Mm) (K : Int32 → Mm → Prop), CQ n tk ps B i cs M → (∀ M', CQ n tk ps B (i + 1) cs M' → T_X3_parseCase g (nI (o + 1)) M' (fun r7 M6 => (r7 = 0 → K 0 M6) ∧ (¬ r7 = 0 → T_X2_add 137 20262 M6 (fun r11 M10 => (r11 = 0 → K 0 M10) ∧ (¬ r11 = 0 → K 1 M10))))) → T_X3_parseCase (g + 1) (nI o) M K := by
        intro B M K h hK
        refine c100_v M K B h ?_
        rw [T_X3_parseCaseB_100, e262]
        refine ⟨fun _ => cstep hn h hin (fun M' h' => ⟨fun z => absurd z (by decide), fun _ => ?_⟩), fun z => absurd o8 z⟩
        rw [nI_1]
        exact hK M' h'
      have mgo : ∀ (B M : Mm) (K : Int32 → Mm → Prop) (q f b : Nat) (s : List Nat), q ≤ o → q + s.length ≤ 3 * o + 2 → MP ch k n tk ps en B i cs (List.replicate q 9 ++ s) o M → (∀ M', MP ch k n tk ps en B (i + 1) cs (List.replicate (q + 1) 9 ++ s) (o + 1) M' → T_X12_readAny_9 f (nI b) 1 M' K) → T_X12_readAny_9 (f + 1) (nI b) 1 M K := by
        intro B M K q f b s hq hs h hK
        refine m33 M K f b h.1.2.2.2.2 ?_
        rw [if_pos e262, T_X12_readAny_33]
        refine ⟨fun z => absurd z (n8 B M _ h), fun _ M7 g7 => ⟨fun z => absurd z (by decide), fun _ => ?_⟩⟩
        rw [T_X12_readAny_66]
        refine ⟨fun z => absurd z (by decide), fun _ => ?_⟩
        rw [T_X12_readAny_78]
        have le : (List.replicate q 9 ++ s).length = q + s.length := by rw [List.length_append, List.length_replicate]
        exact pwait (w := 9) (mo7 B M M7 _ h g7) (by omega) rfl (fun M2 h2 => pread hS h2 hin hK)
      rcases ihC (i + 1) cs (by omega) (by omega) with ⟨fk, p, a1, a2⟩ | ⟨i', ex, ai, a0, a1, a2⟩
      · refine Or.inl ⟨fk, p, fun B M K h hK => cgo B M K h (fun M' h' => a1 B M' _ h' (fun M2 h2 => ⟨fun _ => hK M2 h2, fun z => absurd rfl z⟩)), fun B M K q f b s hq hb hs hc ht h hf hK => ?_⟩
        obtain ⟨f, rfl⟩ : ∃ g, f = g + 1 := ⟨f - 1, by omega⟩
        exact mgo B M K q f b s hq hs h (fun M' h' => a2 B M' K (q + 1) f b s (by omega) (by omega) (by omega) (by omega) ht h' (by omega) hK)
      · obtain ⟨x1, x2, x3, x4⟩ := a0
        have len : (cs ++ ex).length < 400 := by rw [List.length_append]; omega
        refine Or.inr ⟨i', ex ++ [(9, 0)], ai, ⟨by omega, by rw [List.length_append]; show ex.length + 1 + i ≤ i'; omega, ok_app x3 (ok_1 (Or.inr (Or.inr (by decide)))), fun u hu => (x4 u (by omega)).app (tyA.one (fun p => Or.inr (Or.inr (Or.inr (Or.inr (Or.inl ⟨rfl, u, rfl, rfl⟩))))))⟩, fun B M K h hK => cgo B M K h (fun M' h' => a1 B M' _ h' (fun M2 h2 => ⟨fun z => absurd z (by decide), fun _ => cadd (9, 0) h2 len rfl (fun M3 h3 => ⟨fun z => absurd z (by decide), fun _ => hK M3 (by rw [List.append_assoc] at h3; exact h3)⟩)⟩)), fun B M K q f b s hq hb hs hc ht h hf hK => ?_⟩
        obtain ⟨f, rfl⟩ : ∃ g, f = g + 1 := ⟨f - 1, by omega⟩
        refine mgo B M K q f b s hq hs h (fun M' h' => a2 B M' K (q + 1) f b s (by omega) (by omega) (by omega) (by omega) ht h' (by omega) (fun M2 f2 hf2 h2 => hK M2 f2 hf2 ?_))
        rw [← rep_s, ← List.append_assoc, show o + 1 - (q + 1) = o - q by omega, List.append_assoc cs ex] at h2
        exact h2
    · -- a bracket
      have e40 : tk i = 40 := hop.resolve_left e262
      have cgo : ∀ (B M : Mm) (K : Int32 → Mm → Prop), CQ n tk ps B i cs M → (∀ M', CQ n tk ps B (i + 1) cs M' → T_X3_parseEither (T_X3_parseCase g) (nI (o + 1)) M' (fun r15 M14 => (r15 = 0 → K 0 M14) ∧ (¬ r15 = 0 → T_X7_take 41 M14 (fun r19 M18 => (r19 = 0 → K 0 M18) ∧ (¬ r19 = 0 → K 1 M18))))) → T_X3_parseCase (g + 1) (nI o) M K := by
        intro B M K h hK
        refine c100_v M K B h ?_
        rw [T_X3_parseCaseB_100, e40]
        refine ⟨fun _ => cstep hn h hin (fun M' h' => ⟨fun _ => ?_, fun z => absurd rfl z⟩), fun z => absurd o8 z⟩
        rw [nI_1]
        exact hK M' h'
      have mgo : ∀ (B M : Mm) (K : Int32 → Mm → Prop) (q f b : Nat) (s : List Nat), q ≤ o → q + s.length ≤ 3 * o + 2 → MP ch k n tk ps en B i cs (List.replicate q 9 ++ s) o M → (∀ M', MP ch k n tk ps en B (i + 1) cs (12 :: (List.replicate q 9 ++ s)) (o + 1) M' → T_X12_readAny_9 f (nI (b + 1)) 1 M' K) → T_X12_readAny_9 (f + 1) (nI b) 1 M K := by
        intro B M K q f b s hq hs h hK
        refine m33 M K f b h.1.2.2.2.2 ?_
        rw [if_neg e262, T_X12_readAny_33]
        refine ⟨fun z => absurd z (n8 B M _ h), fun _ M7 g7 => ⟨fun _ y9 g9 => ?_, fun z => absurd rfl z⟩⟩
        rw [T_X12_readAny_66]
        refine ⟨fun _ => ?_, fun z => absurd rfl z⟩
        rw [T_X12_readAny_78, g9, nI_1]
        have le : (List.replicate q 9 ++ s).length = q + s.length := by rw [List.length_append, List.length_replicate]
        exact pwait (w := 12) (mo7 B M M7 _ h g7) (by omega) rfl (fun M2 h2 => pread hS h2 hin hK)
      have tB : ∀ s : List Nat, topB (12 :: s) := fun s => top_c (P := fun v => v = 12) rfl
      rcases ei_ok hS (o := o + 1) (by omega) ihC (i := i + 1) (cs := cs) (by omega) (by omega) with ⟨fk, p, a1, a2⟩ | ⟨i1, ex, ai, a0, a1, a2⟩
      · refine Or.inl ⟨fk, p, fun B M K h hK => cgo B M K h (fun M' h' => a1 B M' _ h' (fun M2 h2 => ⟨fun _ => hK M2 h2, fun z => absurd rfl z⟩)), fun B M K q f b s hq hb hs hc ht h hf hK => ?_⟩
        obtain ⟨f, rfl⟩ : ∃ g, f = g + 1 := ⟨f - 1, by omega⟩
        have le : (12 :: (List.replicate q 9 ++ s)).length = q + s.length + 1 := by rw [List.length_cons, List.length_append, List.length_replicate]
        exact mgo B M K q f b s hq hs h (fun M' h' => a2 B M' K f (b + 1) _ (by omega) (by omega) (tB _) h' (by omega) hK)
      · obtain ⟨x1, x2, x3, x4⟩ := a0
        have tb1 := tkc_b (hS.c ai)
        have b0 : ∀ b : Nat, b ≤ o → ¬ nI (b + 1) = 0 := fun b hb => nI_ne0 (by omega) (by omega)
        by_cases e41 : tk i1 = 41
        · have hi1 : i1 < n := hS.z ai (by omega)
          refine Or.inr ⟨i1 + 1, ex, by omega, ⟨by omega, by omega, x3, fun u hu => x4 u (by omega)⟩, fun B M K h hK => cgo B M K h (fun M' h' => a1 B M' _ h' (fun M2 h2 => ⟨fun z => absurd z (by decide), fun _ => ctk_y (c := 41) hn h2 hi1 rfl e41 (fun M3 h3 => ⟨fun z => absurd z (by decide), fun _ => hK M3 h3⟩)⟩)), fun B M K q f b s hq hb hs hc ht h hf hK => ?_⟩
          obtain ⟨f, rfl⟩ : ∃ g, f = g + 1 := ⟨f - 1, by omega⟩
          have le : (12 :: (List.replicate q 9 ++ s)).length = q + s.length + 1 := by rw [List.length_cons, List.length_append, List.length_replicate]
          refine mgo B M K q f b s hq hs h (fun M' h' => a2 B M' K f (b + 1) _ (by omega) (by omega) (tB _) h' (by omega) (fun M2 f2 hf2 h2 => ?_))
          refine ⟨fun z => absurd z (b0 b hb), fun _ => isg_y (s := 41) h2.1.2.2.2.2 (by unfold isSn; omega) rfl e41 ⟨fun z => absurd z (by decide), fun _ M31 g31 y32 g32 M33 g33 => ?_⟩⟩
          obtain ⟨d1, d2, d3, d4, d5, d6, d7⟩ := h2
          rw [le] at d5
          rw [d5, nI_pred] at g31
          have w30 : M31 159 30 = nI (o + 1) := by rw [g31, mu, if_neg (by omega)]; exact d4
          rw [w30, nI_pred] at g33
          have E : ∀ a j, ¬ (a = 159 ∧ (j = 30 ∨ j = 32)) → M33 a j = M2 a j := fun a j z => by rw [g33, mu, if_neg (by omega), g31, mu, if_neg (by omega)]
          have h33 : MP ch k n tk ps en B i1 (cs ++ ex) (List.replicate q 9 ++ s) o M33 := ⟨d1.cg (fun j _ _ => E 159 j (by omega)) (fun j => E 169 j (by omega)) (fun j => E 170 j (by omega)), by rw [E 159 29 (by omega)]; exact d2, fun j y hy => by rw [E 176 _ (by omega), E 177 _ (by omega)]; exact d3 j y hy, by rw [g33, mu, if_pos ⟨rfl, rfl⟩], by rw [g33, mu, if_neg (by omega), g31, mu, if_pos ⟨rfl, rfl⟩, List.length_append, List.length_replicate], d6.2.cg (fun j _ => E 178 j (by omega)), fun a j z => by rw [E a j (by unfold xM at z; omega)]; exact d7 a j z⟩
          rw [T_X12_settles, g32, nI_pred]
          refine pset_9 ht q 5000 o (cs ++ ex) M33 (by omega) hq (by omega) (by rw [List.length_append]; omega) h33 (fun M35 h35 => pread hS h35 hi1 (fun M37 h37 => hK M37 f2 (by omega) h37))
        · refine Or.inl ⟨1, ps i1, fun B M K h hK => cgo B M K h (fun M' h' => a1 B M' _ h' (fun M2 h2 => ⟨fun z => absurd z (by decide), fun _ => ctk_n (c := 41) hn h2 rfl tb1 (by omega) e41 (fun M3 h3 => ⟨fun _ => hK M3 h3, fun z => absurd rfl z⟩)⟩)), fun B M K q f b s hq hb hs hc ht h hf hK => ?_⟩
          obtain ⟨f, rfl⟩ : ∃ g, f = g + 1 := ⟨f - 1, by omega⟩
          have le : (12 :: (List.replicate q 9 ++ s)).length = q + s.length + 1 := by rw [List.length_cons, List.length_append, List.length_replicate]
          refine mgo B M K q f b s hq hs h (fun M' h' => a2 B M' K f (b + 1) _ (by omega) (by omega) (tB _) h' (by omega) (fun M2 f2 hf2 h2 => ?_))
          exact ⟨fun z => absurd z (b0 b hb), fun _ => isg_n (s := 41) h2.1.2.2.2.2 (by unfold isSn; omega) rfl e41 ⟨fun _ => perr (fk := 1) h2 rfl hK, fun z => absurd rfl z⟩⟩
