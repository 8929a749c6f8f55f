/-! TEXT: comparisons, and what waits in the model -/
theorem cmp_ok {ch : Nat → Nat} {k n : Nat} {tk ps en : Nat → Nat} (hS : TS ch k n tk ps en) {i : Nat} {cs : List (Nat × Nat)} (hi : i ≤ n) (hl : cs.length ≤ i) (h1 : ¬ tk i = 262) (h2 : ¬ tk i = 40) :
    (∃ fk p, (∀ (PC : Int32 → Mm → (Int32 → Mm → Prop) → Prop) (x1 : Int32), CSf n tk ps (T_X3_parseCaseB PC x1) i cs fk p) ∧ MSf ch k n tk ps en T_X12_readCompared i cs fk p) ∨ (∃ i' ex, i' ≤ n ∧ EX true 27 i i' ex ∧ (∀ (PC : Int32 → Mm → (Int32 → Mm → Prop) → Prop) (x1 : Int32), CSk n tk ps (T_X3_parseCaseB PC x1) i cs i' (cs ++ ex)) ∧ MSk ch k n tk ps en T_X12_readCompared i cs i' (cs ++ ex)) := by
  have hn := hS.n
  have tb := tkc_b (hS.c hi)
  have c262 : nI (tk i) = (262 : Int32) ↔ tk i = 262 := nI_eq (b := 262) (by omega) (by decide)
  have c40 : nI (tk i) = (40 : Int32) ↔ tk i = 40 := nI_eq (b := 40) (by omega) (by decide)
  rcases sum_ok hS hi hl with ⟨fk, p, a1, a2⟩ | ⟨i1, ex, ai, a0, a1, a2⟩
  · refine Or.inl ⟨fk, p, fun PC x1 B M K h hK => ?_, fun B M K h hK => ?_⟩
    · rw [T_X3_parseCaseB]
      intro y34 g34
      rw [g34, h.1.2.2.2.1, c262, c40]
      exact ⟨fun z => absurd z h1, fun _ => ⟨fun z => absurd z h2, fun _ => a1 B M _ h (fun M' h' => ⟨fun _ => hK M' h', fun z => absurd rfl z⟩)⟩⟩
    · rw [T_X12_readCompared]
      exact a2 B M _ h (fun M' h' => ⟨fun _ => hK M' h', fun z => absurd rfl z⟩)
  · obtain ⟨x1, x2, x3, x4⟩ := a0
    have tb1 := tkc_b (hS.c ai)
    have c60 : nI (tk i1) = (60 : Int32) ↔ tk i1 = 60 := nI_eq (b := 60) (by omega) (by decide)
    have c61 : nI (tk i1) = (61 : Int32) ↔ tk i1 = 61 := nI_eq (b := 61) (by omega) (by decide)
    have c62 : nI (tk i1) = (62 : Int32) ↔ tk i1 = 62 := nI_eq (b := 62) (by omega) (by decide)
    have len : (cs ++ ex).length ≤ i1 := by rw [List.length_append]; omega
    by_cases hs : tk i1 = 60 ∨ tk i1 = 61 ∨ tk i1 = 62
    · have hin : i1 < n := hS.z ai (by omega)
      obtain ⟨op, hop1, hop2, hop3⟩ : ∃ op : Nat, (op = 6 ∨ op = 7 ∨ op = 8) ∧ cN (op, 0) = 20000 + tk i1 ∧ (tk i1 = 60 → op = 6) ∧ (tk i1 = 61 → op = 7) ∧ (tk i1 = 62 → op = 8) := by
        rcases hs with e | e | e
        · exact ⟨6, Or.inl rfl, by rw [e]; rfl, fun _ => rfl, fun z => absurd z (by omega), fun z => absurd z (by omega)⟩
        · exact ⟨7, Or.inr (Or.inl rfl), by rw [e]; rfl, fun z => absurd z (by omega), fun _ => rfl, fun z => absurd z (by omega)⟩
        · exact ⟨8, Or.inr (Or.inr rfl), by rw [e]; rfl, fun z => absurd z (by omega), fun z => absurd z (by omega), fun _ => rfl⟩
      have cgo : ∀ (PC : Int32 → Mm → (Int32 → Mm → Prop) → Prop) (y1 : Int32) (B M : Mm) (K : Int32 → Mm → Prop), CQ n tk ps B i cs M → (∀ M', CQ n tk ps B (i1 + 1) (cs ++ ex) M' → T_X3_parseSum M' (fun r28 M27 => (r28 = 0 → K 0 M27) ∧ (¬ r28 = 0 → T_X2_add 137 (nI (20000 + tk i1)) M27 (fun r32 M31 => (r32 = 0 → K 0 M31) ∧ (¬ r32 = 0 → K 1 M31))))) → T_X3_parseCaseB PC y1 M K := by
        intro PC y1 B M K h hK
        rw [T_X3_parseCaseB]
        intro y34 g34
        rw [g34, h.1.2.2.2.1, c262, c40]
        refine ⟨fun z => absurd z h1, fun _ => ⟨fun z => absurd z h2, fun _ => a1 B M _ h (fun M' h' => ⟨fun z => absurd z (by decide), fun _ y41 g41 => ?_⟩)⟩⟩
        rw [h'.1.2.2.2.1] at g41
        have g65 : T_X3_parseCaseB_65 PC y41 M' K := by
          rw [T_X3_parseCaseB_65, g41, show (20000 : Int32) = nI 20000 from rfl, nI_add]
          exact cstep hn h' hin hK
        rw [g41, c60, c61, c62]
        rw [g41] at g65
        exact ⟨fun _ => g65, fun z1 => ⟨fun _ => g65, fun z2 => ⟨fun _ => g65, fun z3 => absurd hs (by omega)⟩⟩⟩
      have mgo : ∀ (B M : Mm) (K : Int32 → Mm → Prop), ME ch k n tk ps en B i cs M → (∀ M', ME ch k n tk ps en B (i1 + 1) (cs ++ ex) M' → T_X12_readSum M' (fun r5 M4 => (r5 = -1 → K (-1) M4) ∧ (¬ r5 = -1 → T_X12_emits (nI op) 0 M4 (fun M8 => K 0 M8)))) → T_X12_readCompared M K := by
        intro B M K h hK
        rw [T_X12_readCompared]
        refine a2 B M _ h (fun M' h' => ⟨fun z => absurd z (by decide), fun _ => ?_⟩)
        have hr := h'.1.2.2.2.2
        have vl : M' 159 19 = nI (tk i1) := (tR_s hr (by unfold isSn; omega)).2
        have g73 : ∀ s0 : Int32, s0 = nI op → T_X12_readCompared_73 s0 M' K := by
          intro s0 hs0
          rw [T_X12_readCompared_73, hs0]
          exact mread hS h' hin hK
        have g43 : T_X12_readCompared_43 M' K := by
          rw [T_X12_readCompared_43, vl, c60, c61]
          exact ⟨fun z => g73 6 (by rw [hop3.1 z]; rfl), fun z1 => ⟨fun z => g73 7 (by rw [hop3.2.1 z]; rfl), fun z2 => g73 8 (by rw [hop3.2.2 (by omega)]; rfl)⟩⟩
        by_cases e0 : tk i1 = 60
        · exact isg_y (s := 60) hr (by unfold isSn; omega) rfl e0 ⟨fun z => absurd z (by decide), fun _ => g43⟩
        · refine isg_n (s := 60) hr (by unfold isSn; omega) rfl e0 ⟨fun _ => ?_, fun z => absurd rfl z⟩
          by_cases e1 : tk i1 = 61
          · exact isg_y (s := 61) hr (by unfold isSn; omega) rfl e1 ⟨fun z => absurd z (by decide), fun _ => g43⟩
          · refine isg_n (s := 61) hr (by unfold isSn; omega) rfl e1 ⟨fun _ => ?_, fun z => absurd rfl z⟩
            exact isg_y (s := 62) hr (by unfold isSn; omega) rfl (by omega) ⟨fun z => absurd z (by decide), fun _ => g43⟩
      rcases sum_ok hS (i := i1 + 1) (cs := cs ++ ex) (by omega) (by omega) with ⟨fk, p, b1, b2⟩ | ⟨i', ex2, bi, b0, b1, b2⟩
      · exact Or.inl ⟨fk, p, fun PC y1 B M K h hK => cgo PC y1 B M K h (fun M' h' => b1 B M' _ h' (fun M2 h2 => ⟨fun _ => hK M2 h2, fun z => absurd rfl z⟩)), fun B M K h hK => mgo B M K h (fun M' h' => b2 B M' _ h' (fun M2 h2 => ⟨fun _ => hK M2 h2, fun z => absurd rfl z⟩))⟩
      · obtain ⟨w1, w2, w3, w4⟩ := b0
        have oko : okc (op, 0) := Or.inr (Or.inr (by show 2 ≤ op ∧ op ≤ 11; omega))
        have len2 : (cs ++ ex ++ ex2).length < 400 := by rw [List.length_append]; omega
        have ea : cs ++ ex ++ ex2 ++ [(op, 0)] = cs ++ (ex ++ ex2 ++ [(op, 0)]) := by rw [List.append_assoc, List.append_assoc, List.append_assoc]
        refine Or.inr ⟨i', ex ++ ex2 ++ [(op, 0)], bi, ⟨by omega, ?_, ok_app (ok_app x3 w3) (ok_1 oko), fun u hu => ?_⟩, fun PC y1 B M K h hK => cgo PC y1 B M K h (fun M' h' => b1 B M' _ h' (fun M2 h2 => ⟨fun z => absurd z (by decide), fun _ => cadd (op, 0) h2 len2 (by rw [hop2]) (fun M3 h3 => ⟨fun z => absurd z (by decide), fun _ => ?_⟩)⟩)), fun B M K h hK => mgo B M K h (fun M' h' => b2 B M' _ h' (fun M2 h2 => ⟨fun z => absurd z (by decide), fun _ => memit (op, 0) h2 len2 rfl rfl (fun M3 h3 => ?_)⟩))⟩
        · rw [List.length_append, List.length_append]
          show ex.length + ex2.length + 1 + i ≤ i'
          omega
        · refine ((x4 u (by omega)).app (w4 (false :: u) (by show u.length + 1 ≤ 28; omega))).app (tyA.one (fun p => Or.inr (Or.inr (Or.inr (Or.inl ⟨hop1, u, rfl, rfl⟩)))))
        · rw [ea] at h3
          exact hK M3 h3
        · rw [ea] at h3
          exact hK M3 h3
    · refine Or.inl ⟨1, ps i1, fun PC y1 B M K h hK => ?_, fun B M K h hK => ?_⟩
      · rw [T_X3_parseCaseB]
        intro y34 g34
        rw [g34, h.1.2.2.2.1, c262, c40]
        refine ⟨fun z => absurd z h1, fun _ => ⟨fun z => absurd z h2, fun _ => a1 B M _ h (fun M' h' => ⟨fun z => absurd z (by decide), fun _ y41 g41 => ?_⟩)⟩⟩
        rw [g41, h'.1.2.2.2.1, c60, c61, c62]
        exact ⟨fun z => absurd (Or.inl z) hs, fun _ => ⟨fun z => absurd (Or.inr (Or.inl z)) hs, fun _ => ⟨fun z => absurd (Or.inr (Or.inr z)) hs, fun _ => cref (fk := 1) hn h' rfl (fun M2 h2 => ⟨Or.inl rfl, hK M2 h2⟩)⟩⟩⟩
      · rw [T_X12_readCompared]
        refine a2 B M _ h (fun M' h' => ⟨fun z => absurd z (by decide), fun _ => ?_⟩)
        have hr := h'.1.2.2.2.2
        refine isg_n (s := 60) hr (by unfold isSn; omega) rfl (by omega) ⟨fun _ => ?_, fun z => absurd rfl z⟩
        refine isg_n (s := 61) hr (by unfold isSn; omega) rfl (by omega) ⟨fun _ => ?_, fun z => absurd rfl z⟩
        exact isg_n (s := 62) hr (by unfold isSn; omega) rfl (by omega) ⟨fun _ => merr (fk := 1) h' rfl hK, fun z => absurd rfl z⟩
/-- what waits in the model, the last first -/
def xM (a j : Nat) : Prop := (a = 159 ∧ ((16 ≤ j ∧ j ≤ 19) ∨ (29 ≤ j ∧ j ≤ 34))) ∨ ((a = 176 ∨ a = 177) ∧ 800 ≤ j) ∨ a = 178
def SK (M : Mm) : List Nat → Prop
  | [] => True
  | x :: s => M 178 s.length = nI x ∧ SK M s
theorem SK.cg {M M' : Mm} : ∀ {s : List Nat}, SK M s → (∀ j, j < s.length → M' 178 j = M 178 j) → SK M' s
  | [], _, _ => trivial
  | x :: s, h, e => ⟨(e s.length (by show s.length < s.length + 1; omega)).trans h.1, SK.cg h.2 (fun j hj => e j (by show j < s.length + 1; omega))⟩
def MP (ch : Nat → Nat) (k n : Nat) (tk ps en : Nat → Nat) (B : Mm) (i : Nat) (cs : List (Nat × Nat)) (s : List Nat) (o : Nat) (M : Mm) : Prop := TM ch k n tk ps en i M ∧ M 159 29 = nI cs.length ∧ (∀ j x, cs[j]? = some x → M 176 (800 + j) = nI x.1 ∧ M 177 (800 + j) = nI x.2) ∧ M 159 30 = nI o ∧ M 159 32 = nI s.length ∧ SK M s ∧ ∀ a j, ¬ xM a j → M a j = B a j
def MFx (B : Mm) (fk p : Nat) (M : Mm) : Prop := M 159 33 = nI fk ∧ M 159 34 = nI p ∧ ∀ a j, ¬ xM a j → M a j = B a j
theorem xM_s {a j : Nat} (h : ¬ xM a j) : ¬ sM a j := fun z => h (by unfold xM; unfold sM at z; omega)
theorem MP.me {ch : Nat → Nat} {k n : Nat} {tk ps en : Nat → Nat} {B M : Mm} {i o : Nat} {cs : List (Nat × Nat)} {s : List Nat} (h : MP ch k n tk ps en B i cs s o M) : ME ch k n tk ps en M i cs M := ⟨h.1, h.2.1, h.2.2.1, fun _ _ _ => rfl⟩
theorem MP.of {ch : Nat → Nat} {k n : Nat} {tk ps en : Nat → Nat} {B M M' : Mm} {i o i' : Nat} {cs cs' : List (Nat × Nat)} {s : List Nat} (h : MP ch k n tk ps en B i cs s o M) (h' : ME ch k n tk ps en M i' cs' M') : MP ch k n tk ps en B i' cs' s o M' := by
  obtain ⟨a1, a2, a3, a4, a5, a6, a7⟩ := h
  obtain ⟨b1, b2, b3, b4⟩ := h'
  have q : ∀ a j, ¬ sM a j → M' a j = M a j := b4
  refine ⟨b1, b2, b3, by rw [q 159 30 (by unfold sM; omega)]; exact a4, by rw [q 159 32 (by unfold sM; omega)]; exact a5, a6.cg (fun j _ => q 178 j (by unfold sM; omega)), fun a j z => by rw [q a j (xM_s z)]; exact a7 a j z⟩
theorem MP.f {ch : Nat → Nat} {k n fk p : Nat} {tk ps en : Nat → Nat} {B M M' : Mm} {i o : Nat} {cs : List (Nat × Nat)} {s : List Nat} (h : MP ch k n tk ps en B i cs s o M) (h' : MFs M fk p M') : MFx B fk p M' := ⟨h'.1, h'.2.1, fun a j z => by rw [h'.2.2 a j (xM_s z)]; exact h.2.2.2.2.2.2 a j z⟩
theorem pread {ch : Nat → Nat} {k n i o : Nat} {tk ps en : Nat → Nat} {B M : Mm} {K : Mm → Prop} {cs : List (Nat × Nat)} {s : List Nat} (hS : TS ch k n tk ps en) (h : MP ch k n tk ps en B i cs s o M) (hi : i < n) (hK : ∀ M', MP ch k n tk ps en B (i + 1) cs s o M' → K M') : T_X12_reads M K := mread hS h.me hi (fun M' h' => hK M' (h.of h'))
theorem perr {ch : Nat → Nat} {k n i o fk : Nat} {tk ps en : Nat → Nat} {B M : Mm} {K : Int32 → Mm → Prop} {cs : List (Nat × Nat)} {s : List Nat} {x : Int32} (h : MP ch k n tk ps en B i cs s o M) (hx : x = nI fk) (hK : ∀ M', MFx B fk (ps i) M' → K (-1) M') : T_X12_errs x M K := merr h.me hx (fun M' h' => hK M' (h.f h'))
theorem pwait {ch : Nat → Nat} {k n i o w : Nat} {tk ps en : Nat → Nat} {B M : Mm} {K : Mm → Prop} {cs : List (Nat × Nat)} {s : List Nat} {x : Int32} (h : MP ch k n tk ps en B i cs s o M) (hl : s.length < 40) (hx : x = nI w) (hK : ∀ M', MP ch k n tk ps en B i cs (w :: s) o M' → K M') : T_X12_waits x M K := by
  obtain ⟨a1, a2, a3, a4, a5, a6, a7⟩ := h
  rw [T_X12_waits, a5, nI_clamp (n := s.length) (by omega)]
  refine ⟨vp_in_nI (by omega) (by decide), fun M1 g1 M3 g3 => ?_⟩
  have w1 : M1 159 32 = nI s.length := by rw [g1, mu, if_neg (by omega)]; exact a5
  rw [w1, nI_1] at g3
  have E : ∀ a j, ¬ (a = 159 ∧ j = 32) → ¬ (a = 178 ∧ j = s.length) → M3 a j = M a j := fun a j z1 z2 => by rw [g3, mu, if_neg z1, g1, mu, if_neg z2]
  refine hK M3 ⟨a1.cg (fun j _ _ => E 159 j (by omega) (by omega)) (fun j => E 169 j (by omega) (by omega)) (fun j => E 170 j (by omega) (by omega)), by rw [E 159 29 (by omega) (by omega)]; exact a2, fun j y hy => by rw [E 176 _ (by omega) (by omega), E 177 _ (by omega) (by omega)]; exact a3 j y hy, by rw [E 159 30 (by omega) (by omega)]; exact a4, by rw [g3, mu, if_pos ⟨rfl, rfl⟩]; rfl, ⟨?_, a6.cg (fun j hj => E 178 j (by omega) (by omega))⟩, fun a j z => ?_⟩
  · rw [g3, mu, if_neg (by omega), g1, mu, if_pos ⟨rfl, rfl⟩]; exact hx
  · unfold xM at z
    rw [E a j (by omega) (by omega)]
    exact a7 a j (by unfold xM; omega)
/-- nothing_v to settle_v -/
theorem pset_n {ch : Nat → Nat} {k n i o w f : Nat} {tk ps en : Nat → Nat} {B M : Mm} {K : Mm → Prop} {cs : List (Nat × Nat)} {s : List Nat} {x : Int32} (h : MP ch k n tk ps en B i cs s o M) (hl : s.length ≤ 40) (hx : x = nI w) (hw : w ≤ 12) (ht : ∀ v r, s = v :: r → ¬ v = w ∧ v ≤ 12) (hK : K M) : T_X12_settles_0 (f + 1) x M K := by
  obtain ⟨a1, a2, a3, a4, a5, a6, a7⟩ := h
  rw [T_X12_settles_0, a5]
  match s, hl, ht, a6 with
  | [], _, _, _ => exact ⟨fun _ => hK, fun z => absurd (by decide) z⟩
  | v :: r, hl, ht, a6 =>
    obtain ⟨t1, t2⟩ := ht v r rfl
    have hl' : r.length + 1 ≤ 40 := hl
    rw [show (v :: r).length = r.length + 1 from rfl, nI_pred, nI_clamp (n := r.length) (by omega), a6.1, hx]
    have qe : nI v = nI w ↔ v = w := nI_eq (by omega) (by omega)
    rw [qe]
    exact ⟨fun _ => hK, fun _ => ⟨vp_in_nI (by omega) (by decide), fun z => absurd z t1, fun _ => hK⟩⟩
/-- one that waits is written_v down -/
theorem pset_1 {ch : Nat → Nat} {k n i o o' w f : Nat} {tk ps en : Nat → Nat} {B M : Mm} {K : Mm → Prop} {cs : List (Nat × Nat)} {s : List Nat} {x : Int32} (h : MP ch k n tk ps en B i cs (w :: s) o M) (hl : s.length < 40) (hc : cs.length < 400) (hx : x = nI w) (hw : w ≤ 12) (ho : (w = 9 → o = o' + 1) ∧ (¬ w = 9 → o = o')) (hK : ∀ M', MP ch k n tk ps en B i (cs ++ [(w, 0)]) s o' M' → T_X12_settles_0 f x M' K) : T_X12_settles_0 (f + 1) x M K := by
  obtain ⟨a1, a2, a3, a4, a5, a6, a7⟩ := h
  have a5' : M 159 32 = nI (s.length + 1) := a5
  rw [T_X12_settles_0, a5', nI_pred, nI_clamp (n := s.length) (by omega), a6.1]
  refine ⟨fun z => absurd z (nI_nle (by omega) (by omega)), fun _ => ⟨vp_in_nI (by omega) (by decide), fun _ M4 g4 => ?_, fun z => absurd hx.symm z⟩⟩
  have E4 : ∀ a j, ¬ (a = 159 ∧ j = 32) → M4 a j = M a j := fun a j z => by rw [g4, mu, if_neg z]
  have m4 : ME ch k n tk ps en M4 i cs M4 := ⟨a1.cg (fun j _ _ => E4 159 j (by omega)) (fun j => E4 169 j (by omega)) (fun j => E4 170 j (by omega)), by rw [E4 159 29 (by omega)]; exact a2, fun j y hy => by rw [E4 176 _ (by omega), E4 177 _ (by omega)]; exact a3 j y hy, fun _ _ _ => rfl⟩
  refine memit (w, 0) m4 hc hx rfl (fun M6 h6 => ?_)
  obtain ⟨b1, b2, b3, b4⟩ := h6
  have x9 : x = (9 : Int32) ↔ w = 9 := by rw [hx]; exact nI_eq (b := 9) (by omega) (by decide)
  have w30 : M6 159 30 = nI o := by rw [b4 159 30 (by unfold sM; omega), E4 159 30 (by omega)]; exact a4
  have w32 : M6 159 32 = nI s.length := by rw [b4 159 32 (by unfold sM; omega), g4, mu, if_pos ⟨rfl, rfl⟩]
  have wsk : SK M6 s := a6.2.cg (fun j _ => by rw [b4 178 j (by unfold sM; omega), E4 178 j (by omega)])
  have wfr : ∀ a j, ¬ xM a j → M6 a j = B a j := fun a j z => by
    rw [b4 a j (xM_s z), E4 a j (by unfold xM at z; omega)]
    exact a7 a j z
  rw [x9]
  refine ⟨fun z M8 g8 => ?_, fun z => ?_⟩
  · rw [w30, ho.1 z, nI_pred] at g8
    have E8 : ∀ a j, ¬ (a = 159 ∧ j = 30) → M8 a j = M6 a j := fun a j z => by rw [g8, mu, if_neg z]
    exact hK M8 ⟨b1.cg (fun j _ _ => E8 159 j (by omega)) (fun j => E8 169 j (by omega)) (fun j => E8 170 j (by omega)), by rw [E8 159 29 (by omega)]; exact b2, fun j y hy => by rw [E8 176 _ (by omega), E8 177 _ (by omega)]; exact b3 j y hy, by rw [g8, mu, if_pos ⟨rfl, rfl⟩], by rw [E8 159 32 (by omega)]; exact w32, wsk.cg (fun j _ => E8 178 j (by omega)), fun a j z => by rw [E8 a j (by unfold xM at z; omega)]; exact wfr a j z⟩
  · rw [ho.2 z] at w30
    exact hK M6 ⟨b1, b2, b3, w30, w32, wsk, wfr⟩
theorem pset_9 {ch : Nat → Nat} {k n i : Nat} {tk ps en : Nat → Nat} {B : Mm} {K : Mm → Prop} {s : List Nat} (ht : ∀ v r, s = v :: r → ¬ v = 9 ∧ v ≤ 12) : ∀ (q f o : Nat) (cs : List (Nat × Nat)) (M : Mm), q < f → q ≤ o → q + s.length ≤ 40 → cs.length + q ≤ 400 → MP ch k n tk ps en B i cs (List.replicate q 9 ++ s) o M → (∀ M', MP ch k n tk ps en B i (cs ++ List.replicate q (9, 0)) s (o - q) M' → K M') → T_X12_settles_0 f 9 M K := by
  intro q
  induction q with
  | zero =>
    intro f o cs M hf ho hl hc h hK
    obtain ⟨f, rfl⟩ : ∃ g, f = g + 1 := ⟨f - 1, by omega⟩
    have h' : MP ch k n tk ps en B i cs s o M := h
    refine pset_n (w := 9) h' (by omega) rfl (by omega) ht (hK M ?_)
    show MP ch k n tk ps en B i (cs ++ []) s (o - 0) M
    rw [List.append_nil]
    exact h'
  | succ q ih =>
    intro f o cs M hf ho hl hc h hK
    obtain ⟨f, rfl⟩ : ∃ g, f = g + 1 := ⟨f - 1, by omega⟩
    have h' : MP ch k n tk ps en B i cs (9 :: (List.replicate q 9 ++ s)) o M := h
    have le : (List.replicate q 9 ++ s).length = q + s.length := by rw [List.length_append, List.length_replicate]
    refine pset_1 (o' := o - 1) h' (by omega) (by omega) rfl (by omega) ⟨fun _ => by omega, fun z => absurd rfl z⟩ (fun M' h2 => ih f (o - 1) (cs ++ [(9, 0)]) M' (by omega) (by omega) (by omega) (by rw [List.length_append]; show cs.length + 1 + q ≤ 400; omega) h2 (fun M2 h3 => hK M2 ?_))
    rw [List.append_assoc, show o - 1 - q = o - (q + 1) by omega] at h3
    exact h3
