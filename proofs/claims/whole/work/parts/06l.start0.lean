theorem fx_sub : ∀ w ∈ fx_all, w ∈ lw_tbl := fun _ h => (List.mem_filter.mp h).1
theorem tb_1 {w : Cond} (h : w ∈ tables_1_1) : w ∈ lw_tbl := List.mem_append_right _ (List.mem_append_left _ h)
theorem tb_2 {w : Cond} (h : w ∈ tables_1_2) : w ∈ lw_tbl := List.mem_append_right _ (List.mem_append_right _ (List.mem_append_left _ h))
theorem tb_3 {w : Cond} (h : w ∈ tables_1_3) : w ∈ lw_tbl := List.mem_append_right _ (List.mem_append_right _ (List.mem_append_right _ (List.mem_append_left _ h)))
theorem tb_4 {w : Cond} (h : w ∈ tables_1_4) : w ∈ lw_tbl := List.mem_append_right _ (List.mem_append_right _ (List.mem_append_right _ (List.mem_append_right _ (List.mem_append_left _ h))))
theorem tb_5 {w : Cond} (h : w ∈ tables_1_5) : w ∈ lw_tbl := List.mem_append_right _ (List.mem_append_right _ (List.mem_append_right _ (List.mem_append_right _ (List.mem_append_right _ (List.mem_append_left _ h)))))
theorem tb_6 {w : Cond} (h : w ∈ tables_1_6) : w ∈ lw_tbl := List.mem_append_right _ (List.mem_append_right _ (List.mem_append_right _ (List.mem_append_right _ (List.mem_append_right _ (List.mem_append_right _ (List.mem_append_left _ h))))))
theorem tb_7 {w : Cond} (h : w ∈ tables_1_7) : w ∈ lw_tbl := List.mem_append_right _ (List.mem_append_right _ (List.mem_append_right _ (List.mem_append_right _ (List.mem_append_right _ (List.mem_append_right _ (List.mem_append_right _ (List.mem_append_left _ h)))))))
theorem tb_8 {w : Cond} (h : w ∈ tables_1_8) : w ∈ lw_tbl := List.mem_append_right _ (List.mem_append_right _ (List.mem_append_right _ (List.mem_append_right _ (List.mem_append_right _ (List.mem_append_right _ (List.mem_append_right _ (List.mem_append_right _ (List.mem_append_left _ h))))))))
theorem tb_9 {w : Cond} (h : w ∈ tables_1_9) : w ∈ lw_tbl := List.mem_append_right _ (List.mem_append_right _ (List.mem_append_right _ (List.mem_append_right _ (List.mem_append_right _ (List.mem_append_right _ (List.mem_append_right _ (List.mem_append_right _ (List.mem_append_right _ h))))))))
theorem ks_int {args : Array Value} {s : State} (h : (Cond.arrayClass .int).before args s = true) : ∃ cI : ClassId, ArrOfT s cI .int ∧ va_RA s cI .int := by
  obtain ⟨c, k, comp, h1, h2, h3⟩ := Cond.arrayClass_spec h
  exact ⟨c, fun n z => ⟨fun q hq => (by cases hq), k, h2, comp, h3⟩, h1⟩
theorem ks_quay {s : State} (h : va_AO RX6 s) : ∃ cQ : ClassId, ArrOfT s cQ (.object RX6) ∧ va_RA s cQ (.object RX6) := by
  obtain ⟨comp, c, k, h1, h2, h3, h4, h5⟩ := Cond.arrayOver_spec h
  exact ⟨c, fun n z => ⟨fun q hq => (by cases hq), k, h3, comp, h4⟩, k, comp, h3, h4, h1, h5⟩
theorem ks_nst {args : Array Value} {s : State} (hts : ∀ w ∈ lw_tbl, w.before args s = true) : fx_NQ fx_nst s := by
  unfold fx_NQ fx_nst
  refine List.forall_mem_cons.mpr ⟨va_Nw.of rfl (hts _ (tb_1 (List.mem_of_getElem? (i := 31) rfl))), ?_⟩
  refine List.forall_mem_cons.mpr ⟨va_Nw.of rfl (hts _ (tb_1 (List.mem_of_getElem? (i := 37) rfl))), ?_⟩
  refine List.forall_mem_cons.mpr ⟨va_Nw.of rfl (hts _ (tb_1 (List.mem_of_getElem? (i := 87) rfl))), ?_⟩
  refine List.forall_mem_cons.mpr ⟨va_Nw.of rfl (hts _ (tb_1 (List.mem_of_getElem? (i := 158) rfl))), ?_⟩
  refine List.forall_mem_cons.mpr ⟨va_Nw.of rfl (hts _ (tb_1 (List.mem_of_getElem? (i := 196) rfl))), ?_⟩
  refine List.forall_mem_cons.mpr ⟨va_Nw.of rfl (hts _ (tb_2 (List.mem_of_getElem? (i := 160) rfl))), ?_⟩
  refine List.forall_mem_cons.mpr ⟨va_Nw.of rfl (hts _ (tb_2 (List.mem_of_getElem? (i := 203) rfl))), ?_⟩
  refine List.forall_mem_cons.mpr ⟨va_Nw.of rfl (hts _ (tb_2 (List.mem_of_getElem? (i := 226) rfl))), ?_⟩
  refine List.forall_mem_cons.mpr ⟨va_Nw.of rfl (hts _ (tb_3 (List.mem_of_getElem? (i := 112) rfl))), ?_⟩
  refine List.forall_mem_cons.mpr ⟨va_Nw.of rfl (hts _ (tb_3 (List.mem_of_getElem? (i := 207) rfl))), ?_⟩
  refine List.forall_mem_cons.mpr ⟨va_Nw.of rfl (hts _ (tb_4 (List.mem_of_getElem? (i := 168) rfl))), ?_⟩
  refine List.forall_mem_cons.mpr ⟨va_Nw.of rfl (hts _ (tb_4 (List.mem_of_getElem? (i := 223) rfl))), ?_⟩
  refine List.forall_mem_cons.mpr ⟨va_Nw.of rfl (hts _ (tb_4 (List.mem_of_getElem? (i := 228) rfl))), ?_⟩
  refine List.forall_mem_cons.mpr ⟨va_Nw.of rfl (hts _ (tb_5 (List.mem_of_getElem? (i := 16) rfl))), ?_⟩
  refine List.forall_mem_cons.mpr ⟨va_Nw.of rfl (hts _ (tb_5 (List.mem_of_getElem? (i := 21) rfl))), ?_⟩
  refine List.forall_mem_cons.mpr ⟨va_Nw.of rfl (hts _ (tb_5 (List.mem_of_getElem? (i := 148) rfl))), ?_⟩
  refine List.forall_mem_cons.mpr ⟨va_Nw.of rfl (hts _ (tb_6 (List.mem_of_getElem? (i := 62) rfl))), ?_⟩
  refine List.forall_mem_cons.mpr ⟨va_Nw.of rfl (hts _ (tb_6 (List.mem_of_getElem? (i := 64) rfl))), ?_⟩
  refine List.forall_mem_cons.mpr ⟨va_Nw.of rfl (hts _ (tb_6 (List.mem_of_getElem? (i := 73) rfl))), ?_⟩
  exact fun q h => absurd h List.not_mem_nil
theorem st_e0 : ∀ j, j < 147 → (flatC (Jvm.Cond.and given_1 narrow_1))[13 + j]? = some (Cond.eq (.elem (Term.field (Term.string "MockParcels$Reader" 85) "java/lang/String" "value" "[B") (.int (Int32.ofNat j))) (.int ((sb_.getD 0 []).getD j 0))) := by decide +kernel
theorem st_e1 : ∀ j, j < 10 → (flatC (Jvm.Cond.and given_1 narrow_1))[164 + j]? = some (Cond.eq (.elem (Term.field (Term.string "MockParcels$Reader" 78) "java/lang/String" "value" "[B") (.int (Int32.ofNat j))) (.int ((sb_.getD 1 []).getD j 0))) := by decide +kernel
def st_tm (i : Nat) : Term := Term.string "MockParcels$Reader" (if i = 0 then 85 else 78)
set_option maxRecDepth 100000 in
theorem ks_str {b : Nat} {s : State} {A : Nat → Prop} (hts : ∀ w ∈ lw_tbl, w.before #[Value.ref b] s = true) (hgv : (Jvm.Cond.and given_1 narrow_1).before #[Value.ref b] s = true) (hA : ∀ a : Nat, a < s.heap.size → ¬ A a) : ∃ adK adV : Nat → Nat, vk_R RX7 85 fx_KW (adK 0) s ∧ vk_R RX7 78 fx_SG (adK 1) s ∧ vk_S 2 sl_ sb_ adK adV A s s.heap ∧ va_Z "java/lang/String" "COMPACT_STRINGS" "Z" (.int 1) A s s.heap ∧ va_Zq "jdk/internal/util/Preconditions" "SIOOBE_FORMATTER" "Ljava/util/function/BiFunction;" A s s.heap := by
  have hf := flat_of_before _ hgv
  have key : ∃ adK adV : Nat → Nat, vk_S 2 sl_ sb_ adK adV A s s.heap ∧ ∀ i : Nat, i < 2 → (st_tm i).eval #[Value.ref b] s none [] s = some (.ref (adK i)) := by
    refine vk_Sof (args := #[Value.ref b]) (s := s) (N := 2) (tm := st_tm) (len := sl_) (byt := sb_) (A := A) (by decide) ?_ ?_ ?_ ?_ ?_ ?_ hA
    · intro i hi
      match i, hi with
      | 0, _ => exact hf _ (List.mem_of_getElem? (i := 9) (by decide +kernel))
      | 1, _ => exact hf _ (List.mem_of_getElem? (i := 160) (by decide +kernel))
      | i + 2, hi => exact absurd hi (by omega)
    · intro i hi
      match i, hi with
      | 0, _ => exact hf _ (List.mem_of_getElem? (i := 10) (by decide +kernel))
      | 1, _ => exact hf _ (List.mem_of_getElem? (i := 161) (by decide +kernel))
      | i + 2, hi => exact absurd hi (by omega)
    · intro i hi
      match i, hi with
      | 0, _ => exact hf _ (List.mem_of_getElem? (i := 11) (by decide +kernel))
      | 1, _ => exact hf _ (List.mem_of_getElem? (i := 162) (by decide +kernel))
      | i + 2, hi => exact absurd hi (by omega)
    · intro i hi
      match i, hi with
      | 0, _ => exact hf _ (List.mem_of_getElem? (i := 12) (by decide +kernel))
      | 1, _ => exact hf _ (List.mem_of_getElem? (i := 163) (by decide +kernel))
      | i + 2, hi => exact absurd hi (by omega)
    · intro i hi j hj
      match i, hi with
      | 0, _ => exact hf _ (List.mem_of_getElem? (st_e0 j hj))
      | 1, _ => exact hf _ (List.mem_of_getElem? (st_e1 j hj))
      | i + 2, hi => exact absurd hi (by omega)
    · intro i j hi hj hij
      match i, j, hi, hj with
      | 0, 0, _, _ => exact absurd rfl hij
      | 1, 1, _, _ => exact absurd rfl hij
      | 0, 1, _, _ => exact Or.inl (hf _ (List.mem_of_getElem? (i := 174) (by decide +kernel)))
      | 1, 0, _, _ => exact Or.inr (hf _ (List.mem_of_getElem? (i := 174) (by decide +kernel)))
      | i + 2, _, hi, _ => exact absurd hi (by omega)
      | _, j + 2, _, hj => exact absurd hj (by omega)
  obtain ⟨adK, adV, h1, h2⟩ := key
  refine ⟨adK, adV, vk_R.of (A := #[Value.ref b]) (hts _ (tb_4 (List.mem_of_getElem? (i := 39) rfl))) (h2 0 (by decide)), vk_R.of (A := #[Value.ref b]) (hts _ (tb_4 (List.mem_of_getElem? (i := 92) rfl))) (h2 1 (by decide)), h1, ?_, ?_⟩
  · exact va_Zof (args := #[Value.ref b]) (hts _ (tb_4 (List.mem_of_getElem? (i := 49) rfl))) (hts _ (tb_1 (List.mem_of_getElem? (i := 15) rfl))) (va_eqi (hf _ (List.mem_of_getElem? (i := 4) (by decide +kernel)))) hA
  · exact va_Zqof (args := #[Value.ref b]) (hts _ (tb_4 (List.mem_of_getElem? (i := 65) rfl))) (hts _ (tb_1 (List.mem_of_getElem? (i := 17) rfl))) (hf _ (List.mem_of_getElem? (i := 5) (by decide +kernel))) hA
