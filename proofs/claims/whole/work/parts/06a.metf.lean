/-- a contract out of the walk of a method's body -/
theorem fx_metF {l : Launch} {G : fx_G} {S : List fx_S} {M : Mm} {y : MethodName} {b : ByteArray} {maxL d : Nat} {ret : Option FieldType} {own : String} {vs : List Value} {Qc : Array Value → State → Outcome → State → Prop} (hy : plainFor y = true) (hown : y.cls = own) (hlen : (lg_sl vs).length ≤ maxL)
    (body : ∀ (p : Program) (e : Env) (s : State) (m : MethodId) (below : List Frame) (meth : Method) (c : Code), fx_C G p s m c vs.toArray b maxL own → meth.sig.returnType = ret → meth.locks = false → fx_H G S M s s.heap [] → ∀ ls : Array Slot, lv_has ls maxL (lv_args 0 vs) → W p l e (fx_rm d) s m vs.toArray below meth c s.heap [] 0 0 (MQ below Qc vs.toArray s 0 0 (fx_A G)) (F0 m 0 ls [])) : Met l y (fx_ws y b maxL ret) (fx_rm d) (va_Pc vs (fx_P G S M)) Qc 0 0 (fx_A G) := by
  refine va_MetF (cc := b) (maxL := maxL) (ret := ret) hy rfl ?_
  intro p e s m args below meth c s₁ B hml hv
  obtain ⟨rfl, hP, hK, hQ⟩ := hv
  have hts := atoms_spec (ws := fx_ws y b maxL ret) B.pre
  have hown' : s.vm.findClass y.cls = some m.cls := findClass_of_methodNamed B.named
  rw [lg_entry_eq]
  exact body p e s m below meth c ⟨⟨B.exec, B.bytes, hml, hown ▸ hown', fun w hw => hts w (List.mem_cons_of_mem _ hw)⟩, hK, hQ⟩ B.returns B.notSynchronized ⟨hP, va_S.rf⟩ _ (lv_entry vs hlen)
