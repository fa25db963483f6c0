/-! entry of a method whose class has native methods beside it (the JDK's own) -/
theorem zg_ofWF {l : Launch} {y : MethodName} {ws ws' : List Cond} {rm : Room} {Pc : Array Value → State → Prop} {Qc : Array Value → State → Outcome → State → Prop} {mc ms : Nat} {free : Addr → Prop} {cc : ByteArray} {maxL : Nat} {ret : Option FieldType}
    (hy : plainFor y = true) (hw : ws = Cond.code y cc maxL ret :: ws')
    (body : ∀ p e s m args below meth c s₁, BodyLoose p l y (headSpec ws rm) cc maxL ret e s m args below meth c s₁ → c.maxLocals = maxL → Pc args s →
      W p l e (headSpec ws rm).room s m args below meth c s.heap [] 0 0 (MQ below Qc args s mc ms free) (entryFrame m args maxL)) : Met l y ws rm Pc Qc mc ms free := by
  refine MetFree.of_bodySF (code := cc) (maxLocals := maxL) (ret := ret) hy ?_ ?_
  · intro args s m h hn
    obtain ⟨meth, c, h1, h2, h3, h4, h5, h6, -, -⟩ := Cond.code_spec hn (atoms_spec (ws := ws) h _ (by rw [hw]; exact List.mem_cons_self))
    exact ⟨meth, c, h1, h2, h3, h4, h5, h6⟩
  · intro p e s m args below meth c s₁ B hml hP _
    have hh0 : s₁.heap = s.heap := by rw [B.state]; rfl
    obtain ⟨t, a1, o, b1, b2, b3⟩ := body p e s m args below meth c s₁ B hml hP s₁ hh0 (Stand.of_body B)
    exact ⟨t, o, a1, b1, b2, ⟨b3.1, b3.2⟩⟩
theorem zg_enterF {Γ : zg_C} {μ : zg_M} {d mc ms N : Nat} {Q : zg_Q} {ls : List (Option Value)} {K : zg_K} {P : zg_P} {V : zg_V} {args : List Value} (n : Nat) (hy : plainFor μ.1 = true) (hl : (lg_sl args).length ≤ μ.2.2.1) (he : zg_en args ++ List.replicate n none = ls)
    (k : zg_G Γ (fun _ => True) μ (zg_rm d mc ms) (zg_Ω Γ Q mc ms) mc ms 0 ls [] K N P V) : zg_S Γ μ d mc ms args K N P V Q := by
  refine zg_ofWF (cc := μ.2.1) (maxL := μ.2.2.1) (ret := μ.2.2.2) hy rfl ?_
  intro p e s m args' below meth c s₁ B hml hv
  obtain ⟨rfl, hT, hw⟩ := hv
  have hl' := lv_entry args (n := μ.2.2.1) hl
  have hts := atoms_spec (ws := zg_ws μ) B.pre
  rw [lg_entry_eq]
  refine k p e s m args.toArray below meth c s.heap [] 0 0 _ ⟨B.exec, B.bytes, hml, B.returns, B.notSynchronized, fun w hw => hts w (List.mem_cons_of_mem _ hw), findClass_of_methodNamed B.named, (name_of_methodNamed B.named B.method).1, hT, by rw [hw.2]; omega, trivial⟩ ⟨⟨hl'.1, hl'.2.1, fun i v hi => ?_⟩, hw, va_S.rf, by show 0 + mc ≤ mc; omega, by show 0 + ms ≤ ms; omega⟩
  rw [← he] at hi
  have := zg_en_mem n args 0 i v hi
  rw [Nat.zero_add] at this
  exact hl'.2.2 (i, v) this
