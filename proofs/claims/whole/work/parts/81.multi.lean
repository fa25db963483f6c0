/-! arrays of arrays of ints -/
def zm_o (c : ClassId) (n h0 i : Nat) : Cell := arrV c n (fun j => if j < i then .ref (h0 + 1 + j) else .null)
def zm_r (comp : ClassId) (k : Nat) : Cell := arrV comp k (fun _ => .int 0)
theorem zm_o_sz (c : ClassId) (n h0 i : Nat) : (zm_o c n h0 i).slots.size = n := arrV_size _ _ _
theorem zm_r_sz (c : ClassId) (k : Nat) : (zm_r c k).slots.size = k := arrV_size _ _ _
theorem zm_o_s (c : ClassId) {n : Nat} (h0 : Nat) {i : Nat} (hi : i < n) : (zm_o c n h0 i).setSlot i (.ref (h0 + 1 + i)) = zm_o c n h0 (i + 1) := by
  unfold zm_o
  rw [arrV_store]
  congr 1
  funext j
  unfold updV
  by_cases e : j = i
  · subst e
    rw [if_pos rfl, if_pos (by omega)]
  · rw [if_neg e]
    show (if j < i then Value.ref (h0 + 1 + j) else .null) = _
    by_cases q : j < i
    · rw [if_pos q, if_pos (by omega)]
    · rw [if_neg q, if_neg (by omega)]
/-- i rows are there, and the outer array names them -/
def zm_h (h : Heap) (c comp : ClassId) (n k i : Nat) (H : Heap) : Prop := H.size = h.size + 1 + i ∧ (∀ q, q < h.size → H[q]? = h[q]?) ∧ H[h.size]? = some (zm_o c n h.size i) ∧ ∀ j, j < i → H[h.size + 1 + j]? = some (zm_r comp k)
theorem zm_h_0 (h : Heap) (c comp : ClassId) (n k : Nat) : zm_h h c comp n k 0 (h.push (zm_o c n h.size 0)) := by
  refine ⟨by simp, fun q hq => ?_, by simp, fun j hj => absurd hj (Nat.not_lt_zero j)⟩
  rw [Array.getElem?_push, if_neg (Nat.ne_of_lt hq)]
theorem zm_h_s {h H : Heap} {c comp : ClassId} {n k i : Nat} (hh : zm_h h c comp n k i H) : zm_h h c comp n k (i + 1) ((H.push (zm_r comp k)).setIfInBounds h.size (zm_o c n h.size (i + 1))) := by
  obtain ⟨h1, h2, h3, h4⟩ := hh
  refine ⟨by rw [Array.size_setIfInBounds, Array.size_push, h1]; omega, fun q hq => ?_, ?_, fun j hj => ?_⟩
  · rw [Array.getElem?_setIfInBounds, if_neg (by omega), Array.getElem?_push, if_neg (by omega)]
    exact h2 q hq
  · rw [Array.getElem?_setIfInBounds, if_pos rfl, if_pos (by rw [Array.size_push]; omega)]
  · rw [Array.getElem?_setIfInBounds, if_neg (by omega), Array.getElem?_push]
    by_cases e : h.size + 1 + j = H.size
    · rw [if_pos e]
    · rw [if_neg e]
      exact h4 j (by omega)
theorem zm_rf (v : Value) (hv : v = .null ∨ ∃ a, v = .ref a) : fits (.array .int) v = true := by
  rcases hv with rfl | ⟨a, rfl⟩ <;> rfl
section ZM82
variable {p : Program} {l : Launch} {e : Env} {R : Room} {s : State} {m : MethodId} {args : Array Value} {below : List Frame} {meth : Method} {c : Code} {T : State} {locs : List Loc} {cells slots : Nat}
/-- the machine stands with i rows made -/
def zm_at (p : Program) (l : Launch) (e : Env) (R : Room) (s : State) (m : MethodId) (args : Array Value) (below : List Frame) (meth : Method) (c : Code) (T : State) (locs : List Loc) (cells slots : Nat) (cA comp : ClassId) (n k i : Nat) (U : State) : Prop :=
  ∃ locs1 : List Loc, Stand p l e R s m args below meth c U locs1 (cells + 1 + i) (slots + n + i * k) ∧ U.vm = T.vm ∧ U.slotsUsed = T.slotsUsed + n + i * k ∧ zm_h T.heap cA comp n k i U.heap ∧ ∀ x ∈ locs1, x ∈ locs ∨ x.base = T.heap.size
theorem zm_at_0 (X : Stand p l e R s m args below meth c T locs cells slots) (cA comp : ClassId) (n k : Nat) : zm_at p l e R s m args below meth c T locs cells slots cA comp n k 0 (T.pushCell (zm_o cA n T.heap.size 0)) := by
  have h := X.pushed (zm_o cA n T.heap.size 0)
  rw [zm_o_sz] at h
  exact ⟨locs, by simpa using h, rfl, by simp [zm_o_sz], zm_h_0 T.heap cA comp n k, fun x hx => Or.inl hx⟩
theorem zm_at_s {cA comp : ClassId} {n k i : Nat} {U : State} (hi : i < n) (h : zm_at p l e R s m args below meth c T locs cells slots cA comp n k i U) : zm_at p l e R s m args below meth c T locs cells slots cA comp n k (i + 1) ((U.pushCell (zm_r comp k)).setCell T.heap.size (zm_o cA n T.heap.size (i + 1))) := by
  obtain ⟨locs1, h1, h2, h3, h4, h5⟩ := h
  have hcell : (U.pushCell (zm_r comp k)).heap[T.heap.size]? = some (zm_o cA n T.heap.size i) := by
    rw [State.heap_pushCell_of_lt (h := by rw [h4.1]; exact Nat.lt_of_lt_of_le (Nat.lt_succ_self _) (Nat.le_add_right _ _))]
    exact h4.2.2.1
  have hst := (h1.pushed (zm_r comp k)).stored hcell i (.ref (T.heap.size + 1 + i))
  rw [zm_r_sz, zm_o_s cA T.heap.size hi] at hst
  have e3 : slots + n + (i + 1) * k = slots + n + i * k + k := by rw [Nat.succ_mul]; omega
  refine ⟨locs1 ++ [⟨T.heap.size, i⟩], by rw [e3]; exact hst, by simp [h2], by simp [h3, zm_r_sz, Nat.succ_mul]; omega, zm_h_s h4, fun x hx => ?_⟩
  rcases List.mem_append.mp hx with q | q
  · exact h5 x q
  · rw [List.mem_singleton.mp q]
    exact Or.inr rfl
/-- the state with i rows made -/
def zm_s (T : State) (c comp : ClassId) (n k : Nat) : Nat → State
  | 0 => T.pushCell (zm_o c n T.heap.size 0)
  | i + 1 => ((zm_s T c comp n k i).pushCell (zm_r comp k)).setCell T.heap.size (zm_o c n T.heap.size (i + 1))
theorem zm_s_at (X : Stand p l e R s m args below meth c T locs cells slots) (cA comp : ClassId) {n : Nat} (k : Nat) : ∀ i, i ≤ n → zm_at p l e R s m args below meth c T locs cells slots cA comp n k i (zm_s T cA comp n k i)
  | 0, _ => zm_at_0 X cA comp n k
  | i + 1, hi => zm_at_s (by omega) (zm_s_at X cA comp k i (by omega))
theorem zm_make {f : JFrame} {E : CtlPost} {d : Bool} {acts : List Action} {cA comp cc : ClassId} {kA kC : Class} {n k : Int32} (X : Stand p l e R s m args below meth c T locs cells slots) (hkA : T.vm.classes[cA]? = some kA) (hkindA : kA.kind = .array comp (.array .int)) (hkC : T.vm.classes[comp]? = some kC) (hkindC : kC.kind = .array cc .int) (hn : ¬ n < 0) (hk : ¬ k < 0)
    (hl1 : ¬ n.toNatClampNeg > e.platform.arrayLengthLimit) (hh1 : ¬ n.toNatClampNeg * componentBytes (.array .int) > e.platform.maxHeapBytes) (hl2 : ¬ k.toNatClampNeg > e.platform.arrayLengthLimit) (hh2 : ¬ k.toNatClampNeg * componentBytes .int > e.platform.maxHeapBytes)
    (hc : T.heap.size + 1 + n.toNatClampNeg ≤ e.platform.maxCells) (hs : T.slotsUsed + n.toNatClampNeg + n.toNatClampNeg * k.toNatClampNeg ≤ e.platform.maxSlots) {Q : Addr → Pre}
    (hq : ∀ (d' : Bool) (acts' : List Action), Q T.heap.size d' acts' ((zm_s T cA comp n.toNatClampNeg k.toNatClampNeg n.toNatClampNeg).setTop f)) : wp (multianewarray.make cA [n, k]) Q E e d acts (T.setTop f) := by
  generalize hN : n.toNatClampNeg = N' at *
  generalize hM : k.toNatClampNeg = M' at *
  have hvm : (T.setTop f).vm = T.vm := rfl
  rw [multianewarray.make]
  simp only [wp_bind', W.ite, hn, if_false, wp_pure', W.theClass, hvm, hkA, hkindA, Option.some.injEq, exists_eq_left', hN]
  refine W.newArray_of (by rw [hvm]; exact hkA) hkindA hl1 hh1 (by rw [State.heap_setTop]; omega) (by show T.slotsUsed + N' ≤ _; have := Nat.zero_le (N' * M'); omega) (zm_rf _ (Or.inl rfl)) (fun acts1 => ?_)
  rw [State.heap_setTop, State.pushCell_setTop, arrV_new, show arrV cA N' (fun _ => Value.null) = zm_o cA N' T.heap.size 0 from by unfold zm_o; congr 1]
  rw [show ([k].find? (· < 0)) = none by simp [hk]]
  simp only [ite_self]
  rw [wp_bind', Std.Legacy.Range.forIn_eq_forIn_range', show ([:N'] : Std.Legacy.Range).size = N' by simp [Std.Legacy.Range.size]]
  refine wp_forIn_inv (fun rest s' => ∃ i : Nat, i ≤ N' ∧ rest = List.range' i (N' - i) ∧ s' = (zm_s T cA comp N' M' i).setTop f) _ _ ⟨0, Nat.zero_le _, rfl, rfl⟩ ?_ ?_
  · rintro x rest s' d' acts' Q' ⟨i, hi, hl, rfl⟩ hnext
    cases hNi : N' - i with
    | zero => rw [hNi] at hl; cases hl
    | succ r =>
      rw [hNi, List.range'_succ] at hl
      obtain ⟨hx, hrest⟩ := List.cons.inj hl
      subst hx
      obtain ⟨locs1, u1, u2, u3, u4, u5⟩ := zm_s_at X cA comp M' x hi
      have hst : ((zm_s T cA comp N' M' x).pushCell (zm_r comp M')).setCell T.heap.size (zm_o cA N' T.heap.size (x + 1)) = zm_s T cA comp N' M' (x + 1) := rfl
      generalize zm_s T cA comp N' M' x = U at *
      have hmul : x * M' + M' ≤ N' * M' := by
        rw [← Nat.succ_mul]
        exact Nat.mul_le_mul_right M' (by omega)
      have hvU : (U.setTop f).vm = U.vm := rfl
      have hu1 := u4.1
      simp only [wp_bind']
      rw [multianewarray.make]
      simp only [wp_bind', W.ite, hk, if_false, wp_pure', W.theClass, hvU, u2, hkC, hkindC, Option.some.injEq, exists_eq_left', hM]
      refine W.newArray_of (by rw [hvU, u2]; exact hkC) hkindC hl2 hh2 (by rw [State.heap_setTop]; omega) (by show U.slotsUsed + M' ≤ _; omega) rfl (fun acts2 => ?_)
      rw [State.heap_setTop, State.pushCell_setTop, arrV_new]
      simp only [wp_bind', W.writeLoc, wp_pure']
      refine ⟨zm_o cA N' T.heap.size x, ?_, by simp [zm_o, arrV], by rw [zm_o_sz]; omega, ?_, hnext _ _ _ ⟨x + 1, by omega, by rw [hrest, show N' - (x + 1) = r by omega], ?_⟩⟩
      · rw [State.heap_setTop, State.heap_pushCell_of_lt (h := by rw [hu1]; exact Nat.lt_of_lt_of_le (Nat.lt_succ_self _) (Nat.le_add_right _ _))]
        exact u4.2.2.1
      · show State.fitsSlot _ cA .none _ _ = true
        simp [State.fitsSlot, State.slotType?, u2, hkA, hkindA, zm_rf _ (Or.inr ⟨_, rfl⟩)]
      · rw [State.setCell_setTop, hu1, zm_o_s cA T.heap.size (by omega), ← hst]
        rfl
  · rintro s' d' acts' ⟨i, hi, hl, rfl⟩
    have hiN : i = N' := by
      cases hNi : N' - i with
      | zero => omega
      | succ r => rw [hNi, List.range'_succ] at hl; cases hl
    subst hiN
    simp only [wp_pure']
    exact hq _ _
theorem zm_W {H : Heap} {Q : State → Prop} {cc : ByteArray} (hexec : p.tables.exec = Jvm.exec) (hb : c.code = cc) {own : String} {index pc : Nat} {ls : Array Slot} (hown : s.vm.findClass own = some m.cls) (hclink : (Cond.classLink own index "[[I").before args s = true) (hAI : zn_AI s) (harr : (Cond.arrayClass .int).before args s = true)
    (hdg : decode cc pc = .ok (.multianewarray index 2, 4)) {n k : Int32} {rest : List Value} (hn : ¬ n < 0) (hk : ¬ k < 0) (hb1 : n.toNatClampNeg ≤ 1000) (hb2 : k.toNatClampNeg ≤ 1000) (hcells : cells + (1 + n.toNatClampNeg) ≤ R.cells) (hslots : slots + (n.toNatClampNeg + n.toNatClampNeg * k.toNatClampNeg) ≤ R.slots)
    (kk : ∀ (H1 : Heap) (cA comp : ClassId) (locs1 : List Loc), s.vm.findClass "[[I" = some cA → s.vm.findClass "[I" = some comp → H1.size = H.size + 1 + n.toNatClampNeg → (∀ q, q < H.size → H1[q]? = H[q]?) → H1[H.size]? = some (zm_o cA n.toNatClampNeg H.size n.toNatClampNeg) → (∀ j, j < n.toNatClampNeg → H1[H.size + 1 + j]? = some (zm_r comp k.toNatClampNeg)) → (∀ x ∈ locs1, x ∈ locs ∨ x.base = H.size) →
      W p l e R s m args below meth c H1 locs1 (cells + 1 + n.toNatClampNeg) (slots + n.toNatClampNeg + n.toNatClampNeg * k.toNatClampNeg) Q (F0 m (pc + 4) ls (.ref H.size :: rest))) : W p l e R s m args below meth c H locs cells slots Q (F0 m pc ls (.int k :: .int n :: rest)) := by
  intro T hT X
  subst hb
  subst hT
  obtain ⟨comp, cA, kA, hcomp, hnameA, hkA, hkindA⟩ := hAI
  obtain ⟨comp', kC, cc, hcomp', hkC, hkindC⟩ := Cond.arrayClass_spec harr
  cases (hcomp'.symm.trans hcomp : some comp' = some comp)
  obtain ⟨c0, hfc0, hcl⟩ := Cond.classLink_spec hown hclink e.platform (by rw [X.admits.platform])
  cases hnameA.symm.trans hfc0
  obtain ⟨g₁, w₁, -⟩ := State.classEntry (e := e) X.warmed hcl
  generalize T.vm.noted m.cls index (.cls cA) = vm₁ at g₁ w₁
  obtain ⟨kA₁, qA, eA⟩ := w₁.alike.2.2 _ _ hkA
  obtain ⟨kC₁, qC, eC⟩ := w₁.alike.2.2 _ _ hkC
  have X₁ := X.noted w₁
  obtain ⟨r1, r2⟩ := X.roomAbove hcells hslots
  have lim := Launch.admits_arrayLengthLimit X.admits
  have lim2 := Launch.admits_maxHeapBytes X.admits
  obtain ⟨locs1, u1, u2, u3, u4, u5⟩ := zm_s_at X₁ cA comp k.toNatClampNeg n.toNatClampNeg (Nat.le_refl _)
  obtain ⟨t, a1, b1⟩ := kk (zm_s (T.setVm vm₁) cA comp n.toNatClampNeg k.toNatClampNeg n.toNatClampNeg).heap cA comp locs1 hnameA hcomp u4.1 u4.2.1 u4.2.2.1 u4.2.2.2 u5 _ rfl u1
  refine ⟨t, ?_, b1⟩
  have top := X.here.top
  jvm_step X.here [hexec, hdg]
  have g₂ : (resolveClass (F0 m pc ls (.int k :: .int n :: rest)).method.cls index).Gives e.toSetting (T.setTop (F0 m pc ls (.int k :: .int n :: rest))).vm (.ok cA) vm₁ := g₁
  simp only [multianewarray.sem, wp_bind', W.resolveClassAt_links (State.method?_setTop (F0 m pc ls (.int k :: .int n :: rest)) top) g₂]
  rw [W.popN, if_neg (by decide)]
  refine ⟨F0 m pc ls (.int k :: .int n :: rest), State.topJava?_setTop' (s := T.setVm vm₁) _ top, [.int n, .int k], rest, rfl, rfl, ?_⟩
  simp only [List.mapM_cons, List.mapM_nil, wp_bind', wp_pure']
  have e1 : ((T.setTop (F0 m pc ls (.int k :: .int n :: rest))).setVm vm₁).setTop (F0 m pc ls rest) = (T.setVm vm₁).setTop (F0 m pc ls rest) := by
    show ((T.setVm vm₁).setTop _).setTop _ = _
    rw [State.setTop_setTop]
  show wp _ _ _ _ _ _ (((T.setTop (F0 m pc ls (.int k :: .int n :: rest))).setVm vm₁).setTop (F0 m pc ls rest))
  rw [e1]
  refine zm_make X₁ qA (by rw [eA]; exact hkindA) qC (by rw [eC]; exact hkindC) hn hk (by omega) (by rw [lim2]; show ¬ _ * 4 > _; omega) (by omega) (by rw [lim2]; show ¬ _ * 4 > _; omega) (by show T.heap.size + 1 + _ ≤ _; omega) (by show T.slotsUsed + _ + _ ≤ _; omega) (fun d' acts' => ?_)
  simp only [wp_bind', W.mark, W.pushRef, State.topJava?_setTop' _ u1.here.top, Option.some.injEq, exists_eq_left', State.setTop_setTop]
  intro acts
  simp [jvm, u1.here.top]
  exact a1
end ZM82
section ZM82c
variable {Γ : zg_C} {Ξ : State → Prop} {μ : zg_M} {R : Room} {Ω : List Frame → Array Value → State → State → Prop} {bc bs pc N : Nat} {ls : List (Option Value)} {st : List Value} {K : zg_K} {P : zg_P} {V : zg_V}
def zg_upR (P : zg_P) (N n : Nat) : zg_P := fun a j => if a = N then if j < n then some (N + 1 + j) else P a j else P a j
theorem zg_d_n {H H1 : Heap} : ∀ (k N : Nat), zg_d Γ K N P V H → H1.size = H.size + k → (∀ q, q < H.size → H1[q]? = H[q]?) → (∀ i, i < k → va_at Γ.2.2.1 zn_cl (Γ.2.1 + N + i, zg_e Γ (K (N + i)) (V (N + i)) (P (N + i))) H1) → zg_d Γ K (N + k) P V H1 := by
  intro k N hd z o hn
  obtain ⟨hP, hs⟩ := hd
  refine ⟨fun j x hx => ?_, by rw [z, hs]; omega⟩
  have hj : j < N + k := by have := (List.getElem?_eq_some_iff.mp hx).1; simpa [zg_w] using this
  rw [zg_w_at Γ K P V hj] at hx
  cases hx
  by_cases q : j < N
  · have h0 := hP j _ (zg_w_at Γ K P V q)
    exact h0.kept (o _ (by rw [hs]; show Γ.2.1 + j < _; omega))
  · have := hn (j - N) (by omega)
    rw [show N + (j - N) = j by omega, show Γ.2.1 + N + (j - N) = Γ.2.1 + j by omega] at this
    exact this
theorem zg_multi {ix n k : Nat} {z y : Int} (hd : decode μ.2.1 pc = .ok (.multianewarray ix 2, 4)) (hcl : Cond.classLink μ.1.cls ix "[[I" ∈ zn_TS) (hK : K N = (6, n)) (hKr : ∀ i, i < n → K (N + 1 + i) = (1, k)) (hz : z = (n : Int)) (hy : y = (k : Int)) (hn : n ≤ 1000) (hk : k ≤ 1000) (hV : ∀ b, N ≤ b → b ≤ N + n → ∀ j, V b j = 0) (hP : ∀ j, P N j = none) (hbc : 1 + n ≤ bc) (hbs : n + n * k ≤ bs)
    (kk : zg_G Γ Ξ μ R Ω (bc - (1 + n)) (bs - (n + n * k)) (pc + 4) ls (zg_r Γ N :: st) K (N + (1 + n)) (zg_upR P N n) V) : zg_G Γ Ξ μ R Ω bc bs pc ls (zg_i y :: zg_i z :: st) K N P V := by
  intro p e s m args below meth c H locs cells slots lz X Y
  have h1 := Y.2.2.2.1
  have h2 := Y.2.2.2.2
  have hts := X.2.2.2.2.2.1
  have hN : (Int32.ofInt z).toNatClampNeg = n := zg_nat hz (by omega)
  have hM : (Int32.ofInt y).toNatClampNeg = k := zg_nat hy (by omega)
  have hs : H.size = Γ.2.1 + N := Y.2.1.2
  refine zm_W (n := Int32.ofInt z) (k := Int32.ofInt y) X.1 X.2.1 X.2.2.2.2.2.2.1 (hts _ hcl) X.2.2.2.2.2.2.2.2.1.2.2.2.2.2 (hts _ zw_52) hd (by rw [zg_lt0 (by omega)]; omega) (by rw [zg_lt0 (by omega)]; omega) (by rw [hN]; omega) (by rw [hM]; omega) (by rw [hN]; omega) (by rw [hN, hM]; omega) fun H1 cA comp locs1 f1 f2 z1 o1 e1 r1 l1 => ?_
  rw [hN] at z1 e1 r1
  rw [hM] at r1
  rw [hN, hM, hs]
  have hcA : cA = Γ.2.2.2 5 := Option.some.inj (f1.symm.trans (X.2.2.2.2.2.2.2.2.1.1.2 5 _ (zg_tys_ra (t := 2) rfl)).2)
  have hcB : comp = Γ.2.2.2 0 := Option.some.inj (f2.symm.trans (va_nm_int (X.2.2.2.2.2.2.2.2.1.1.2 0 _ zg_tys_at.1).2))
  have hY := Y.2.1
  have hd0 : zg_d Γ K N (zg_upR P N n) V H := by
    refine ⟨fun j x hx => ?_, hs⟩
    have hj : j < N := by have := (List.getElem?_eq_some_iff.mp hx).1; simpa [zg_w] using this
    have h0 := hY.1 j _ (zg_w_at Γ K P V hj)
    rw [zg_w_at Γ K _ V hj] at hx
    have e0 : zg_upR P N n j = P j := by
      funext q
      unfold zg_upR
      rw [if_neg (by omega)]
    rw [e0] at hx
    cases hx
    exact h0
  refine kk p e s m args below meth c H1 locs1 (cells + 1 + n) (slots + n + n * k) lz X ⟨Y.1, zg_d_n (1 + n) N hd0 (by omega) o1 (fun i hi => ?_), ⟨Nat.le_trans Y.2.2.1.1 (by omega), fun q q1 q2 => (o1 q (Nat.lt_of_lt_of_le q1 Y.2.2.1.1)).trans (Y.2.2.1.2.1 q q1 q2), fun x hx => ?_⟩, by omega, by omega⟩
  · by_cases q : i = 0
    · subst q
      show va_at _ _ (Γ.2.1 + N, zg_e Γ (K N) (V N) (zg_upR P N n N)) H1
      rw [hK]
      show H1[Γ.2.1 + N]? = some (arrV (Γ.2.2.2 5) n (fun j => va_rf ((zg_upR P N n N j).map (fun a => Γ.2.1 + a))))
      rw [← hs, e1, hcA]
      unfold zm_o
      congr 2
      funext j
      unfold zg_upR
      rw [if_pos rfl]
      by_cases q : j < n
      · rw [if_pos q, if_pos q, hs]
        exact congrArg Value.ref (show (Γ.2.1 + N + 1 + j : Nat) = Γ.2.1 + (N + 1 + j) by omega)
      · rw [if_neg q, if_neg q, hP]
        rfl
    · have e3 : N + i = N + 1 + (i - 1) := by omega
      show va_at _ _ (Γ.2.1 + N + i, zg_e Γ (K (N + i)) (V (N + i)) (zg_upR P N n (N + i))) H1
      rw [e3, hKr (i - 1) (by omega)]
      show H1[Γ.2.1 + N + i]? = some (arrV (Γ.2.2.2 0) k (fun j => .int (Int32.ofInt (V (N + 1 + (i - 1)) j))))
      have := r1 (i - 1) (by omega)
      rw [hs, show Γ.2.1 + N + 1 + (i - 1) = Γ.2.1 + N + i by omega, hcB] at this
      rw [this]
      unfold zm_r
      congr 2
      funext j
      rw [hV _ (by omega) (by omega)]
      rfl
  · rcases l1 x hx with h | h
    · exact Y.2.2.1.2.2 x h
    · show Γ.2.1 ≤ x.base
      rw [h, hs]
      exact Nat.le_add_right _ _
end ZM82c

