/-! arrays of arrays of ints -/
def zm_o (c : ClassId) (n h0 i : Nat) : Cell := arrV c n (fun j => if j < i then .ref (h0 + 1 + j) else .null)
def zm_r (comp : ClassId) (k : Nat) : Cell := arrV comp k (fun _ => .int 0)
def zm_s (s : State) (c comp : ClassId) (n k : Nat) : Nat → State
  | 0 => s.pushCell (zm_o c n s.heap.size 0)
  | i + 1 => ((zm_s s c comp n k i).pushCell (zm_r comp k)).setCell s.heap.size (zm_o c n s.heap.size (i + 1))
theorem zm_o_sz (c : ClassId) (n h0 i : Nat) : (zm_o c n h0 i).slots.size = n := arrV_size _ _ _
theorem zm_r_sz (c : ClassId) (k : Nat) : (zm_r c k).slots.size = k := arrV_size _ _ _
theorem zm_o_s (c : ClassId) {n : Nat} (h0 : Nat) {i : Nat} (hi : i < n) : (zm_o c n h0 i).setSlot i (.ref (h0 + 1 + i)) = zm_o c n h0 (i + 1) := by
  unfold zm_o
  rw [arrV_store]
  congr 1
  funext j
  unfold updV
  by_cases e : j = i
  · subst e
    rw [if_pos rfl, if_pos (by omega)]
  · rw [if_neg e]
    show (if j < i then Value.ref (h0 + 1 + j) else .null) = _
    by_cases q : j < i
    · rw [if_pos q, if_pos (by omega)]
    · rw [if_neg q, if_neg (by omega)]
theorem zm_s_f (s : State) (c comp : ClassId) (n k : Nat) : ∀ i, (zm_s s c comp n k i).heap.size = s.heap.size + 1 + i ∧ (zm_s s c comp n k i).heap[s.heap.size]? = some (zm_o c n s.heap.size i) ∧ (zm_s s c comp n k i).vm = s.vm ∧ (zm_s s c comp n k i).slotsUsed = s.slotsUsed + n + i * k
  | 0 => ⟨by simp [zm_s], by simp [zm_s], rfl, by simp [zm_s, zm_o_sz]⟩
  | i + 1 => by
    obtain ⟨a, b, d, u⟩ := zm_s_f s c comp n k i
    have hlt : s.heap.size < (zm_s s c comp n k i).heap.size := by omega
    have hb' : ((zm_s s c comp n k i).pushCell (zm_r comp k)).heap[s.heap.size]? = some (zm_o c n s.heap.size i) := by rw [State.heap_pushCell_of_lt (h := hlt)]; exact b
    refine ⟨?_, State.heap_setCell_self hb', by simp [zm_s, d], ?_⟩
    · simp [zm_s, State.setCell, a]; omega
    · simp [zm_s, u, zm_r_sz, Nat.succ_mul]; omega
theorem zm_s_top (s : State) (f : JFrame) (c comp : ClassId) (n k : Nat) : ∀ i, zm_s (s.setTop f) c comp n k i = (zm_s s c comp n k i).setTop f
  | 0 => rfl
  | i + 1 => by simp only [zm_s, zm_s_top s f c comp n k i, State.heap_setTop, State.pushCell_setTop, State.setCell_setTop]
theorem zm_s_old (s : State) (c comp : ClassId) (n k : Nat) {a : Addr} (ha : a < s.heap.size) : ∀ i, (zm_s s c comp n k i).heap[a]? = s.heap[a]?
  | 0 => State.heap_pushCell_of_lt _ _ ha
  | i + 1 => by
    have f1 := (zm_s_f s c comp n k i).1
    have hlt : a < (zm_s s c comp n k i).heap.size := Nat.lt_of_lt_of_le ha (by rw [f1]; omega)
    show (((zm_s s c comp n k i).pushCell (zm_r comp k)).setCell s.heap.size _).heap[a]? = _
    rw [State.heap_setCell_other (Nat.ne_of_gt ha), State.heap_pushCell_of_lt (h := hlt)]
    exact zm_s_old s c comp n k ha i
theorem zm_s_row (s : State) (c comp : ClassId) (n k : Nat) : ∀ i j, j < i → (zm_s s c comp n k i).heap[s.heap.size + 1 + j]? = some (zm_r comp k)
  | 0, _, h => absurd h (Nat.not_lt_zero _)
  | i + 1, j, h => by
    have f1 := (zm_s_f s c comp n k i).1
    show (((zm_s s c comp n k i).pushCell (zm_r comp k)).setCell s.heap.size _).heap[s.heap.size + 1 + j]? = _
    rw [State.heap_setCell_other (show s.heap.size ≠ s.heap.size + 1 + j by omega)]
    by_cases hj : j < i
    · have hlt : s.heap.size + 1 + j < (zm_s s c comp n k i).heap.size := by rw [f1]; omega
      rw [State.heap_pushCell_of_lt (h := hlt)]
      exact zm_s_row s c comp n k i j hj
    · have e : j = i := by omega
      subst e
      rw [← f1]
      exact State.heap_pushCell_size _ _
section ZM82
variable {E : CtlPost} {e : Env} {d : Bool} {acts : List Action} {s : State}
theorem zm_newArray {c comp : ClassId} {k : Class} {type : FieldType} {len : Nat} {init : Value} (hk : s.vm.classes[c]? = some k) (hkind : k.kind = .array comp type)
    (hlimit : ¬ len > e.platform.arrayLengthLimit) (hheap : ¬ len * componentBytes type > e.platform.maxHeapBytes) (hfit : fits type init = true) (hdef : init.isDefault = true) {Q : Addr → Pre}
    (h1 : s.heap.size < e.platform.maxCells) (h2 : s.slotsUsed + len ≤ e.platform.maxSlots)
    (hq : Q s.heap.size d acts (s.pushCell (arrV c len (fun _ => init)))) : wp (Jvm.newArray c len init) Q E e d acts s := by
  rw [← arrV_new] at hq
  have hfits : ∀ i v, (Array.replicate len init)[i]? = some v → s.fitsSlot c .none i v = true := by
    intro i v hv
    simp only [Array.getElem?_replicate] at hv
    split at hv
    · cases hv; simp [State.fitsSlot, State.slotType?, hk, hkind, hfit]
    · cases hv
  have hda : allocActs (Array.replicate len init) s.heap.size acts = acts := by
    have hall : ((Array.replicate len init).all (·.isDefault)) = true := by
      rw [Array.all_replicate]; split <;> simp [hdef]
    unfold allocActs; rw [if_pos hall]
  simp only [Jvm.newArray, Jvm.arrayFits, wp_bind', W.ask, W.ite, hlimit, if_false, wp_pure', W.theClass, hk, hkind, hheap, W.alloc, W.stop, Option.some.injEq, exists_eq_left', Array.size_replicate, hda]
  rw [if_neg (by omega)]
  exact ⟨h1, h2, hfits, hq⟩
theorem zm_row {comp cc : ClassId} {kc : Class} {m : Int32} (hkc : s.vm.classes[comp]? = some kc) (hkindc : kc.kind = .array cc .int) (hm : ¬ m < 0)
    (hl2 : ¬ m.toNatClampNeg > e.platform.arrayLengthLimit) (hh2 : ¬ m.toNatClampNeg * componentBytes .int > e.platform.maxHeapBytes)
    (h1 : s.heap.size < e.platform.maxCells) (h2 : s.slotsUsed + m.toNatClampNeg ≤ e.platform.maxSlots)
    {Q : Addr → Pre} (hq : Q s.heap.size d acts (s.pushCell (zm_r comp m.toNatClampNeg))) : wp (multianewarray.make comp [m]) Q E e d acts s := by
  rw [multianewarray.make]
  simp only [wp_bind', W.ite, hm, if_false, wp_pure', W.theClass, hkc, hkindc, Option.some.injEq, exists_eq_left']
  exact zm_newArray (init := defaultValue .int) hkc hkindc hl2 hh2 rfl rfl h1 h2 hq
theorem zm_rf (v : Value) (hv : v = .null ∨ ∃ a, v = .ref a) : fits (.array .int) v = true := by
  rcases hv with rfl | ⟨a, rfl⟩ <;> rfl
theorem zm_make {c comp cc : ClassId} {k kc : Class} {n m : Int32} (hk : s.vm.classes[c]? = some k) (hkind : k.kind = .array comp (.array .int))
    (hkc : s.vm.classes[comp]? = some kc) (hkindc : kc.kind = .array cc .int) (hn : ¬ n < 0) (hm : ¬ m < 0)
    (hl1 : ¬ n.toNatClampNeg > e.platform.arrayLengthLimit) (hh1 : ¬ n.toNatClampNeg * componentBytes (.array .int) > e.platform.maxHeapBytes)
    (hl2 : ¬ m.toNatClampNeg > e.platform.arrayLengthLimit) (hh2 : ¬ m.toNatClampNeg * componentBytes .int > e.platform.maxHeapBytes)
    (hc : s.heap.size + 1 + n.toNatClampNeg ≤ e.platform.maxCells) (hs : s.slotsUsed + n.toNatClampNeg + n.toNatClampNeg * m.toNatClampNeg ≤ e.platform.maxSlots)
    {Q : Addr → Pre} (hq : ∀ d' acts', Q s.heap.size d' acts' (zm_s s c comp n.toNatClampNeg m.toNatClampNeg n.toNatClampNeg)) : wp (multianewarray.make c [n, m]) Q E e d acts s := by
  generalize hN : n.toNatClampNeg = N' at *
  generalize hM : m.toNatClampNeg = M' at *
  have hfind : ([m].find? (· < 0)) = none := by simp [hm]
  rw [multianewarray.make]
  simp only [wp_bind', W.ite, hn, if_false, wp_pure', W.theClass, hk, hkind, Option.some.injEq, exists_eq_left', hN]
  refine zm_newArray hk hkind hl1 hh1 (zm_rf _ (Or.inl rfl)) rfl (by omega) (by have := Nat.zero_le (N' * M'); omega) ?_
  simp only [hfind]
  rw [ite_self, wp_bind', Std.Legacy.Range.forIn_eq_forIn_range']
  have hsz : ([:N'] : Std.Legacy.Range).size = N' := by simp [Std.Legacy.Range.size]
  rw [hsz]
  show wp (forIn (List.range' 0 N' 1) PUnit.unit _) _ E e d acts _
  have e0 : arrV c N' (fun _ => Value.null) = zm_o c N' s.heap.size 0 := by
    unfold zm_o
    congr 1
  rw [e0]
  refine wp_forIn_inv (fun rest s' => ∃ i, i ≤ N' ∧ rest = List.range' i (N' - i) ∧ s' = zm_s s c comp N' M' i) _ _ ⟨0, Nat.zero_le _, rfl, rfl⟩ ?_ ?_
  · rintro x rest s' d' acts' Q' ⟨i, hi, hl, rfl⟩ hnext
    have hlt : i < N' := by
      by_cases h : i < N'
      · exact h
      · rw [show N' - i = 0 by omega] at hl; simp at hl
    rw [show N' - i = (N' - (i + 1)) + 1 by omega, List.range'_succ] at hl
    obtain ⟨rfl, hrest⟩ : x = i ∧ rest = List.range' (i + 1) (N' - (i + 1)) := ⟨(List.cons.inj hl).1, (List.cons.inj hl).2⟩
    obtain ⟨f1, f2, f3, f4⟩ := zm_s_f s c comp N' M' x
    have hmul : x * M' + M' ≤ N' * M' := by
      have := Nat.mul_le_mul_right M' (show x + 1 ≤ N' from hlt)
      rw [Nat.succ_mul] at this; exact this
    simp only [wp_bind']
    refine zm_row (by rw [f3]; exact hkc) hkindc hm (by rw [hM]; exact hl2) (by rw [hM]; exact hh2) (by rw [f1]; omega) (by rw [f4, hM]; omega) ?_
    rw [hM]
    have hlt0 : s.heap.size < (zm_s s c comp N' M' x).heap.size := by rw [f1]; omega
    simp only [wp_bind', W.writeLoc, wp_pure']
    refine ⟨zm_o c N' s.heap.size x, by rw [State.heap_pushCell_of_lt (h := hlt0)]; exact f2, by simp [zm_o, arrV], by rw [zm_o_sz]; exact hlt, ?_, hnext _ _ _ ⟨x + 1, hlt, hrest, ?_⟩⟩
    · show State.fitsSlot _ c .none _ _ = true
      simp [State.fitsSlot, State.slotType?, f3, hk, hkind, zm_rf _ (Or.inr ⟨_, rfl⟩)]
    · rw [f1, zm_o_s c s.heap.size hlt]
      rfl
  · rintro s' d' acts' ⟨i, hi, hl, rfl⟩
    have hiN : i = N' := by
      by_cases h : i < N'
      · rw [show N' - i = (N' - (i + 1)) + 1 by omega, List.range'_succ] at hl; cases hl
      · omega
    subst hiN
    simp only [wp_pure']
    exact hq _ _
end ZM82
section ZM82b
variable {p : Program} {l : Launch} {e : Env} {R : Room} {s : State} {m : MethodId} {args : Array Value} {below : List Frame} {meth : Method} {c : Code} {T : State} {locs : List Loc} {cells slots : Nat}
theorem zm_stand (X : Stand p l e R s m args below meth c T locs cells slots) (cA comp : ClassId) {n : Nat} (k : Nat) :
    ∀ i, i ≤ n → Stand p l e R s m args below meth c (zm_s T cA comp n k i) (locs ++ (List.range i).map fun j => ⟨T.heap.size, j⟩) (cells + 1 + i) (slots + n + i * k)
  | 0, _ => by
    have h := X.pushed (zm_o cA n T.heap.size 0)
    rw [zm_o_sz] at h
    simpa [zm_s] using h
  | i + 1, hi => by
    have Xi := zm_stand (n := n) X cA comp k i (by omega)
    obtain ⟨f1, f2, f3, f4⟩ := zm_s_f T cA comp n k i
    have hlt0 : T.heap.size < (zm_s T cA comp n k i).heap.size := by rw [f1]; omega
    have hcell : ((zm_s T cA comp n k i).pushCell (zm_r comp k)).heap[T.heap.size]? = some (zm_o cA n T.heap.size i) := by rw [State.heap_pushCell_of_lt (h := hlt0)]; exact f2
    have h := (Xi.pushed (zm_r comp k)).stored hcell i (.ref (T.heap.size + 1 + i))
    rw [zm_r_sz, zm_o_s cA T.heap.size (by omega)] at h
    have e2 : (locs ++ (List.range (i + 1)).map fun j => (⟨T.heap.size, j⟩ : Loc)) = (locs ++ (List.range i).map fun j => (⟨T.heap.size, j⟩ : Loc)) ++ [⟨T.heap.size, i⟩] := by simp [List.range_succ, List.append_assoc]
    have e3 : slots + n + (i + 1) * k = slots + n + i * k + k := by rw [Nat.succ_mul]; omega
    rw [e2, e3]
    exact h
theorem zm_W {H : Heap} {Q : State → Prop} {cc : ByteArray} (hexec : p.tables.exec = Jvm.exec) (hb : c.code = cc) {own : String} {index pc : Nat} {ls : Array Slot} (hown : s.vm.findClass own = some m.cls) (hclink : (Cond.classLink own index "[[I").before args s = true) (hAI : zn_AI s) (harr : (Cond.arrayClass .int).before args s = true)
    (hdg : decode cc pc = .ok (.multianewarray index 2, 4)) {n k : Int32} {rest : List Value} (hn : ¬ n < 0) (hk : ¬ k < 0) (hb1 : n.toNatClampNeg ≤ 1000) (hb2 : k.toNatClampNeg ≤ 1000) (hcells : cells + (1 + n.toNatClampNeg) ≤ R.cells) (hslots : slots + (n.toNatClampNeg + n.toNatClampNeg * k.toNatClampNeg) ≤ R.slots)
    (kk : ∀ (H1 : Heap) (cA comp : ClassId) (locs1 : List Loc), s.vm.findClass "[[I" = some cA → s.vm.findClass "[I" = some comp → H1.size = H.size + 1 + n.toNatClampNeg → (∀ q, q < H.size → H1[q]? = H[q]?) → H1[H.size]? = some (zm_o cA n.toNatClampNeg H.size n.toNatClampNeg) → (∀ j, j < n.toNatClampNeg → H1[H.size + 1 + j]? = some (zm_r comp k.toNatClampNeg)) → (∀ x ∈ locs1, x ∈ locs ∨ x.base = H.size) →
      W p l e R s m args below meth c H1 locs1 (cells + 1 + n.toNatClampNeg) (slots + n.toNatClampNeg + n.toNatClampNeg * k.toNatClampNeg) Q (F0 m (pc + 4) ls (.ref H.size :: rest))) : W p l e R s m args below meth c H locs cells slots Q (F0 m pc ls (.int k :: .int n :: rest)) := by
  intro T hT X
  subst hb
  subst hT
  have hpl : e.platform.magicAccessors = ({} : Platform).magicAccessors := by rw [X.admits.platform]
  obtain ⟨comp, cA, kA, hcomp, hnameA, hkA, hkindA⟩ := hAI
  obtain ⟨comp', kC, cc, hcomp', hkC, hkindC⟩ := Cond.arrayClass_spec harr
  have ecomp : comp' = comp := Option.some.inj (hcomp'.symm.trans hcomp)
  subst ecomp
  obtain ⟨c0, hfc0, hcl⟩ := Cond.classLink_spec hown hclink e.platform hpl
  cases hnameA.symm.trans hfc0
  obtain ⟨hg₁, hwarm₁, hready₁⟩ := State.classEntry (e := e) X.warmed hcl
  generalize T.vm.noted m.cls index (.cls cA) = vm₁ at hg₁ hwarm₁ hready₁
  have hal : s.vm.Alike vm₁ := hwarm₁.alike
  obtain ⟨kA₁, hkA₁, heA⟩ := hal.2.2 _ _ hkA
  obtain ⟨kC₁, hkC₁, heC⟩ := hal.2.2 _ _ hkC
  have hkindA₁ : kA₁.kind = .array comp' (.array .int) := by rw [heA]; exact hkindA
  have hkindC₁ : kC₁.kind = .array cc .int := by rw [heC]; exact hkindC
  have X₁ := X.noted hwarm₁
  obtain ⟨hr1, hr2⟩ := X.roomAbove hcells hslots
  have XF := zm_stand X₁ cA comp' k.toNatClampNeg n.toNatClampNeg (Nat.le_refl _)
  obtain ⟨f1, f2, f3, f4⟩ := zm_s_f (T.setVm vm₁) cA comp' n.toNatClampNeg k.toNatClampNeg n.toNatClampNeg
  obtain ⟨t', a1, b1⟩ := kk (zm_s (T.setVm vm₁) cA comp' n.toNatClampNeg k.toNatClampNeg n.toNatClampNeg).heap cA comp' _ hnameA hcomp f1 (fun q hq => zm_s_old (T.setVm vm₁) cA comp' _ _ hq _) f2 (fun j hj => zm_s_row (T.setVm vm₁) cA comp' _ _ _ j hj) (fun x hx => by
      rcases List.mem_append.mp hx with h | h
      · exact Or.inl h
      · obtain ⟨j, -, rfl⟩ := List.mem_map.mp h
        exact Or.inr rfl) _ rfl XF
  refine ⟨t', ?_, b1⟩
  have hl1 : ¬ n.toNatClampNeg > e.platform.arrayLengthLimit := by rw [Launch.admits_arrayLengthLimit X.admits]; omega
  have hh1 : ¬ n.toNatClampNeg * componentBytes (.array .int) > e.platform.maxHeapBytes := by
    rw [Launch.admits_maxHeapBytes X.admits]; show ¬ n.toNatClampNeg * 4 > 536870912; omega
  have hl2 : ¬ k.toNatClampNeg > e.platform.arrayLengthLimit := by rw [Launch.admits_arrayLengthLimit X.admits]; omega
  have hh2 : ¬ k.toNatClampNeg * componentBytes .int > e.platform.maxHeapBytes := by
    rw [Launch.admits_maxHeapBytes X.admits]; show ¬ k.toNatClampNeg * 4 > 536870912; omega
  jvm_step X.here [hexec, hdg]
  have hg₂ : (resolveClass (F0 m pc ls (.int k :: .int n :: rest)).method.cls index).Gives e.toSetting (T.setTop (F0 m pc ls (.int k :: .int n :: rest))).vm (.ok cA) vm₁ := hg₁
  simp only [multianewarray.sem, wp_bind', W.resolveClassAt_links (State.method?_setTop (F0 m pc ls (.int k :: .int n :: rest)) X.here.top) hg₂]
  rw [W.popN, if_neg (by decide)]
  refine ⟨F0 m pc ls (.int k :: .int n :: rest), State.topJava?_setTop' (s := T.setVm vm₁) _ X.here.top, [.int n, .int k], rest, rfl, rfl, ?_⟩
  simp only [List.mapM_cons, List.mapM_nil, wp_bind', wp_pure']
  refine zm_make (k := kA₁) (kc := kC₁) (comp := comp') (cc := cc) hkA₁ hkindA₁ hkC₁ hkindC₁ hn hk hl1 hh1 hl2 hh2 (by show T.heap.size + 1 + _ ≤ _; omega) (by show T.slotsUsed + _ + _ ≤ _; omega) (fun d' acts' => ?_)
  have eS : ((T.setTop (F0 m pc ls (.int k :: .int n :: rest))).setVm vm₁).setTop { F0 m pc ls (.int k :: .int n :: rest) with stack := rest } = (T.setVm vm₁).setTop { F0 m pc ls (.int k :: .int n :: rest) with stack := rest } := by
    show ((T.setVm vm₁).setTop (F0 m pc ls (.int k :: .int n :: rest))).setTop _ = _
    rw [State.setTop_setTop]
  rw [eS, zm_s_top]
  simp only [wp_bind', W.mark, W.pushRef, State.topJava?_setTop' _ XF.here.top, Option.some.injEq, exists_eq_left', State.setTop_setTop, State.heap_setTop]
  intro acts
  simp [jvm, XF.here.top]
  exact a1
end ZM82b
section ZM82c
variable {Γ : zg_C} {Ξ : State → Prop} {μ : zg_M} {R : Room} {Ω : List Frame → Array Value → State → State → Prop} {bc bs pc N : Nat} {ls : List (Option Value)} {st : List Value} {K : zg_K} {P : zg_P} {V : zg_V}
def zg_upR (P : zg_P) (N n : Nat) : zg_P := fun a j => if a = N then if j < n then some (N + 1 + j) else P a j else P a j
theorem zg_d_n {H H1 : Heap} : ∀ (k N : Nat), zg_d Γ K N P V H → H1.size = H.size + k → (∀ q, q < H.size → H1[q]? = H[q]?) → (∀ i, i < k → va_at Γ.2.2.1 zn_cl (Γ.2.1 + N + i, zg_e Γ (K (N + i)) (V (N + i)) (P (N + i))) H1) → zg_d Γ K (N + k) P V H1 := by
  intro k N hd z o hn
  obtain ⟨hP, hs⟩ := hd
  refine ⟨fun j x hx => ?_, by rw [z, hs]; omega⟩
  have hj : j < N + k := by have := (List.getElem?_eq_some_iff.mp hx).1; simpa [zg_w] using this
  rw [zg_w_at Γ K P V hj] at hx
  cases hx
  by_cases q : j < N
  · have h0 := hP j _ (zg_w_at Γ K P V q)
    exact h0.kept (o _ (by rw [hs]; show Γ.2.1 + j < _; omega))
  · have := hn (j - N) (by omega)
    rw [show N + (j - N) = j by omega, show Γ.2.1 + N + (j - N) = Γ.2.1 + j by omega] at this
    exact this
theorem zg_multi {ix n k : Nat} {z y : Int} (hd : decode μ.2.1 pc = .ok (.multianewarray ix 2, 4)) (hcl : Cond.classLink μ.1.cls ix "[[I" ∈ zn_TS) (hK : K N = (6, n)) (hKr : ∀ i, i < n → K (N + 1 + i) = (1, k)) (hz : z = (n : Int)) (hy : y = (k : Int)) (hn : n ≤ 1000) (hk : k ≤ 1000) (hV : ∀ b, N ≤ b → b ≤ N + n → ∀ j, V b j = 0) (hP : ∀ j, P N j = none) (hbc : 1 + n ≤ bc) (hbs : n + n * k ≤ bs)
    (kk : zg_G Γ Ξ μ R Ω (bc - (1 + n)) (bs - (n + n * k)) (pc + 4) ls (zg_r Γ N :: st) K (N + (1 + n)) (zg_upR P N n) V) : zg_G Γ Ξ μ R Ω bc bs pc ls (zg_i y :: zg_i z :: st) K N P V := by
  intro p e s m args below meth c H locs cells slots lz X Y
  have h1 := Y.2.2.2.1
  have h2 := Y.2.2.2.2
  have hts := X.2.2.2.2.2.1
  have hN : (Int32.ofInt z).toNatClampNeg = n := zg_nat hz (by omega)
  have hM : (Int32.ofInt y).toNatClampNeg = k := zg_nat hy (by omega)
  have hs : H.size = Γ.2.1 + N := Y.2.1.2
  refine zm_W (n := Int32.ofInt z) (k := Int32.ofInt y) X.1 X.2.1 X.2.2.2.2.2.2.1 (hts _ hcl) X.2.2.2.2.2.2.2.2.1.2.2.2.2.2 (hts _ zw_52) hd (by rw [zg_lt0 (by omega)]; omega) (by rw [zg_lt0 (by omega)]; omega) (by rw [hN]; omega) (by rw [hM]; omega) (by rw [hN]; omega) (by rw [hN, hM]; omega) fun H1 cA comp locs1 f1 f2 z1 o1 e1 r1 l1 => ?_
  rw [hN] at z1 e1 r1
  rw [hM] at r1
  rw [hN, hM, hs]
  have hcA : cA = Γ.2.2.2 5 := Option.some.inj (f1.symm.trans (X.2.2.2.2.2.2.2.2.1.1.2 5 _ (zg_tys_ra (t := 2) rfl)).2)
  have hcB : comp = Γ.2.2.2 0 := Option.some.inj (f2.symm.trans (va_nm_int (X.2.2.2.2.2.2.2.2.1.1.2 0 _ zg_tys_at.1).2))
  have hY := Y.2.1
  have hd0 : zg_d Γ K N (zg_upR P N n) V H := by
    refine ⟨fun j x hx => ?_, hs⟩
    have hj : j < N := by have := (List.getElem?_eq_some_iff.mp hx).1; simpa [zg_w] using this
    have h0 := hY.1 j _ (zg_w_at Γ K P V hj)
    rw [zg_w_at Γ K _ V hj] at hx
    have e0 : zg_upR P N n j = P j := by
      funext q
      unfold zg_upR
      rw [if_neg (by omega)]
    rw [e0] at hx
    cases hx
    exact h0
  refine kk p e s m args below meth c H1 locs1 (cells + 1 + n) (slots + n + n * k) lz X ⟨Y.1, zg_d_n (1 + n) N hd0 (by omega) o1 (fun i hi => ?_), ⟨Nat.le_trans Y.2.2.1.1 (by omega), fun q q1 q2 => (o1 q (Nat.lt_of_lt_of_le q1 Y.2.2.1.1)).trans (Y.2.2.1.2.1 q q1 q2), fun x hx => ?_⟩, by omega, by omega⟩
  · by_cases q : i = 0
    · subst q
      show va_at _ _ (Γ.2.1 + N, zg_e Γ (K N) (V N) (zg_upR P N n N)) H1
      rw [hK]
      show H1[Γ.2.1 + N]? = some (arrV (Γ.2.2.2 5) n (fun j => va_rf ((zg_upR P N n N j).map (fun a => Γ.2.1 + a))))
      rw [← hs, e1, hcA]
      unfold zm_o
      congr 2
      funext j
      unfold zg_upR
      rw [if_pos rfl]
      by_cases q : j < n
      · rw [if_pos q, if_pos q, hs]
        exact congrArg Value.ref (show (Γ.2.1 + N + 1 + j : Nat) = Γ.2.1 + (N + 1 + j) by omega)
      · rw [if_neg q, if_neg q, hP]
        rfl
    · have e3 : N + i = N + 1 + (i - 1) := by omega
      show va_at _ _ (Γ.2.1 + N + i, zg_e Γ (K (N + i)) (V (N + i)) (zg_upR P N n (N + i))) H1
      rw [e3, hKr (i - 1) (by omega)]
      show H1[Γ.2.1 + N + i]? = some (arrV (Γ.2.2.2 0) k (fun j => .int (Int32.ofInt (V (N + 1 + (i - 1)) j))))
      have := r1 (i - 1) (by omega)
      rw [hs, show Γ.2.1 + N + 1 + (i - 1) = Γ.2.1 + N + i by omega, hcB] at this
      rw [this]
      unfold zm_r
      congr 2
      funext j
      rw [hV _ (by omega) (by omega)]
      rfl
  · rcases l1 x hx with h | h
    · exact Y.2.2.1.2.2 x h
    · show Γ.2.1 ≤ x.base
      rw [h, hs]
      exact Nat.le_add_right _ _
end ZM82c

