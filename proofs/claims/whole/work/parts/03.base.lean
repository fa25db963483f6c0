/-! Own layer, 1: the machine seen through one flat picture of all cells from a base on. K: what a cell is (0, class) or (1.., length); P: its references; V: its numbers. -/
abbrev zg_K : Type := Nat → Nat × Nat
abbrev zg_P : Type := Nat → Nat → Option Nat
abbrev zg_V : Type := Nat → Nat → Int
abbrev zg_Q : Type := Option Value → zg_K → Nat → zg_P → zg_V → Prop
/-- launch; base; class numbers; array classes -/
abbrev zg_C : Type := Launch × Nat × va_G × (Nat → ClassId)
/-- name, bytes, locals, answer -/
abbrev zg_M : Type := MethodName × ByteArray × Nat × Option FieldType
def zg_i (z : Int) : Value := .int (Int32.ofInt z)
def zg_l (z : Int) : Value := .long (Int64.ofInt z)
def zg_r (Γ : zg_C) (a : Nat) : Value := .ref (Γ.2.1 + a)
def zg_o (Γ : zg_C) (r : Option Nat) : Value := va_rf (r.map (fun a => Γ.2.1 + a))
def zg_fv (Γ : zg_C) (ty : FieldType) (z : Int) (r : Option Nat) : Value := match ty with
  | .int => zg_i z
  | .long => zg_l z
  | .boolean => zg_i z
  | _ => zg_o Γ r
def zg_fs (Γ : zg_C) (ci : Nat) (z : Nat → Int) (r : Nat → Option Nat) : List Value := (List.range (zn_n ci)).map (fun k => zg_fv Γ (zn_ty ci k) (z k) (r k))
def zg_e (Γ : zg_C) (kd : Nat × Nat) (z : Nat → Int) (r : Nat → Option Nat) : va_E := match kd.1 with
  | 0 => .inr (kd.2, zg_fs Γ kd.2 z r)
  | 1 => .inl (Γ.2.2.2 0, kd.2, .inl (fun j => Int32.ofInt (z j)))
  | 2 => .inl (Γ.2.2.2 1, kd.2, .inr (.inl (fun j => Int64.ofInt (z j))))
  | 3 => .inl (Γ.2.2.2 2, kd.2, .inl (fun j => Int32.ofInt (z j)))
  | t + 4 => .inl (Γ.2.2.2 (t + 3), kd.2, .inr (.inr (.inr (.inr (fun j => (r j).map (fun a => Γ.2.1 + a))))))
def zg_w (Γ : zg_C) (K : zg_K) (N : Nat) (P : zg_P) (V : zg_V) : va_W := (List.range N).map (fun a => (Γ.2.1 + a, zg_e Γ (K a) (V a) (P a)))
def zg_tys (Γ : zg_C) : List (ClassId × FieldType) := [(Γ.2.2.2 0, .int), (Γ.2.2.2 1, .long), (Γ.2.2.2 2, .boolean)] ++ (List.range zn_ra.length).map (fun t => (Γ.2.2.2 (t + 3), zn_ra.getD t .int))
def zg_d (Γ : zg_C) (K : zg_K) (N : Nat) (P : zg_P) (V : zg_V) (H : Heap) : Prop := va_P Γ.2.2.1 zn_cl (zg_w Γ K N P V) H ∧ H.size = Γ.2.1 + N
/-- what the tables say -/
def zg_T (Γ : zg_C) (U : State) : Prop := va_K Γ.2.2.1 zn_cl (zg_tys Γ) U ∧ zn_B U
abbrev zg_A (Γ : zg_C) : Nat → Prop := fun q => Γ.2.1 ≤ q
def zg_F (Γ : zg_C) (Q : zg_Q) : Array Value → State → Outcome → State → Prop := fun _ u oc t =>
  (∃ (r : Option Value) (K : zg_K) (N : Nat) (P : zg_P) (V : zg_V), oc = .returned r ∧ Q r K N P V ∧ zg_d Γ K N P V t.heap) ∧ va_F (zg_A Γ) u t
def zg_ws (μ : zg_M) : List Cond := .code μ.1 μ.2.1 μ.2.2.1 μ.2.2.2 :: zn_TS
def zg_rm (d mc ms : Nat) : Room := { frames := d, cells := mc, slots := ms, locals := 36 * d }
/-- a method's end -/
def zg_Ω (Γ : zg_C) (Q : zg_Q) (mc ms : Nat) : List Frame → Array Value → State → State → Prop := fun below args s => MQ below (zg_F Γ Q) args s mc ms (zg_A Γ)
def zg_lh (lz : Array Slot) (nL : Nat) (ls : List (Option Value)) : Prop := lz.size = nL ∧ lv_wf lz ∧ ∀ (i : Nat) (v : Value), ls[i]? = some (some v) → lz[i]? = some (.val v)
def zg_X (Γ : zg_C) (Ξ : State → Prop) (μ : zg_M) (p : Program) (s : State) (m : MethodId) (args : Array Value) (meth : Method) (c : Code) : Prop :=
  p.tables.exec = Jvm.exec ∧ c.code = μ.2.1 ∧ c.maxLocals = μ.2.2.1 ∧ meth.sig.returnType = μ.2.2.2 ∧ meth.locks = false ∧ (∀ w ∈ zn_TS, w.before args s = true) ∧ s.vm.findClass μ.1.cls = some m.cls ∧ meth.name = μ.1.name ∧ zg_T Γ s ∧ Γ.2.1 ≤ s.heap.size ∧ Ξ s
def zg_Y (Γ : zg_C) (nL : Nat) (R : Room) (bc bs : Nat) (ls : List (Option Value)) (K : zg_K) (N : Nat) (P : zg_P) (V : zg_V) (s : State) (H : Heap) (locs : List Loc) (cells slots : Nat) (lz : Array Slot) : Prop :=
  zg_lh lz nL ls ∧ zg_d Γ K N P V H ∧ va_S (zg_A Γ) s.heap H locs ∧ cells + bc ≤ R.cells ∧ slots + bs ≤ R.slots
/-- from this place of method μ, with these locals, stack and picture, the machine comes to an end with Ω -/
def zg_G (Γ : zg_C) (Ξ : State → Prop) (μ : zg_M) (R : Room) (Ω : List Frame → Array Value → State → State → Prop) (bc bs pc : Nat) (ls : List (Option Value)) (st : List Value) (K : zg_K) (N : Nat) (P : zg_P) (V : zg_V) : Prop :=
  ∀ (p : Program) (e : Env) (s : State) (m : MethodId) (args : Array Value) (below : List Frame) (meth : Method) (c : Code) (H : Heap) (locs : List Loc) (cells slots : Nat) (lz : Array Slot),
    zg_X Γ Ξ μ p s m args meth c → zg_Y Γ μ.2.2.1 R bc bs ls K N P V s H locs cells slots lz →
      W p Γ.1 e R s m args below meth c H locs cells slots (Ω below args s) (F0 m pc lz st)
/-- a method's contract -/
def zg_S (Γ : zg_C) (μ : zg_M) (d mc ms : Nat) (args : List Value) (K : zg_K) (N : Nat) (P : zg_P) (V : zg_V) (Q : zg_Q) : Prop :=
  Met Γ.1 μ.1 (zg_ws μ) (zg_rm d mc ms) (va_Pc args (fun U => zg_T Γ U ∧ zg_d Γ K N P V U.heap)) (zg_F Γ Q) mc ms (zg_A Γ)
def zg_u (V : zg_V) (a j : Nat) (x : Int) : zg_V := fun a' j' => if a' = a then if j' = j then x else V a' j' else V a' j'
def zg_up (P : zg_P) (a j : Nat) (x : Option Nat) : zg_P := fun a' j' => if a' = a then if j' = j then x else P a' j' else P a' j'
/-! ### the picture's list -/
theorem zg_w_at (Γ : zg_C) (K : zg_K) {N a : Nat} (P : zg_P) (V : zg_V) (h : a < N) : (zg_w Γ K N P V)[a]? = some (Γ.2.1 + a, zg_e Γ (K a) (V a) (P a)) := by
  simp [zg_w, List.getElem?_map, List.getElem?_range h]
theorem zg_w_set {Γ : zg_C} {K K' : zg_K} {N a : Nat} {P P' : zg_P} {V V' : zg_V} {ee : va_E} (h : a < N) (he : zg_e Γ (K' a) (V' a) (P' a) = ee) (ho : ∀ x, x ≠ a → K' x = K x ∧ V' x = V x ∧ P' x = P x) : (zg_w Γ K N P V).set a (Γ.2.1 + a, ee) = zg_w Γ K' N P' V' := by
  subst he
  apply List.ext_getElem?
  intro i
  rw [List.getElem?_set]
  by_cases hi : i < N
  · rw [zg_w_at Γ K' P' V' hi]
    by_cases e : a = i
    · subst e
      rw [if_pos rfl, if_pos (by simpa [zg_w] using h)]
    · rw [if_neg e, zg_w_at Γ K P V hi]
      obtain ⟨h1, h2, h3⟩ := ho i (fun q => e q.symm)
      rw [h1, h2, h3]
  · have h1 : (zg_w Γ K' N P' V')[i]? = none := by simp [zg_w]; omega
    have h2 : (zg_w Γ K N P V)[i]? = none := by simp [zg_w]; omega
    rw [h1, if_neg (by omega), h2]
theorem zg_w_D (Γ : zg_C) (K : zg_K) (N : Nat) (P : zg_P) (V : zg_V) : va_D (zg_A Γ) (zg_w Γ K N P V) := by
  refine ⟨fun i j x y hi hj he => ?_, fun k q hk => ?_⟩
  · have h1 : i < N := by have := (List.getElem?_eq_some_iff.mp hi).1; simpa [zg_w] using this
    have h2 : j < N := by have := (List.getElem?_eq_some_iff.mp hj).1; simpa [zg_w] using this
    rw [zg_w_at Γ K P V h1] at hi
    rw [zg_w_at Γ K P V h2] at hj
    cases hi
    cases hj
    have he' : Γ.2.1 + i = Γ.2.1 + j := he
    omega
  · have h1 : k < N := by have := (List.getElem?_eq_some_iff.mp hk).1; simpa [zg_w] using this
    rw [zg_w_at Γ K P V h1] at hk
    cases hk
    show Γ.2.1 ≤ Γ.2.1 + k
    omega
theorem zg_e0 {Γ : zg_C} {kd : Nat × Nat} {ci : Nat} (h : kd = (0, ci)) (z : Nat → Int) (r : Nat → Option Nat) : zg_e Γ kd z r = .inr (ci, zg_fs Γ ci z r) := by subst h; rfl
theorem zg_e1 {Γ : zg_C} {kd : Nat × Nat} {n : Nat} (h : kd = (1, n)) (z : Nat → Int) (r : Nat → Option Nat) : zg_e Γ kd z r = .inl (Γ.2.2.2 0, n, .inl (fun j => Int32.ofInt (z j))) := by subst h; rfl
theorem zg_e2 {Γ : zg_C} {kd : Nat × Nat} {n : Nat} (h : kd = (2, n)) (z : Nat → Int) (r : Nat → Option Nat) : zg_e Γ kd z r = .inl (Γ.2.2.2 1, n, .inr (.inl (fun j => Int64.ofInt (z j)))) := by subst h; rfl
theorem zg_e3 {Γ : zg_C} {kd : Nat × Nat} {n : Nat} (h : kd = (3, n)) (z : Nat → Int) (r : Nat → Option Nat) : zg_e Γ kd z r = .inl (Γ.2.2.2 2, n, .inl (fun j => Int32.ofInt (z j))) := by subst h; rfl
theorem zg_e4 {Γ : zg_C} {kd : Nat × Nat} {n t : Nat} (h : kd = (t + 4, n)) (z : Nat → Int) (r : Nat → Option Nat) : zg_e Γ kd z r = .inl (Γ.2.2.2 (t + 3), n, .inr (.inr (.inr (.inr (fun j => (r j).map (fun a => Γ.2.1 + a)))))) := by subst h; rfl
theorem zg_fs_at (Γ : zg_C) {ci k : Nat} (h : k < zn_n ci) (z : Nat → Int) (r : Nat → Option Nat) : (zg_fs Γ ci z r)[k]? = some (zg_fv Γ (zn_ty ci k) (z k) (r k)) := by
  simp [zg_fs, List.getElem?_map, List.getElem?_range h]
theorem zg_fs_len (Γ : zg_C) (ci : Nat) (z : Nat → Int) (r : Nat → Option Nat) : (zg_fs Γ ci z r).length = zn_n ci := by simp [zg_fs]
theorem zg_fs_set {Γ : zg_C} {ci k : Nat} {z z' : Nat → Int} {r r' : Nat → Option Nat} {v : Value} (h : k < zn_n ci) (hv : zg_fv Γ (zn_ty ci k) (z' k) (r' k) = v) (ho : ∀ x, x ≠ k → z' x = z x ∧ r' x = r x) : (zg_fs Γ ci z r).set k v = zg_fs Γ ci z' r' := by
  subst hv
  apply List.ext_getElem?
  intro i
  rw [List.getElem?_set]
  by_cases hi : i < zn_n ci
  · rw [zg_fs_at Γ hi z' r']
    by_cases e : k = i
    · subst e
      rw [if_pos rfl, if_pos (by rw [zg_fs_len]; exact h)]
    · rw [if_neg e, zg_fs_at Γ hi z r]
      obtain ⟨h1, h2⟩ := ho i (fun q => e q.symm)
      rw [h1, h2]
  · have h1 : (zg_fs Γ ci z' r')[i]? = none := by simp [zg_fs]; omega
    have h2 : (zg_fs Γ ci z r)[i]? = none := by simp [zg_fs]; omega
    rw [h1, if_neg (by omega), h2]
/-! ### numbers -/
theorem zg_lt {a b : Int} (ha : -2147483648 ≤ a ∧ a < 2147483648) (hb : -2147483648 ≤ b ∧ b < 2147483648) : Int32.ofInt a < Int32.ofInt b ↔ a < b := by
  rw [Int32.lt_iff_toInt_lt, Int32.toInt_ofInt_of_le (by omega) (by omega), Int32.toInt_ofInt_of_le (by omega) (by omega)]
theorem zg_le {a b : Int} (ha : -2147483648 ≤ a ∧ a < 2147483648) (hb : -2147483648 ≤ b ∧ b < 2147483648) : Int32.ofInt a ≤ Int32.ofInt b ↔ a ≤ b := by
  rw [Int32.le_iff_toInt_le, Int32.toInt_ofInt_of_le (by omega) (by omega), Int32.toInt_ofInt_of_le (by omega) (by omega)]
theorem zg_eq {a b : Int} (ha : -2147483648 ≤ a ∧ a < 2147483648) (hb : -2147483648 ≤ b ∧ b < 2147483648) : Int32.ofInt a = Int32.ofInt b ↔ a = b := by
  rw [← Int32.toInt_inj, Int32.toInt_ofInt_of_le (by omega) (by omega), Int32.toInt_ofInt_of_le (by omega) (by omega)]
theorem zg_z0 : (0 : Int32) = Int32.ofInt 0 := rfl
theorem zg_lt0 {a : Int} (ha : -2147483648 ≤ a ∧ a < 2147483648) : Int32.ofInt a < 0 ↔ a < 0 := by rw [zg_z0]; exact zg_lt ha (by omega)
theorem zg_0lt {a : Int} (ha : -2147483648 ≤ a ∧ a < 2147483648) : 0 < Int32.ofInt a ↔ 0 < a := by rw [zg_z0]; exact zg_lt (by omega) ha
theorem zg_le0 {a : Int} (ha : -2147483648 ≤ a ∧ a < 2147483648) : Int32.ofInt a ≤ 0 ↔ a ≤ 0 := by rw [zg_z0]; exact zg_le ha (by omega)
theorem zg_0le {a : Int} (ha : -2147483648 ≤ a ∧ a < 2147483648) : 0 ≤ Int32.ofInt a ↔ 0 ≤ a := by rw [zg_z0]; exact zg_le (by omega) ha
theorem zg_eq0 {a : Int} (ha : -2147483648 ≤ a ∧ a < 2147483648) : Int32.ofInt a = 0 ↔ a = 0 := by rw [zg_z0]; exact zg_eq ha (by omega)
theorem zg_nat {z : Int} {j : Nat} (hz : z = (j : Int)) (hj : j < 2147483648) : (Int32.ofInt z).toNatClampNeg = j := by
  subst hz
  rw [Int32.toNatClampNeg_ofInt_of_le (by omega) (by omega)]
  simp
theorem zg_in {z : Int} {j n : Nat} (hz : z = (j : Int)) (hj : j < n) (hn : n ≤ 2147483648) : vp_in (Int32.ofInt z) n := by
  intro h
  rcases h with h | h
  · rw [zg_lt0 (by omega)] at h
    omega
  · rw [zg_nat hz (by omega)] at h
    omega
/-! ### locals -/
def zg_pr (ls : List (Option Value)) : List (Nat × Value) := (List.range ls.length).filterMap (fun i => (ls[i]?.join).map (fun v => (i, v)))
theorem zg_pr_mem {ls : List (Option Value)} {i : Nat} {v : Value} : (i, v) ∈ zg_pr ls ↔ ls[i]? = some (some v) := by
  unfold zg_pr
  rw [List.mem_filterMap]
  constructor
  · rintro ⟨j, -, h⟩
    cases hj : ls[j]? with
    | none => rw [hj] at h; simp at h
    | some o =>
      cases o with
      | none => rw [hj] at h; simp at h
      | some w =>
        rw [hj] at h
        simp at h
        obtain ⟨h1, h2⟩ := h
        subst h1; subst h2
        exact hj
  · intro h
    refine ⟨i, List.mem_range.mpr (List.getElem?_eq_some_iff.mp h).1, ?_⟩
    rw [h]
    rfl
theorem zg_lh_has {lz : Array Slot} {nL : Nat} {ls : List (Option Value)} (h : zg_lh lz nL ls) : lv_has lz nL (zg_pr ls) := ⟨h.1, h.2.1, fun q hq => h.2.2 q.1 q.2 (zg_pr_mem.mp hq)⟩
theorem zg_lh_store {lz : Array Slot} {nL : Nat} {ls : List (Option Value)} {i : Nat} {v : Value} (hc : ∀ w, 0 < i → ls[i - 1]? = some (some w) → w.category = 1)
    (h : lv_has lz nL ((i, v) :: (zg_pr ls).filter (fun q => !(q.1 == i) && !(q.1 + 1 == i && q.2.category == 2)))) : zg_lh lz nL (ls.set i (some v)) := by
  refine ⟨h.1, h.2.1, fun j w hj => ?_⟩
  rw [List.getElem?_set] at hj
  by_cases e : i = j
  · subst e
    rw [if_pos rfl] at hj
    split at hj
    · cases hj
      exact h.2.2 (i, v) List.mem_cons_self
    · cases hj
  · rw [if_neg e] at hj
    refine h.2.2 (j, w) (List.mem_cons_of_mem _ (List.mem_filter.mpr ⟨zg_pr_mem.mpr hj, ?_⟩))
    have h1 : ¬ (j + 1 = i ∧ w.category = 2) := by
      rintro ⟨q1, q2⟩
      have := hc w (by omega) (by rw [← q1]; simpa using hj)
      omega
    simp only [Bool.and_eq_true, Bool.not_eq_true', beq_eq_false_iff_ne, ne_eq, Bool.and_eq_false_iff]
    refine ⟨fun q => e q.symm, ?_⟩
    by_cases q1 : j + 1 = i
    · exact Or.inr fun q2 => h1 ⟨q1, q2⟩
    · exact Or.inl q1
theorem zg_lh_store2 {lz : Array Slot} {nL : Nat} {ls : List (Option Value)} {i : Nat} {v : Value} (hc : ∀ w, 0 < i → ls[i - 1]? = some (some w) → w.category = 1)
    (h : lv_has lz nL ((i, v) :: (zg_pr ls).filter (fun q => !(q.1 == i) && (!(q.1 == i + 1) && !(q.1 + 1 == i && q.2.category == 2))))) : zg_lh lz nL ((ls.set i (some v)).set (i + 1) none) := by
  refine ⟨h.1, h.2.1, fun j w hj => ?_⟩
  rw [List.getElem?_set] at hj
  by_cases e1 : i + 1 = j
  · rw [if_pos e1] at hj
    split at hj <;> cases hj
  · rw [if_neg e1, List.getElem?_set] at hj
    by_cases e : i = j
    · subst e
      rw [if_pos rfl] at hj
      split at hj
      · cases hj
        exact h.2.2 (i, v) List.mem_cons_self
      · cases hj
    · rw [if_neg e] at hj
      refine h.2.2 (j, w) (List.mem_cons_of_mem _ (List.mem_filter.mpr ⟨zg_pr_mem.mpr hj, ?_⟩))
      have h1 : ¬ (j + 1 = i ∧ w.category = 2) := by
        rintro ⟨q1, q2⟩
        have := hc w (by omega) (by rw [← q1]; simpa using hj)
        omega
      simp only [Bool.and_eq_true, Bool.not_eq_true', beq_eq_false_iff_ne, ne_eq, Bool.and_eq_false_iff]
      refine ⟨fun q => e q.symm, fun q => e1 q.symm, ?_⟩
      by_cases q1 : j + 1 = i
      · exact Or.inr fun q2 => h1 ⟨q1, q2⟩
      · exact Or.inl q1
