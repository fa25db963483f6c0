/-! Own layer, 2: rules, one an instruction (written by wip/gen/rules.py) -/
section ZG
variable {Γ : zg_C} {Ξ : State → Prop} {μ : zg_M} {R : Room} {Ω : List Frame → Array Value → State → State → Prop} {bc bs pc N : Nat} {ls : List (Option Value)} {st : List Value} {K : zg_K} {P : zg_P} {V : zg_V}
theorem zg_iconst {n : Int} (hd : decode μ.2.1 pc = .ok (.iconst n, 1))
    (k : zg_G Γ Ξ μ R Ω bc bs (pc + 1) ls (zg_i n :: st) K N P V) : zg_G Γ Ξ μ R Ω bc bs pc ls st K N P V := by
  intro p e s m args below meth c H locs cells slots lz X Y
  exact lv_iconst X.1 X.2.1 hd rfl (k p e s m args below meth c H locs cells slots lz X Y)
theorem zg_bipush {n : Int} (hd : decode μ.2.1 pc = .ok (.bipush n, 2)) (hv : (Int8.ofInt n).toInt32 = Int32.ofInt n)
    (k : zg_G Γ Ξ μ R Ω bc bs (pc + 2) ls (zg_i n :: st) K N P V) : zg_G Γ Ξ μ R Ω bc bs pc ls st K N P V := by
  intro p e s m args below meth c H locs cells slots lz X Y
  exact lv_bipush X.1 X.2.1 hd hv (k p e s m args below meth c H locs cells slots lz X Y)
theorem zg_sipush {n : Int} (hd : decode μ.2.1 pc = .ok (.sipush n, 3)) (hv : (Int16.ofInt n).toInt32 = Int32.ofInt n)
    (k : zg_G Γ Ξ μ R Ω bc bs (pc + 3) ls (zg_i n :: st) K N P V) : zg_G Γ Ξ μ R Ω bc bs pc ls st K N P V := by
  intro p e s m args below meth c H locs cells slots lz X Y
  exact lv_sipush X.1 X.2.1 hd hv (k p e s m args below meth c H locs cells slots lz X Y)
theorem zg_lconst {n : Fin 2} {z : Int} (hd : decode μ.2.1 pc = .ok (.lconst n, 1)) (hv : Int64.ofNat (n : Nat) = Int64.ofInt z)
    (k : zg_G Γ Ξ μ R Ω bc bs (pc + 1) ls (zg_l z :: st) K N P V) : zg_G Γ Ξ μ R Ω bc bs pc ls st K N P V := by
  intro p e s m args below meth c H locs cells slots lz X Y
  exact lv_lconst X.1 X.2.1 hd hv (k p e s m args below meth c H locs cells slots lz X Y)
theorem zg_ldc {ix : Nat} {v : Int32} (z : Int) (hd : decode μ.2.1 pc = .ok (.ldc ix, 2)) (hw : Cond.constant μ.1.cls ix v ∈ zn_TS) (hv : v = Int32.ofInt z)
    (k : zg_G Γ Ξ μ R Ω bc bs (pc + 2) ls (zg_i z :: st) K N P V) : zg_G Γ Ξ μ R Ω bc bs pc ls st K N P V := by
  intro p e s m args below meth c H locs cells slots lz X Y
  subst hv
  exact lv_ldc X.1 X.2.1 X.2.2.2.2.2.2.1 (X.2.2.2.2.2.1 _ hw) hd (k p e s m args below meth c H locs cells slots lz X Y)
theorem zg_ldc2 {ix : Nat} {v : Int64} (z : Int) (hd : decode μ.2.1 pc = .ok (.ldc2_w ix, 3)) (hw : Cond.constantLong μ.1.cls ix v ∈ zn_TS) (hv : v = Int64.ofInt z)
    (k : zg_G Γ Ξ μ R Ω bc bs (pc + 3) ls (zg_l z :: st) K N P V) : zg_G Γ Ξ μ R Ω bc bs pc ls st K N P V := by
  intro p e s m args below meth c H locs cells slots lz X Y
  subst hv
  exact lv_ldc2 X.1 X.2.1 X.2.2.2.2.2.2.1 (X.2.2.2.2.2.1 _ hw) hd (k p e s m args below meth c H locs cells slots lz X Y)
theorem zg_iadd {a b : Int} (hd : decode μ.2.1 pc = .ok (.iadd, 1))
    (k : zg_G Γ Ξ μ R Ω bc bs (pc + 1) ls (zg_i (a + b) :: st) K N P V) : zg_G Γ Ξ μ R Ω bc bs pc ls (zg_i b :: zg_i a :: st) K N P V := by
  intro p e s m args below meth c H locs cells slots lz X Y
  refine lv_iadd X.1 X.2.1 hd ?_
  have h := k p e s m args below meth c H locs cells slots lz X Y
  rw [zg_i, Int32.ofInt_add] at h
  exact h
theorem zg_isub {a b : Int} (hd : decode μ.2.1 pc = .ok (.isub, 1))
    (k : zg_G Γ Ξ μ R Ω bc bs (pc + 1) ls (zg_i (a - b) :: st) K N P V) : zg_G Γ Ξ μ R Ω bc bs pc ls (zg_i b :: zg_i a :: st) K N P V := by
  intro p e s m args below meth c H locs cells slots lz X Y
  refine lv_isub X.1 X.2.1 hd ?_
  have h := k p e s m args below meth c H locs cells slots lz X Y
  rw [zg_i, Int32.ofInt_sub] at h
  exact h
theorem zg_imul {a b : Int} (hd : decode μ.2.1 pc = .ok (.imul, 1))
    (k : zg_G Γ Ξ μ R Ω bc bs (pc + 1) ls (zg_i (a * b) :: st) K N P V) : zg_G Γ Ξ μ R Ω bc bs pc ls (zg_i b :: zg_i a :: st) K N P V := by
  intro p e s m args below meth c H locs cells slots lz X Y
  refine lv_imul X.1 X.2.1 hd ?_
  have h := k p e s m args below meth c H locs cells slots lz X Y
  rw [zg_i, Int32.ofInt_mul] at h
  exact h
theorem zg_ladd {a b : Int} (hd : decode μ.2.1 pc = .ok (.ladd, 1))
    (k : zg_G Γ Ξ μ R Ω bc bs (pc + 1) ls (zg_l (a + b) :: st) K N P V) : zg_G Γ Ξ μ R Ω bc bs pc ls (zg_l b :: zg_l a :: st) K N P V := by
  intro p e s m args below meth c H locs cells slots lz X Y
  refine lv_ladd X.1 X.2.1 hd ?_
  have h := k p e s m args below meth c H locs cells slots lz X Y
  rw [zg_l, Int64.ofInt_add] at h
  exact h
theorem zg_lsub {a b : Int} (hd : decode μ.2.1 pc = .ok (.lsub, 1))
    (k : zg_G Γ Ξ μ R Ω bc bs (pc + 1) ls (zg_l (a - b) :: st) K N P V) : zg_G Γ Ξ μ R Ω bc bs pc ls (zg_l b :: zg_l a :: st) K N P V := by
  intro p e s m args below meth c H locs cells slots lz X Y
  refine lv_lsub X.1 X.2.1 hd ?_
  have h := k p e s m args below meth c H locs cells slots lz X Y
  rw [zg_l, Int64.ofInt_sub] at h
  exact h
theorem zg_lmul {a b : Int} (hd : decode μ.2.1 pc = .ok (.lmul, 1))
    (k : zg_G Γ Ξ μ R Ω bc bs (pc + 1) ls (zg_l (a * b) :: st) K N P V) : zg_G Γ Ξ μ R Ω bc bs pc ls (zg_l b :: zg_l a :: st) K N P V := by
  intro p e s m args below meth c H locs cells slots lz X Y
  refine lv_lmul X.1 X.2.1 hd ?_
  have h := k p e s m args below meth c H locs cells slots lz X Y
  rw [zg_l, Int64.ofInt_mul] at h
  exact h
theorem zg_ineg {a : Int} (hd : decode μ.2.1 pc = .ok (.ineg, 1))
    (k : zg_G Γ Ξ μ R Ω bc bs (pc + 1) ls (zg_i (-a) :: st) K N P V) : zg_G Γ Ξ μ R Ω bc bs pc ls (zg_i a :: st) K N P V := by
  intro p e s m args below meth c H locs cells slots lz X Y
  refine lv_ineg X.1 X.2.1 hd ?_
  have h := k p e s m args below meth c H locs cells slots lz X Y
  rw [zg_i, Int32.ofInt_neg] at h
  exact h
theorem zg_lneg {a : Int} (hd : decode μ.2.1 pc = .ok (.lneg, 1))
    (k : zg_G Γ Ξ μ R Ω bc bs (pc + 1) ls (zg_l (-a) :: st) K N P V) : zg_G Γ Ξ μ R Ω bc bs pc ls (zg_l a :: st) K N P V := by
  intro p e s m args below meth c H locs cells slots lz X Y
  refine lv_lneg X.1 X.2.1 hd ?_
  have h := k p e s m args below meth c H locs cells slots lz X Y
  rw [zg_l, Int64.ofInt_neg] at h
  exact h
theorem zg_iandR {x y : Int32} (hd : decode μ.2.1 pc = .ok (.iand, 1))
    (k : zg_G Γ Ξ μ R Ω bc bs (pc + 1) ls (.int (x &&& y) :: st) K N P V) : zg_G Γ Ξ μ R Ω bc bs pc ls (.int y :: .int x :: st) K N P V := by
  intro p e s m args below meth c H locs cells slots lz X Y
  exact lv_iand X.1 X.2.1 hd (k p e s m args below meth c H locs cells slots lz X Y)
theorem zg_iorR {x y : Int32} (hd : decode μ.2.1 pc = .ok (.ior, 1))
    (k : zg_G Γ Ξ μ R Ω bc bs (pc + 1) ls (.int (x ||| y) :: st) K N P V) : zg_G Γ Ξ μ R Ω bc bs pc ls (.int y :: .int x :: st) K N P V := by
  intro p e s m args below meth c H locs cells slots lz X Y
  exact lv_ior X.1 X.2.1 hd (k p e s m args below meth c H locs cells slots lz X Y)
theorem zg_ixorR {x y : Int32} (hd : decode μ.2.1 pc = .ok (.ixor, 1))
    (k : zg_G Γ Ξ μ R Ω bc bs (pc + 1) ls (.int (x ^^^ y) :: st) K N P V) : zg_G Γ Ξ μ R Ω bc bs pc ls (.int y :: .int x :: st) K N P V := by
  intro p e s m args below meth c H locs cells slots lz X Y
  exact lv_ixor X.1 X.2.1 hd (k p e s m args below meth c H locs cells slots lz X Y)
theorem zg_ishlR {x y : Int32} (hd : decode μ.2.1 pc = .ok (.ishl, 1))
    (k : zg_G Γ Ξ μ R Ω bc bs (pc + 1) ls (.int (x <<< (y &&& 31)) :: st) K N P V) : zg_G Γ Ξ μ R Ω bc bs pc ls (.int y :: .int x :: st) K N P V := by
  intro p e s m args below meth c H locs cells slots lz X Y
  exact lv_ishl X.1 X.2.1 hd (k p e s m args below meth c H locs cells slots lz X Y)
theorem zg_ishrR {x y : Int32} (hd : decode μ.2.1 pc = .ok (.ishr, 1))
    (k : zg_G Γ Ξ μ R Ω bc bs (pc + 1) ls (.int (x >>> (y &&& 31)) :: st) K N P V) : zg_G Γ Ξ μ R Ω bc bs pc ls (.int y :: .int x :: st) K N P V := by
  intro p e s m args below meth c H locs cells slots lz X Y
  exact lv_ishr X.1 X.2.1 hd (k p e s m args below meth c H locs cells slots lz X Y)
theorem zg_ldc_w {ix : Nat} {v : Int32} (z : Int) (hd : decode μ.2.1 pc = .ok (.ldc_w ix, 3)) (hw : Cond.constant μ.1.cls ix v ∈ zn_TS) (hv : v = Int32.ofInt z)
    (k : zg_G Γ Ξ μ R Ω bc bs (pc + 3) ls (zg_i z :: st) K N P V) : zg_G Γ Ξ μ R Ω bc bs pc ls st K N P V := by
  intro p e s m args below meth c H locs cells slots lz X Y
  subst hv
  exact lv_ldcw X.1 X.2.1 X.2.2.2.2.2.2.1 (X.2.2.2.2.2.1 _ hw) hd (k p e s m args below meth c H locs cells slots lz X Y)
theorem zg_iand {x y : Int32} (z : Int) (hd : decode μ.2.1 pc = .ok (.iand, 1)) (hz : x &&& y = Int32.ofInt z)
    (k : zg_G Γ Ξ μ R Ω bc bs (pc + 1) ls (zg_i z :: st) K N P V) : zg_G Γ Ξ μ R Ω bc bs pc ls (.int y :: .int x :: st) K N P V := by
  intro p e s m args below meth c H locs cells slots lz X Y
  refine lv_iand X.1 X.2.1 hd ?_
  rw [hz]
  exact k p e s m args below meth c H locs cells slots lz X Y
theorem zg_ior {x y : Int32} (z : Int) (hd : decode μ.2.1 pc = .ok (.ior, 1)) (hz : x ||| y = Int32.ofInt z)
    (k : zg_G Γ Ξ μ R Ω bc bs (pc + 1) ls (zg_i z :: st) K N P V) : zg_G Γ Ξ μ R Ω bc bs pc ls (.int y :: .int x :: st) K N P V := by
  intro p e s m args below meth c H locs cells slots lz X Y
  refine lv_ior X.1 X.2.1 hd ?_
  rw [hz]
  exact k p e s m args below meth c H locs cells slots lz X Y
theorem zg_ixor {x y : Int32} (z : Int) (hd : decode μ.2.1 pc = .ok (.ixor, 1)) (hz : x ^^^ y = Int32.ofInt z)
    (k : zg_G Γ Ξ μ R Ω bc bs (pc + 1) ls (zg_i z :: st) K N P V) : zg_G Γ Ξ μ R Ω bc bs pc ls (.int y :: .int x :: st) K N P V := by
  intro p e s m args below meth c H locs cells slots lz X Y
  refine lv_ixor X.1 X.2.1 hd ?_
  rw [hz]
  exact k p e s m args below meth c H locs cells slots lz X Y
theorem zg_ishl {x y : Int32} (z : Int) (hd : decode μ.2.1 pc = .ok (.ishl, 1)) (hz : x <<< (y &&& 31) = Int32.ofInt z)
    (k : zg_G Γ Ξ μ R Ω bc bs (pc + 1) ls (zg_i z :: st) K N P V) : zg_G Γ Ξ μ R Ω bc bs pc ls (.int y :: .int x :: st) K N P V := by
  intro p e s m args below meth c H locs cells slots lz X Y
  refine lv_ishl X.1 X.2.1 hd ?_
  rw [hz]
  exact k p e s m args below meth c H locs cells slots lz X Y
theorem zg_ishr {x y : Int32} (z : Int) (hd : decode μ.2.1 pc = .ok (.ishr, 1)) (hz : x >>> (y &&& 31) = Int32.ofInt z)
    (k : zg_G Γ Ξ μ R Ω bc bs (pc + 1) ls (zg_i z :: st) K N P V) : zg_G Γ Ξ μ R Ω bc bs pc ls (.int y :: .int x :: st) K N P V := by
  intro p e s m args below meth c H locs cells slots lz X Y
  refine lv_ishr X.1 X.2.1 hd ?_
  rw [hz]
  exact k p e s m args below meth c H locs cells slots lz X Y
theorem zg_iushr {x y : Int32} (z : Int) (hd : decode μ.2.1 pc = .ok (.iushr, 1)) (hz : (x.toUInt32 >>> (y.toUInt32 &&& Int32.toUInt32 31)).toInt32 = Int32.ofInt z)
    (k : zg_G Γ Ξ μ R Ω bc bs (pc + 1) ls (zg_i z :: st) K N P V) : zg_G Γ Ξ μ R Ω bc bs pc ls (.int y :: .int x :: st) K N P V := by
  intro p e s m args below meth c H locs cells slots lz X Y
  exact lv_iushr X.1 X.2.1 hd hz (k p e s m args below meth c H locs cells slots lz X Y)
theorem zg_idiv {x y : Int32} (z : Int) (hd : decode μ.2.1 pc = .ok (.idiv, 1)) (hne : ¬ y = 0) (hz : x / y = Int32.ofInt z)
    (k : zg_G Γ Ξ μ R Ω bc bs (pc + 1) ls (zg_i z :: st) K N P V) : zg_G Γ Ξ μ R Ω bc bs pc ls (.int y :: .int x :: st) K N P V := by
  intro p e s m args below meth c H locs cells slots lz X Y
  refine lv_idiv X.1 X.2.1 hd hne ?_
  rw [hz]
  exact k p e s m args below meth c H locs cells slots lz X Y
theorem zg_irem {x y : Int32} (z : Int) (hd : decode μ.2.1 pc = .ok (.irem, 1)) (hne : ¬ y = 0) (hz : x - x / y * y = Int32.ofInt z)
    (k : zg_G Γ Ξ μ R Ω bc bs (pc + 1) ls (zg_i z :: st) K N P V) : zg_G Γ Ξ μ R Ω bc bs pc ls (.int y :: .int x :: st) K N P V := by
  intro p e s m args below meth c H locs cells slots lz X Y
  refine lv_irem X.1 X.2.1 hd hne ?_
  rw [hz]
  exact k p e s m args below meth c H locs cells slots lz X Y
theorem zg_ldiv {x y : Int64} (z : Int) (hd : decode μ.2.1 pc = .ok (.ldiv, 1)) (hne : ¬ y = 0) (hz : x / y = Int64.ofInt z)
    (k : zg_G Γ Ξ μ R Ω bc bs (pc + 1) ls (zg_l z :: st) K N P V) : zg_G Γ Ξ μ R Ω bc bs pc ls (.long y :: .long x :: st) K N P V := by
  intro p e s m args below meth c H locs cells slots lz X Y
  refine lv_ldiv X.1 X.2.1 hd hne ?_
  rw [hz]
  exact k p e s m args below meth c H locs cells slots lz X Y
theorem zg_lrem {x y : Int64} (z : Int) (hd : decode μ.2.1 pc = .ok (.lrem, 1)) (hne : ¬ y = 0) (hz : x - x / y * y = Int64.ofInt z)
    (k : zg_G Γ Ξ μ R Ω bc bs (pc + 1) ls (zg_l z :: st) K N P V) : zg_G Γ Ξ μ R Ω bc bs pc ls (.long y :: .long x :: st) K N P V := by
  intro p e s m args below meth c H locs cells slots lz X Y
  refine lv_lrem X.1 X.2.1 hd hne ?_
  rw [hz]
  exact k p e s m args below meth c H locs cells slots lz X Y
theorem zg_land {x y : Int64} (z : Int) (hd : decode μ.2.1 pc = .ok (.land, 1)) (hz : x &&& y = Int64.ofInt z)
    (k : zg_G Γ Ξ μ R Ω bc bs (pc + 1) ls (zg_l z :: st) K N P V) : zg_G Γ Ξ μ R Ω bc bs pc ls (.long y :: .long x :: st) K N P V := by
  intro p e s m args below meth c H locs cells slots lz X Y
  refine lv_land X.1 X.2.1 hd ?_
  rw [hz]
  exact k p e s m args below meth c H locs cells slots lz X Y
theorem zg_lor {x y : Int64} (z : Int) (hd : decode μ.2.1 pc = .ok (.lor, 1)) (hz : x ||| y = Int64.ofInt z)
    (k : zg_G Γ Ξ μ R Ω bc bs (pc + 1) ls (zg_l z :: st) K N P V) : zg_G Γ Ξ μ R Ω bc bs pc ls (.long y :: .long x :: st) K N P V := by
  intro p e s m args below meth c H locs cells slots lz X Y
  refine lv_lor X.1 X.2.1 hd ?_
  rw [hz]
  exact k p e s m args below meth c H locs cells slots lz X Y
theorem zg_lxor {x y : Int64} (z : Int) (hd : decode μ.2.1 pc = .ok (.lxor, 1)) (hz : x ^^^ y = Int64.ofInt z)
    (k : zg_G Γ Ξ μ R Ω bc bs (pc + 1) ls (zg_l z :: st) K N P V) : zg_G Γ Ξ μ R Ω bc bs pc ls (.long y :: .long x :: st) K N P V := by
  intro p e s m args below meth c H locs cells slots lz X Y
  refine lv_lxor X.1 X.2.1 hd ?_
  rw [hz]
  exact k p e s m args below meth c H locs cells slots lz X Y
theorem zg_lushr {x : Int64} {y : Int32} (z : Int) (hd : decode μ.2.1 pc = .ok (.lushr, 1)) (hz : (x.toUInt64 >>> (y.toInt64.toUInt64 &&& Int64.toUInt64 63)).toInt64 = Int64.ofInt z)
    (k : zg_G Γ Ξ μ R Ω bc bs (pc + 1) ls (zg_l z :: st) K N P V) : zg_G Γ Ξ μ R Ω bc bs pc ls (.int y :: .long x :: st) K N P V := by
  intro p e s m args below meth c H locs cells slots lz X Y
  exact lv_lushr X.1 X.2.1 hd hz (k p e s m args below meth c H locs cells slots lz X Y)
theorem zg_lshl {x : Int64} {y : Int32} (z : Int) (hd : decode μ.2.1 pc = .ok (.lshl, 1)) (hz : x <<< (y.toInt64 &&& 63) = Int64.ofInt z)
    (k : zg_G Γ Ξ μ R Ω bc bs (pc + 1) ls (zg_l z :: st) K N P V) : zg_G Γ Ξ μ R Ω bc bs pc ls (.int y :: .long x :: st) K N P V := by
  intro p e s m args below meth c H locs cells slots lz X Y
  exact lv_lshl X.1 X.2.1 hd hz (k p e s m args below meth c H locs cells slots lz X Y)
theorem zg_lshr {x : Int64} {y : Int32} (z : Int) (hd : decode μ.2.1 pc = .ok (.lshr, 1)) (hz : x >>> (y.toInt64 &&& 63) = Int64.ofInt z)
    (k : zg_G Γ Ξ μ R Ω bc bs (pc + 1) ls (zg_l z :: st) K N P V) : zg_G Γ Ξ μ R Ω bc bs pc ls (.int y :: .long x :: st) K N P V := by
  intro p e s m args below meth c H locs cells slots lz X Y
  exact lv_lshr X.1 X.2.1 hd hz (k p e s m args below meth c H locs cells slots lz X Y)
theorem zg_i2l {a : Int} (hd : decode μ.2.1 pc = .ok (.i2l, 1)) (ha : -2147483648 ≤ a ∧ a < 2147483648)
    (k : zg_G Γ Ξ μ R Ω bc bs (pc + 1) ls (zg_l a :: st) K N P V) : zg_G Γ Ξ μ R Ω bc bs pc ls (zg_i a :: st) K N P V := by
  intro p e s m args below meth c H locs cells slots lz X Y
  exact lv_i2l X.1 X.2.1 hd (Int64.toInt_inj.mp (by rw [Int32.toInt_toInt64, Int32.toInt_ofInt_of_le (by omega) (by omega), Int64.toInt_ofInt_of_le (by omega) (by omega)])) (k p e s m args below meth c H locs cells slots lz X Y)
theorem zg_l2i {a : Int} (hd : decode μ.2.1 pc = .ok (.l2i, 1))
    (k : zg_G Γ Ξ μ R Ω bc bs (pc + 1) ls (zg_i a :: st) K N P V) : zg_G Γ Ξ μ R Ω bc bs pc ls (zg_l a :: st) K N P V := by
  intro p e s m args below meth c H locs cells slots lz X Y
  exact lv_l2i X.1 X.2.1 hd Int64.toInt32_ofInt (k p e s m args below meth c H locs cells slots lz X Y)
def zg_cmp (a b : Int) : Int := if b < a then 1 else if a = b then 0 else -1
theorem zg_cmp_eq {a b : Int} (ha : -9223372036854775808 ≤ a ∧ a < 9223372036854775808) (hb : -9223372036854775808 ≤ b ∧ b < 9223372036854775808) : lg_cmp (Int64.ofInt a) (Int64.ofInt b) = Int32.ofInt (zg_cmp a b) := by
  have h1 : (Int64.ofInt a).toInt = a := Int64.toInt_ofInt_of_le (by omega) (by omega)
  have h2 : (Int64.ofInt b).toInt = b := Int64.toInt_ofInt_of_le (by omega) (by omega)
  unfold lg_cmp zg_cmp
  by_cases q : b < a
  · rw [if_pos q, if_pos (by show Int64.ofInt b < Int64.ofInt a; rw [Int64.lt_iff_toInt_lt, h1, h2]; exact q)]
    rfl
  · rw [if_neg q, if_neg (by show ¬ Int64.ofInt b < Int64.ofInt a; rw [Int64.lt_iff_toInt_lt, h1, h2]; exact q)]
    by_cases r : a = b
    · rw [if_pos r, if_pos (by rw [r])]
      rfl
    · rw [if_neg r, if_neg (by rw [← Int64.toInt_inj, h1, h2]; exact r)]
      rfl
theorem zg_lcmp {a b : Int} (hd : decode μ.2.1 pc = .ok (.lcmp, 1)) (ha : -9223372036854775808 ≤ a ∧ a < 9223372036854775808) (hb : -9223372036854775808 ≤ b ∧ b < 9223372036854775808)
    (k : zg_G Γ Ξ μ R Ω bc bs (pc + 1) ls (zg_i (zg_cmp a b) :: st) K N P V) : zg_G Γ Ξ μ R Ω bc bs pc ls (zg_l b :: zg_l a :: st) K N P V := by
  intro p e s m args below meth c H locs cells slots lz X Y
  refine W.lcmp X.1 X.2.1 hd ?_
  rw [zg_cmp_eq ha hb]
  exact k p e s m args below meth c H locs cells slots lz X Y
theorem zg_dup {va : Value} (hd : decode μ.2.1 pc = .ok (.dup, 1)) (hva : va.category = 1)
    (k : zg_G Γ Ξ μ R Ω bc bs (pc + 1) ls (va :: va :: st) K N P V) : zg_G Γ Ξ μ R Ω bc bs pc ls (va :: st) K N P V := by
  intro p e s m args below meth c H locs cells slots lz X Y
  exact lv_dup X.1 X.2.1 hd hva (k p e s m args below meth c H locs cells slots lz X Y)
theorem zg_pop {va : Value} (hd : decode μ.2.1 pc = .ok (.pop, 1)) (hva : va.category = 1)
    (k : zg_G Γ Ξ μ R Ω bc bs (pc + 1) ls st K N P V) : zg_G Γ Ξ μ R Ω bc bs pc ls (va :: st) K N P V := by
  intro p e s m args below meth c H locs cells slots lz X Y
  exact lv_pop X.1 X.2.1 hd hva (k p e s m args below meth c H locs cells slots lz X Y)
theorem zg_dup_x1 {va vb : Value} (hd : decode μ.2.1 pc = .ok (.dup_x1, 1)) (hva : va.category = 1) (hvb : vb.category = 1)
    (k : zg_G Γ Ξ μ R Ω bc bs (pc + 1) ls (va :: vb :: va :: st) K N P V) : zg_G Γ Ξ μ R Ω bc bs pc ls (va :: vb :: st) K N P V := by
  intro p e s m args below meth c H locs cells slots lz X Y
  exact lv_dup_x1 X.1 X.2.1 hd hva hvb (k p e s m args below meth c H locs cells slots lz X Y)
theorem zg_dup_x2 {va vb vd : Value} (hd : decode μ.2.1 pc = .ok (.dup_x2, 1)) (hva : va.category = 1) (hvb : vb.category = 1) (hvd : vd.category = 1)
    (k : zg_G Γ Ξ μ R Ω bc bs (pc + 1) ls (va :: vb :: vd :: va :: st) K N P V) : zg_G Γ Ξ μ R Ω bc bs pc ls (va :: vb :: vd :: st) K N P V := by
  intro p e s m args below meth c H locs cells slots lz X Y
  exact lv_dup_x2 X.1 X.2.1 hd hva hvb hvd (k p e s m args below meth c H locs cells slots lz X Y)
theorem zg_dup2 {va vb : Value} (hd : decode μ.2.1 pc = .ok (.dup2, 1)) (hva : va.category = 1) (hvb : vb.category = 1)
    (k : zg_G Γ Ξ μ R Ω bc bs (pc + 1) ls (va :: vb :: va :: vb :: st) K N P V) : zg_G Γ Ξ μ R Ω bc bs pc ls (va :: vb :: st) K N P V := by
  intro p e s m args below meth c H locs cells slots lz X Y
  exact lv_dup2_11 X.1 X.2.1 hd hva hvb (k p e s m args below meth c H locs cells slots lz X Y)
theorem zg_dup2L {va : Value} (hd : decode μ.2.1 pc = .ok (.dup2, 1)) (hva : va.category = 2)
    (k : zg_G Γ Ξ μ R Ω bc bs (pc + 1) ls (va :: va :: st) K N P V) : zg_G Γ Ξ μ R Ω bc bs pc ls (va :: st) K N P V := by
  intro p e s m args below meth c H locs cells slots lz X Y
  exact lv_dup2_2 X.1 X.2.1 hd hva (k p e s m args below meth c H locs cells slots lz X Y)
theorem zg_pop2L {va : Value} (hd : decode μ.2.1 pc = .ok (.pop2, 1)) (hva : va.category = 2)
    (k : zg_G Γ Ξ μ R Ω bc bs (pc + 1) ls st K N P V) : zg_G Γ Ξ μ R Ω bc bs pc ls (va :: st) K N P V := by
  intro p e s m args below meth c H locs cells slots lz X Y
  exact lv_pop2_2 X.1 X.2.1 hd hva (k p e s m args below meth c H locs cells slots lz X Y)
theorem zg_icmp_eq {a b off : Int} {tgt : Nat} (hd : decode μ.2.1 pc = .ok (.if_icmp .eq off, 3)) (ht : (pc : Int) + off = (tgt : Int)) (ha : -2147483648 ≤ a ∧ a < 2147483648) (hb : -2147483648 ≤ b ∧ b < 2147483648)
    (kt : a = b → zg_G Γ Ξ μ R Ω bc bs tgt ls st K N P V) (kf : ¬ (a = b) → zg_G Γ Ξ μ R Ω bc bs (pc + 3) ls st K N P V) : zg_G Γ Ξ μ R Ω bc bs pc ls (zg_i b :: zg_i a :: st) K N P V := by
  intro p e s m args below meth c H locs cells slots lz X Y
  exact lv_icmp_eq X.1 X.2.1 hd ht (fun h => kt ((zg_eq ha hb).mp h) p e s m args below meth c H locs cells slots lz X Y) (fun h => kf (fun q => h ((zg_eq ha hb).mpr q)) p e s m args below meth c H locs cells slots lz X Y)
theorem zg_if_eq {a off : Int} {tgt : Nat} (hd : decode μ.2.1 pc = .ok (.ifCond .eq off, 3)) (ht : (pc : Int) + off = (tgt : Int)) (ha : -2147483648 ≤ a ∧ a < 2147483648)
    (kt : a = 0 → zg_G Γ Ξ μ R Ω bc bs tgt ls st K N P V) (kf : ¬ (a = 0) → zg_G Γ Ξ μ R Ω bc bs (pc + 3) ls st K N P V) : zg_G Γ Ξ μ R Ω bc bs pc ls (zg_i a :: st) K N P V := by
  intro p e s m args below meth c H locs cells slots lz X Y
  exact lv_if_eq X.1 X.2.1 hd ht (fun h => kt ((zg_eq0 ha).mp h) p e s m args below meth c H locs cells slots lz X Y) (fun h => kf (fun q => h ((zg_eq0 ha).mpr q)) p e s m args below meth c H locs cells slots lz X Y)
theorem zg_icmp_ne {a b off : Int} {tgt : Nat} (hd : decode μ.2.1 pc = .ok (.if_icmp .ne off, 3)) (ht : (pc : Int) + off = (tgt : Int)) (ha : -2147483648 ≤ a ∧ a < 2147483648) (hb : -2147483648 ≤ b ∧ b < 2147483648)
    (kt : ¬ a = b → zg_G Γ Ξ μ R Ω bc bs tgt ls st K N P V) (kf : a = b → zg_G Γ Ξ μ R Ω bc bs (pc + 3) ls st K N P V) : zg_G Γ Ξ μ R Ω bc bs pc ls (zg_i b :: zg_i a :: st) K N P V := by
  intro p e s m args below meth c H locs cells slots lz X Y
  exact lv_icmp_ne X.1 X.2.1 hd ht (fun h => kt (fun q => h ((zg_eq ha hb).mpr q)) p e s m args below meth c H locs cells slots lz X Y) (fun h => kf ((zg_eq ha hb).mp h) p e s m args below meth c H locs cells slots lz X Y)
theorem zg_if_ne {a off : Int} {tgt : Nat} (hd : decode μ.2.1 pc = .ok (.ifCond .ne off, 3)) (ht : (pc : Int) + off = (tgt : Int)) (ha : -2147483648 ≤ a ∧ a < 2147483648)
    (kt : ¬ a = 0 → zg_G Γ Ξ μ R Ω bc bs tgt ls st K N P V) (kf : a = 0 → zg_G Γ Ξ μ R Ω bc bs (pc + 3) ls st K N P V) : zg_G Γ Ξ μ R Ω bc bs pc ls (zg_i a :: st) K N P V := by
  intro p e s m args below meth c H locs cells slots lz X Y
  exact lv_if_ne X.1 X.2.1 hd ht (fun h => kt (fun q => h ((zg_eq0 ha).mpr q)) p e s m args below meth c H locs cells slots lz X Y) (fun h => kf ((zg_eq0 ha).mp h) p e s m args below meth c H locs cells slots lz X Y)
theorem zg_icmp_lt {a b off : Int} {tgt : Nat} (hd : decode μ.2.1 pc = .ok (.if_icmp .lt off, 3)) (ht : (pc : Int) + off = (tgt : Int)) (ha : -2147483648 ≤ a ∧ a < 2147483648) (hb : -2147483648 ≤ b ∧ b < 2147483648)
    (kt : a < b → zg_G Γ Ξ μ R Ω bc bs tgt ls st K N P V) (kf : ¬ (a < b) → zg_G Γ Ξ μ R Ω bc bs (pc + 3) ls st K N P V) : zg_G Γ Ξ μ R Ω bc bs pc ls (zg_i b :: zg_i a :: st) K N P V := by
  intro p e s m args below meth c H locs cells slots lz X Y
  exact lv_icmp_lt X.1 X.2.1 hd ht (fun h => kt ((zg_lt ha hb).mp h) p e s m args below meth c H locs cells slots lz X Y) (fun h => kf (fun q => h ((zg_lt ha hb).mpr q)) p e s m args below meth c H locs cells slots lz X Y)
theorem zg_if_lt {a off : Int} {tgt : Nat} (hd : decode μ.2.1 pc = .ok (.ifCond .lt off, 3)) (ht : (pc : Int) + off = (tgt : Int)) (ha : -2147483648 ≤ a ∧ a < 2147483648)
    (kt : a < 0 → zg_G Γ Ξ μ R Ω bc bs tgt ls st K N P V) (kf : ¬ (a < 0) → zg_G Γ Ξ μ R Ω bc bs (pc + 3) ls st K N P V) : zg_G Γ Ξ μ R Ω bc bs pc ls (zg_i a :: st) K N P V := by
  intro p e s m args below meth c H locs cells slots lz X Y
  exact lv_if_lt X.1 X.2.1 hd ht (fun h => kt ((zg_lt0 ha).mp h) p e s m args below meth c H locs cells slots lz X Y) (fun h => kf (fun q => h ((zg_lt0 ha).mpr q)) p e s m args below meth c H locs cells slots lz X Y)
theorem zg_icmp_ge {a b off : Int} {tgt : Nat} (hd : decode μ.2.1 pc = .ok (.if_icmp .ge off, 3)) (ht : (pc : Int) + off = (tgt : Int)) (ha : -2147483648 ≤ a ∧ a < 2147483648) (hb : -2147483648 ≤ b ∧ b < 2147483648)
    (kt : b ≤ a → zg_G Γ Ξ μ R Ω bc bs tgt ls st K N P V) (kf : ¬ (b ≤ a) → zg_G Γ Ξ μ R Ω bc bs (pc + 3) ls st K N P V) : zg_G Γ Ξ μ R Ω bc bs pc ls (zg_i b :: zg_i a :: st) K N P V := by
  intro p e s m args below meth c H locs cells slots lz X Y
  exact lv_icmp_ge X.1 X.2.1 hd ht (fun h => kt ((zg_le hb ha).mp h) p e s m args below meth c H locs cells slots lz X Y) (fun h => kf (fun q => h ((zg_le hb ha).mpr q)) p e s m args below meth c H locs cells slots lz X Y)
theorem zg_if_ge {a off : Int} {tgt : Nat} (hd : decode μ.2.1 pc = .ok (.ifCond .ge off, 3)) (ht : (pc : Int) + off = (tgt : Int)) (ha : -2147483648 ≤ a ∧ a < 2147483648)
    (kt : 0 ≤ a → zg_G Γ Ξ μ R Ω bc bs tgt ls st K N P V) (kf : ¬ (0 ≤ a) → zg_G Γ Ξ μ R Ω bc bs (pc + 3) ls st K N P V) : zg_G Γ Ξ μ R Ω bc bs pc ls (zg_i a :: st) K N P V := by
  intro p e s m args below meth c H locs cells slots lz X Y
  exact lv_if_ge X.1 X.2.1 hd ht (fun h => kt ((zg_0le ha).mp h) p e s m args below meth c H locs cells slots lz X Y) (fun h => kf (fun q => h ((zg_0le ha).mpr q)) p e s m args below meth c H locs cells slots lz X Y)
theorem zg_icmp_gt {a b off : Int} {tgt : Nat} (hd : decode μ.2.1 pc = .ok (.if_icmp .gt off, 3)) (ht : (pc : Int) + off = (tgt : Int)) (ha : -2147483648 ≤ a ∧ a < 2147483648) (hb : -2147483648 ≤ b ∧ b < 2147483648)
    (kt : b < a → zg_G Γ Ξ μ R Ω bc bs tgt ls st K N P V) (kf : ¬ (b < a) → zg_G Γ Ξ μ R Ω bc bs (pc + 3) ls st K N P V) : zg_G Γ Ξ μ R Ω bc bs pc ls (zg_i b :: zg_i a :: st) K N P V := by
  intro p e s m args below meth c H locs cells slots lz X Y
  exact lv_icmp_gt X.1 X.2.1 hd ht (fun h => kt ((zg_lt hb ha).mp h) p e s m args below meth c H locs cells slots lz X Y) (fun h => kf (fun q => h ((zg_lt hb ha).mpr q)) p e s m args below meth c H locs cells slots lz X Y)
theorem zg_if_gt {a off : Int} {tgt : Nat} (hd : decode μ.2.1 pc = .ok (.ifCond .gt off, 3)) (ht : (pc : Int) + off = (tgt : Int)) (ha : -2147483648 ≤ a ∧ a < 2147483648)
    (kt : 0 < a → zg_G Γ Ξ μ R Ω bc bs tgt ls st K N P V) (kf : ¬ (0 < a) → zg_G Γ Ξ μ R Ω bc bs (pc + 3) ls st K N P V) : zg_G Γ Ξ μ R Ω bc bs pc ls (zg_i a :: st) K N P V := by
  intro p e s m args below meth c H locs cells slots lz X Y
  exact lv_if_gt X.1 X.2.1 hd ht (fun h => kt ((zg_0lt ha).mp h) p e s m args below meth c H locs cells slots lz X Y) (fun h => kf (fun q => h ((zg_0lt ha).mpr q)) p e s m args below meth c H locs cells slots lz X Y)
theorem zg_icmp_le {a b off : Int} {tgt : Nat} (hd : decode μ.2.1 pc = .ok (.if_icmp .le off, 3)) (ht : (pc : Int) + off = (tgt : Int)) (ha : -2147483648 ≤ a ∧ a < 2147483648) (hb : -2147483648 ≤ b ∧ b < 2147483648)
    (kt : a ≤ b → zg_G Γ Ξ μ R Ω bc bs tgt ls st K N P V) (kf : ¬ (a ≤ b) → zg_G Γ Ξ μ R Ω bc bs (pc + 3) ls st K N P V) : zg_G Γ Ξ μ R Ω bc bs pc ls (zg_i b :: zg_i a :: st) K N P V := by
  intro p e s m args below meth c H locs cells slots lz X Y
  exact lv_icmp_le X.1 X.2.1 hd ht (fun h => kt ((zg_le ha hb).mp h) p e s m args below meth c H locs cells slots lz X Y) (fun h => kf (fun q => h ((zg_le ha hb).mpr q)) p e s m args below meth c H locs cells slots lz X Y)
theorem zg_if_le {a off : Int} {tgt : Nat} (hd : decode μ.2.1 pc = .ok (.ifCond .le off, 3)) (ht : (pc : Int) + off = (tgt : Int)) (ha : -2147483648 ≤ a ∧ a < 2147483648)
    (kt : a ≤ 0 → zg_G Γ Ξ μ R Ω bc bs tgt ls st K N P V) (kf : ¬ (a ≤ 0) → zg_G Γ Ξ μ R Ω bc bs (pc + 3) ls st K N P V) : zg_G Γ Ξ μ R Ω bc bs pc ls (zg_i a :: st) K N P V := by
  intro p e s m args below meth c H locs cells slots lz X Y
  exact lv_if_le X.1 X.2.1 hd ht (fun h => kt ((zg_le0 ha).mp h) p e s m args below meth c H locs cells slots lz X Y) (fun h => kf (fun q => h ((zg_le0 ha).mpr q)) p e s m args below meth c H locs cells slots lz X Y)
theorem zg_goto {off : Int} {tgt : Nat} (hd : decode μ.2.1 pc = .ok (.goto off, 3)) (ht : (pc : Int) + off = (tgt : Int))
    (k : zg_G Γ Ξ μ R Ω bc bs tgt ls st K N P V) : zg_G Γ Ξ μ R Ω bc bs pc ls st K N P V := by
  intro p e s m args below meth c H locs cells slots lz X Y
  exact lv_goto X.1 X.2.1 hd ht (k p e s m args below meth c H locs cells slots lz X Y)
theorem zg_icmp_ne_rf {x : Int32} {off : Int} {tgt : Nat} (hd : decode μ.2.1 pc = .ok (.if_icmp .ne off, 3)) (ht : (pc : Int) + off = (tgt : Int))
    (k : zg_G Γ Ξ μ R Ω bc bs (pc + 3) ls st K N P V) : zg_G Γ Ξ μ R Ω bc bs pc ls (.int x :: .int x :: st) K N P V := by
  intro p e s m args below meth c H locs cells slots lz X Y
  exact lv_icmp_ne X.1 X.2.1 hd ht (fun h => absurd rfl h) (fun _ => k p e s m args below meth c H locs cells slots lz X Y)
theorem zg_icmp_eq_rf {x : Int32} {off : Int} {tgt : Nat} (hd : decode μ.2.1 pc = .ok (.if_icmp .eq off, 3)) (ht : (pc : Int) + off = (tgt : Int))
    (k : zg_G Γ Ξ μ R Ω bc bs tgt ls st K N P V) : zg_G Γ Ξ μ R Ω bc bs pc ls (.int x :: .int x :: st) K N P V := by
  intro p e s m args below meth c H locs cells slots lz X Y
  exact lv_icmp_eq X.1 X.2.1 hd ht (fun _ => k p e s m args below meth c H locs cells slots lz X Y) (fun h => absurd rfl h)
theorem zg_lcmp_rf {x : Int64} (hd : decode μ.2.1 pc = .ok (.lcmp, 1))
    (k : zg_G Γ Ξ μ R Ω bc bs (pc + 1) ls (zg_i 0 :: st) K N P V) : zg_G Γ Ξ μ R Ω bc bs pc ls (.long x :: .long x :: st) K N P V := by
  intro p e s m args below meth c H locs cells slots lz X Y
  refine W.lcmp X.1 X.2.1 hd ?_
  have h : lg_cmp x x = Int32.ofInt 0 := by simp [lg_cmp]
  rw [h]
  exact k p e s m args below meth c H locs cells slots lz X Y
section ZL
variable {o0 o1 o2 o3 o4 o5 o6 o7 o8 o9 o10 o11 o12 o13 o14 o15 o16 : Option Value} {rs : List (Option Value)}
theorem zg_il0 {z : Int} (hd : decode μ.2.1 pc = .ok (.iload_n 0, 1))
    (k : zg_G Γ Ξ μ R Ω bc bs (pc + 1) (some (zg_i z) :: rs) (zg_i z :: st) K N P V) : zg_G Γ Ξ μ R Ω bc bs pc (some (zg_i z) :: rs) st K N P V := by
  intro p e s m args below meth c H locs cells slots lz X Y
  exact lv_iload_n X.1 X.2.1 hd rfl (Y.1.2.2 0 _ rfl) (k p e s m args below meth c H locs cells slots lz X Y)
theorem zg_ll0 {z : Int} (hd : decode μ.2.1 pc = .ok (.lload_n 0, 1))
    (k : zg_G Γ Ξ μ R Ω bc bs (pc + 1) (some (zg_l z) :: rs) (zg_l z :: st) K N P V) : zg_G Γ Ξ μ R Ω bc bs pc (some (zg_l z) :: rs) st K N P V := by
  intro p e s m args below meth c H locs cells slots lz X Y
  exact lv_lload_n X.1 X.2.1 hd rfl (Y.1.2.2 0 _ rfl) (k p e s m args below meth c H locs cells slots lz X Y)
theorem zg_al0 {a : Nat} (hd : decode μ.2.1 pc = .ok (.aload_n 0, 1))
    (k : zg_G Γ Ξ μ R Ω bc bs (pc + 1) (some (zg_r Γ a) :: rs) (zg_r Γ a :: st) K N P V) : zg_G Γ Ξ μ R Ω bc bs pc (some (zg_r Γ a) :: rs) st K N P V := by
  intro p e s m args below meth c H locs cells slots lz X Y
  exact lv_aload_n X.1 X.2.1 hd rfl (Y.1.2.2 0 _ rfl) (k p e s m args below meth c H locs cells slots lz X Y)
theorem zg_is0 {z : Int} (hd : decode μ.2.1 pc = .ok (.istore_n 0, 1)) (hn : 0 < μ.2.2.1)
    (k : zg_G Γ Ξ μ R Ω bc bs (pc + 1) (some (zg_i z) :: rs) st K N P V) : zg_G Γ Ξ μ R Ω bc bs pc (o0 :: rs) (zg_i z :: st) K N P V := by
  intro p e s m args below meth c H locs cells slots lz X Y
  exact lv_istore_n X.1 X.2.1 hd rfl (zg_lh_has Y.1) hn rfl (fun lz' h => k p e s m args below meth c H locs cells slots lz' X ⟨zg_lh_store (fun w h _ => absurd h (Nat.lt_irrefl 0)) h, Y.2⟩)
theorem zg_as0 {a : Nat} (hd : decode μ.2.1 pc = .ok (.astore_n 0, 1)) (hn : 0 < μ.2.2.1)
    (k : zg_G Γ Ξ μ R Ω bc bs (pc + 1) (some (zg_r Γ a) :: rs) st K N P V) : zg_G Γ Ξ μ R Ω bc bs pc (o0 :: rs) (zg_r Γ a :: st) K N P V := by
  intro p e s m args below meth c H locs cells slots lz X Y
  exact lv_astore_n X.1 X.2.1 hd rfl (zg_lh_has Y.1) hn rfl (fun lz' h => k p e s m args below meth c H locs cells slots lz' X ⟨zg_lh_store (fun w h _ => absurd h (Nat.lt_irrefl 0)) h, Y.2⟩)
theorem zg_ls0 {z : Int} (hd : decode μ.2.1 pc = .ok (.lstore_n 0, 1)) (hn : 0 + 1 < μ.2.2.1)
    (k : zg_G Γ Ξ μ R Ω bc bs (pc + 1) (some (zg_l z) :: none :: rs) st K N P V) : zg_G Γ Ξ μ R Ω bc bs pc (o0 :: o1 :: rs) (zg_l z :: st) K N P V := by
  intro p e s m args below meth c H locs cells slots lz X Y
  exact lv_lstore_n X.1 X.2.1 hd rfl (zg_lh_has Y.1) hn rfl (fun lz' h => k p e s m args below meth c H locs cells slots lz' X ⟨zg_lh_store2 (fun w h _ => absurd h (Nat.lt_irrefl 0)) h, Y.2⟩)
theorem zg_inc0 {z n : Int} (hd : decode μ.2.1 pc = .ok (.iinc 0 n, 3)) (hn : 0 < μ.2.2.1)
    (k : zg_G Γ Ξ μ R Ω bc bs (pc + 3) (some (zg_i (z + n)) :: rs) st K N P V) : zg_G Γ Ξ μ R Ω bc bs pc (some (zg_i z) :: rs) st K N P V := by
  intro p e s m args below meth c H locs cells slots lz X Y
  obtain ⟨kx, hkx⟩ := List.getElem?_of_mem (zg_pr_mem.mpr (show (some (zg_i z) :: rs)[0]? = some (some (zg_i z)) from rfl))
  exact lv_iinc (v := Int32.ofInt (z + n)) X.1 X.2.1 hd (zg_lh_has Y.1) hkx (Int32.ofInt_add z n).symm hn rfl (fun lz' h => k p e s m args below meth c H locs cells slots lz' X ⟨zg_lh_store (fun w h _ => absurd h (Nat.lt_irrefl 0)) h, Y.2⟩)
theorem zg_il1 {z : Int} (hd : decode μ.2.1 pc = .ok (.iload_n 1, 1))
    (k : zg_G Γ Ξ μ R Ω bc bs (pc + 1) (o0 :: some (zg_i z) :: rs) (zg_i z :: st) K N P V) : zg_G Γ Ξ μ R Ω bc bs pc (o0 :: some (zg_i z) :: rs) st K N P V := by
  intro p e s m args below meth c H locs cells slots lz X Y
  exact lv_iload_n X.1 X.2.1 hd rfl (Y.1.2.2 1 _ rfl) (k p e s m args below meth c H locs cells slots lz X Y)
theorem zg_ll1 {z : Int} (hd : decode μ.2.1 pc = .ok (.lload_n 1, 1))
    (k : zg_G Γ Ξ μ R Ω bc bs (pc + 1) (o0 :: some (zg_l z) :: rs) (zg_l z :: st) K N P V) : zg_G Γ Ξ μ R Ω bc bs pc (o0 :: some (zg_l z) :: rs) st K N P V := by
  intro p e s m args below meth c H locs cells slots lz X Y
  exact lv_lload_n X.1 X.2.1 hd rfl (Y.1.2.2 1 _ rfl) (k p e s m args below meth c H locs cells slots lz X Y)
theorem zg_al1 {a : Nat} (hd : decode μ.2.1 pc = .ok (.aload_n 1, 1))
    (k : zg_G Γ Ξ μ R Ω bc bs (pc + 1) (o0 :: some (zg_r Γ a) :: rs) (zg_r Γ a :: st) K N P V) : zg_G Γ Ξ μ R Ω bc bs pc (o0 :: some (zg_r Γ a) :: rs) st K N P V := by
  intro p e s m args below meth c H locs cells slots lz X Y
  exact lv_aload_n X.1 X.2.1 hd rfl (Y.1.2.2 1 _ rfl) (k p e s m args below meth c H locs cells slots lz X Y)
theorem zg_is1 {z : Int} (hd : decode μ.2.1 pc = .ok (.istore_n 1, 1)) (hc : ∀ w, o0 = some w → w.category = 1) (hn : 1 < μ.2.2.1)
    (k : zg_G Γ Ξ μ R Ω bc bs (pc + 1) (o0 :: some (zg_i z) :: rs) st K N P V) : zg_G Γ Ξ μ R Ω bc bs pc (o0 :: o1 :: rs) (zg_i z :: st) K N P V := by
  intro p e s m args below meth c H locs cells slots lz X Y
  exact lv_istore_n X.1 X.2.1 hd rfl (zg_lh_has Y.1) hn rfl (fun lz' h => k p e s m args below meth c H locs cells slots lz' X ⟨zg_lh_store (fun w _ h => hc w (Option.some.inj h)) h, Y.2⟩)
theorem zg_as1 {a : Nat} (hd : decode μ.2.1 pc = .ok (.astore_n 1, 1)) (hc : ∀ w, o0 = some w → w.category = 1) (hn : 1 < μ.2.2.1)
    (k : zg_G Γ Ξ μ R Ω bc bs (pc + 1) (o0 :: some (zg_r Γ a) :: rs) st K N P V) : zg_G Γ Ξ μ R Ω bc bs pc (o0 :: o1 :: rs) (zg_r Γ a :: st) K N P V := by
  intro p e s m args below meth c H locs cells slots lz X Y
  exact lv_astore_n X.1 X.2.1 hd rfl (zg_lh_has Y.1) hn rfl (fun lz' h => k p e s m args below meth c H locs cells slots lz' X ⟨zg_lh_store (fun w _ h => hc w (Option.some.inj h)) h, Y.2⟩)
theorem zg_ls1 {z : Int} (hd : decode μ.2.1 pc = .ok (.lstore_n 1, 1)) (hc : ∀ w, o0 = some w → w.category = 1) (hn : 1 + 1 < μ.2.2.1)
    (k : zg_G Γ Ξ μ R Ω bc bs (pc + 1) (o0 :: some (zg_l z) :: none :: rs) st K N P V) : zg_G Γ Ξ μ R Ω bc bs pc (o0 :: o1 :: o2 :: rs) (zg_l z :: st) K N P V := by
  intro p e s m args below meth c H locs cells slots lz X Y
  exact lv_lstore_n X.1 X.2.1 hd rfl (zg_lh_has Y.1) hn rfl (fun lz' h => k p e s m args below meth c H locs cells slots lz' X ⟨zg_lh_store2 (fun w _ h => hc w (Option.some.inj h)) h, Y.2⟩)
theorem zg_inc1 {z n : Int} (hd : decode μ.2.1 pc = .ok (.iinc 1 n, 3)) (hc : ∀ w, o0 = some w → w.category = 1) (hn : 1 < μ.2.2.1)
    (k : zg_G Γ Ξ μ R Ω bc bs (pc + 3) (o0 :: some (zg_i (z + n)) :: rs) st K N P V) : zg_G Γ Ξ μ R Ω bc bs pc (o0 :: some (zg_i z) :: rs) st K N P V := by
  intro p e s m args below meth c H locs cells slots lz X Y
  obtain ⟨kx, hkx⟩ := List.getElem?_of_mem (zg_pr_mem.mpr (show (o0 :: some (zg_i z) :: rs)[1]? = some (some (zg_i z)) from rfl))
  exact lv_iinc (v := Int32.ofInt (z + n)) X.1 X.2.1 hd (zg_lh_has Y.1) hkx (Int32.ofInt_add z n).symm hn rfl (fun lz' h => k p e s m args below meth c H locs cells slots lz' X ⟨zg_lh_store (fun w _ h => hc w (Option.some.inj h)) h, Y.2⟩)
theorem zg_il2 {z : Int} (hd : decode μ.2.1 pc = .ok (.iload_n 2, 1))
    (k : zg_G Γ Ξ μ R Ω bc bs (pc + 1) (o0 :: o1 :: some (zg_i z) :: rs) (zg_i z :: st) K N P V) : zg_G Γ Ξ μ R Ω bc bs pc (o0 :: o1 :: some (zg_i z) :: rs) st K N P V := by
  intro p e s m args below meth c H locs cells slots lz X Y
  exact lv_iload_n X.1 X.2.1 hd rfl (Y.1.2.2 2 _ rfl) (k p e s m args below meth c H locs cells slots lz X Y)
theorem zg_ll2 {z : Int} (hd : decode μ.2.1 pc = .ok (.lload_n 2, 1))
    (k : zg_G Γ Ξ μ R Ω bc bs (pc + 1) (o0 :: o1 :: some (zg_l z) :: rs) (zg_l z :: st) K N P V) : zg_G Γ Ξ μ R Ω bc bs pc (o0 :: o1 :: some (zg_l z) :: rs) st K N P V := by
  intro p e s m args below meth c H locs cells slots lz X Y
  exact lv_lload_n X.1 X.2.1 hd rfl (Y.1.2.2 2 _ rfl) (k p e s m args below meth c H locs cells slots lz X Y)
theorem zg_al2 {a : Nat} (hd : decode μ.2.1 pc = .ok (.aload_n 2, 1))
    (k : zg_G Γ Ξ μ R Ω bc bs (pc + 1) (o0 :: o1 :: some (zg_r Γ a) :: rs) (zg_r Γ a :: st) K N P V) : zg_G Γ Ξ μ R Ω bc bs pc (o0 :: o1 :: some (zg_r Γ a) :: rs) st K N P V := by
  intro p e s m args below meth c H locs cells slots lz X Y
  exact lv_aload_n X.1 X.2.1 hd rfl (Y.1.2.2 2 _ rfl) (k p e s m args below meth c H locs cells slots lz X Y)
theorem zg_is2 {z : Int} (hd : decode μ.2.1 pc = .ok (.istore_n 2, 1)) (hc : ∀ w, o1 = some w → w.category = 1) (hn : 2 < μ.2.2.1)
    (k : zg_G Γ Ξ μ R Ω bc bs (pc + 1) (o0 :: o1 :: some (zg_i z) :: rs) st K N P V) : zg_G Γ Ξ μ R Ω bc bs pc (o0 :: o1 :: o2 :: rs) (zg_i z :: st) K N P V := by
  intro p e s m args below meth c H locs cells slots lz X Y
  exact lv_istore_n X.1 X.2.1 hd rfl (zg_lh_has Y.1) hn rfl (fun lz' h => k p e s m args below meth c H locs cells slots lz' X ⟨zg_lh_store (fun w _ h => hc w (Option.some.inj h)) h, Y.2⟩)
theorem zg_as2 {a : Nat} (hd : decode μ.2.1 pc = .ok (.astore_n 2, 1)) (hc : ∀ w, o1 = some w → w.category = 1) (hn : 2 < μ.2.2.1)
    (k : zg_G Γ Ξ μ R Ω bc bs (pc + 1) (o0 :: o1 :: some (zg_r Γ a) :: rs) st K N P V) : zg_G Γ Ξ μ R Ω bc bs pc (o0 :: o1 :: o2 :: rs) (zg_r Γ a :: st) K N P V := by
  intro p e s m args below meth c H locs cells slots lz X Y
  exact lv_astore_n X.1 X.2.1 hd rfl (zg_lh_has Y.1) hn rfl (fun lz' h => k p e s m args below meth c H locs cells slots lz' X ⟨zg_lh_store (fun w _ h => hc w (Option.some.inj h)) h, Y.2⟩)
theorem zg_ls2 {z : Int} (hd : decode μ.2.1 pc = .ok (.lstore_n 2, 1)) (hc : ∀ w, o1 = some w → w.category = 1) (hn : 2 + 1 < μ.2.2.1)
    (k : zg_G Γ Ξ μ R Ω bc bs (pc + 1) (o0 :: o1 :: some (zg_l z) :: none :: rs) st K N P V) : zg_G Γ Ξ μ R Ω bc bs pc (o0 :: o1 :: o2 :: o3 :: rs) (zg_l z :: st) K N P V := by
  intro p e s m args below meth c H locs cells slots lz X Y
  exact lv_lstore_n X.1 X.2.1 hd rfl (zg_lh_has Y.1) hn rfl (fun lz' h => k p e s m args below meth c H locs cells slots lz' X ⟨zg_lh_store2 (fun w _ h => hc w (Option.some.inj h)) h, Y.2⟩)
theorem zg_inc2 {z n : Int} (hd : decode μ.2.1 pc = .ok (.iinc 2 n, 3)) (hc : ∀ w, o1 = some w → w.category = 1) (hn : 2 < μ.2.2.1)
    (k : zg_G Γ Ξ μ R Ω bc bs (pc + 3) (o0 :: o1 :: some (zg_i (z + n)) :: rs) st K N P V) : zg_G Γ Ξ μ R Ω bc bs pc (o0 :: o1 :: some (zg_i z) :: rs) st K N P V := by
  intro p e s m args below meth c H locs cells slots lz X Y
  obtain ⟨kx, hkx⟩ := List.getElem?_of_mem (zg_pr_mem.mpr (show (o0 :: o1 :: some (zg_i z) :: rs)[2]? = some (some (zg_i z)) from rfl))
  exact lv_iinc (v := Int32.ofInt (z + n)) X.1 X.2.1 hd (zg_lh_has Y.1) hkx (Int32.ofInt_add z n).symm hn rfl (fun lz' h => k p e s m args below meth c H locs cells slots lz' X ⟨zg_lh_store (fun w _ h => hc w (Option.some.inj h)) h, Y.2⟩)
theorem zg_il3 {z : Int} (hd : decode μ.2.1 pc = .ok (.iload_n 3, 1))
    (k : zg_G Γ Ξ μ R Ω bc bs (pc + 1) (o0 :: o1 :: o2 :: some (zg_i z) :: rs) (zg_i z :: st) K N P V) : zg_G Γ Ξ μ R Ω bc bs pc (o0 :: o1 :: o2 :: some (zg_i z) :: rs) st K N P V := by
  intro p e s m args below meth c H locs cells slots lz X Y
  exact lv_iload_n X.1 X.2.1 hd rfl (Y.1.2.2 3 _ rfl) (k p e s m args below meth c H locs cells slots lz X Y)
theorem zg_ll3 {z : Int} (hd : decode μ.2.1 pc = .ok (.lload_n 3, 1))
    (k : zg_G Γ Ξ μ R Ω bc bs (pc + 1) (o0 :: o1 :: o2 :: some (zg_l z) :: rs) (zg_l z :: st) K N P V) : zg_G Γ Ξ μ R Ω bc bs pc (o0 :: o1 :: o2 :: some (zg_l z) :: rs) st K N P V := by
  intro p e s m args below meth c H locs cells slots lz X Y
  exact lv_lload_n X.1 X.2.1 hd rfl (Y.1.2.2 3 _ rfl) (k p e s m args below meth c H locs cells slots lz X Y)
theorem zg_al3 {a : Nat} (hd : decode μ.2.1 pc = .ok (.aload_n 3, 1))
    (k : zg_G Γ Ξ μ R Ω bc bs (pc + 1) (o0 :: o1 :: o2 :: some (zg_r Γ a) :: rs) (zg_r Γ a :: st) K N P V) : zg_G Γ Ξ μ R Ω bc bs pc (o0 :: o1 :: o2 :: some (zg_r Γ a) :: rs) st K N P V := by
  intro p e s m args below meth c H locs cells slots lz X Y
  exact lv_aload_n X.1 X.2.1 hd rfl (Y.1.2.2 3 _ rfl) (k p e s m args below meth c H locs cells slots lz X Y)
theorem zg_is3 {z : Int} (hd : decode μ.2.1 pc = .ok (.istore_n 3, 1)) (hc : ∀ w, o2 = some w → w.category = 1) (hn : 3 < μ.2.2.1)
    (k : zg_G Γ Ξ μ R Ω bc bs (pc + 1) (o0 :: o1 :: o2 :: some (zg_i z) :: rs) st K N P V) : zg_G Γ Ξ μ R Ω bc bs pc (o0 :: o1 :: o2 :: o3 :: rs) (zg_i z :: st) K N P V := by
  intro p e s m args below meth c H locs cells slots lz X Y
  exact lv_istore_n X.1 X.2.1 hd rfl (zg_lh_has Y.1) hn rfl (fun lz' h => k p e s m args below meth c H locs cells slots lz' X ⟨zg_lh_store (fun w _ h => hc w (Option.some.inj h)) h, Y.2⟩)
theorem zg_as3 {a : Nat} (hd : decode μ.2.1 pc = .ok (.astore_n 3, 1)) (hc : ∀ w, o2 = some w → w.category = 1) (hn : 3 < μ.2.2.1)
    (k : zg_G Γ Ξ μ R Ω bc bs (pc + 1) (o0 :: o1 :: o2 :: some (zg_r Γ a) :: rs) st K N P V) : zg_G Γ Ξ μ R Ω bc bs pc (o0 :: o1 :: o2 :: o3 :: rs) (zg_r Γ a :: st) K N P V := by
  intro p e s m args below meth c H locs cells slots lz X Y
  exact lv_astore_n X.1 X.2.1 hd rfl (zg_lh_has Y.1) hn rfl (fun lz' h => k p e s m args below meth c H locs cells slots lz' X ⟨zg_lh_store (fun w _ h => hc w (Option.some.inj h)) h, Y.2⟩)
theorem zg_ls3 {z : Int} (hd : decode μ.2.1 pc = .ok (.lstore_n 3, 1)) (hc : ∀ w, o2 = some w → w.category = 1) (hn : 3 + 1 < μ.2.2.1)
    (k : zg_G Γ Ξ μ R Ω bc bs (pc + 1) (o0 :: o1 :: o2 :: some (zg_l z) :: none :: rs) st K N P V) : zg_G Γ Ξ μ R Ω bc bs pc (o0 :: o1 :: o2 :: o3 :: o4 :: rs) (zg_l z :: st) K N P V := by
  intro p e s m args below meth c H locs cells slots lz X Y
  exact lv_lstore_n X.1 X.2.1 hd rfl (zg_lh_has Y.1) hn rfl (fun lz' h => k p e s m args below meth c H locs cells slots lz' X ⟨zg_lh_store2 (fun w _ h => hc w (Option.some.inj h)) h, Y.2⟩)
theorem zg_inc3 {z n : Int} (hd : decode μ.2.1 pc = .ok (.iinc 3 n, 3)) (hc : ∀ w, o2 = some w → w.category = 1) (hn : 3 < μ.2.2.1)
    (k : zg_G Γ Ξ μ R Ω bc bs (pc + 3) (o0 :: o1 :: o2 :: some (zg_i (z + n)) :: rs) st K N P V) : zg_G Γ Ξ μ R Ω bc bs pc (o0 :: o1 :: o2 :: some (zg_i z) :: rs) st K N P V := by
  intro p e s m args below meth c H locs cells slots lz X Y
  obtain ⟨kx, hkx⟩ := List.getElem?_of_mem (zg_pr_mem.mpr (show (o0 :: o1 :: o2 :: some (zg_i z) :: rs)[3]? = some (some (zg_i z)) from rfl))
  exact lv_iinc (v := Int32.ofInt (z + n)) X.1 X.2.1 hd (zg_lh_has Y.1) hkx (Int32.ofInt_add z n).symm hn rfl (fun lz' h => k p e s m args below meth c H locs cells slots lz' X ⟨zg_lh_store (fun w _ h => hc w (Option.some.inj h)) h, Y.2⟩)
theorem zg_il4 {z : Int} (hd : decode μ.2.1 pc = .ok (.iload 4, 2))
    (k : zg_G Γ Ξ μ R Ω bc bs (pc + 2) (o0 :: o1 :: o2 :: o3 :: some (zg_i z) :: rs) (zg_i z :: st) K N P V) : zg_G Γ Ξ μ R Ω bc bs pc (o0 :: o1 :: o2 :: o3 :: some (zg_i z) :: rs) st K N P V := by
  intro p e s m args below meth c H locs cells slots lz X Y
  exact lv_iload X.1 X.2.1 hd (Y.1.2.2 4 _ rfl) (k p e s m args below meth c H locs cells slots lz X Y)
theorem zg_ll4 {z : Int} (hd : decode μ.2.1 pc = .ok (.lload 4, 2))
    (k : zg_G Γ Ξ μ R Ω bc bs (pc + 2) (o0 :: o1 :: o2 :: o3 :: some (zg_l z) :: rs) (zg_l z :: st) K N P V) : zg_G Γ Ξ μ R Ω bc bs pc (o0 :: o1 :: o2 :: o3 :: some (zg_l z) :: rs) st K N P V := by
  intro p e s m args below meth c H locs cells slots lz X Y
  exact lv_lload X.1 X.2.1 hd (Y.1.2.2 4 _ rfl) (k p e s m args below meth c H locs cells slots lz X Y)
theorem zg_al4 {a : Nat} (hd : decode μ.2.1 pc = .ok (.aload 4, 2))
    (k : zg_G Γ Ξ μ R Ω bc bs (pc + 2) (o0 :: o1 :: o2 :: o3 :: some (zg_r Γ a) :: rs) (zg_r Γ a :: st) K N P V) : zg_G Γ Ξ μ R Ω bc bs pc (o0 :: o1 :: o2 :: o3 :: some (zg_r Γ a) :: rs) st K N P V := by
  intro p e s m args below meth c H locs cells slots lz X Y
  exact lv_aload X.1 X.2.1 hd (Y.1.2.2 4 _ rfl) (k p e s m args below meth c H locs cells slots lz X Y)
theorem zg_is4 {z : Int} (hd : decode μ.2.1 pc = .ok (.istore 4, 2)) (hc : ∀ w, o3 = some w → w.category = 1) (hn : 4 < μ.2.2.1)
    (k : zg_G Γ Ξ μ R Ω bc bs (pc + 2) (o0 :: o1 :: o2 :: o3 :: some (zg_i z) :: rs) st K N P V) : zg_G Γ Ξ μ R Ω bc bs pc (o0 :: o1 :: o2 :: o3 :: o4 :: rs) (zg_i z :: st) K N P V := by
  intro p e s m args below meth c H locs cells slots lz X Y
  exact lv_istore X.1 X.2.1 hd (zg_lh_has Y.1) hn rfl (fun lz' h => k p e s m args below meth c H locs cells slots lz' X ⟨zg_lh_store (fun w _ h => hc w (Option.some.inj h)) h, Y.2⟩)
theorem zg_as4 {a : Nat} (hd : decode μ.2.1 pc = .ok (.astore 4, 2)) (hc : ∀ w, o3 = some w → w.category = 1) (hn : 4 < μ.2.2.1)
    (k : zg_G Γ Ξ μ R Ω bc bs (pc + 2) (o0 :: o1 :: o2 :: o3 :: some (zg_r Γ a) :: rs) st K N P V) : zg_G Γ Ξ μ R Ω bc bs pc (o0 :: o1 :: o2 :: o3 :: o4 :: rs) (zg_r Γ a :: st) K N P V := by
  intro p e s m args below meth c H locs cells slots lz X Y
  exact lv_astore X.1 X.2.1 hd (zg_lh_has Y.1) hn rfl (fun lz' h => k p e s m args below meth c H locs cells slots lz' X ⟨zg_lh_store (fun w _ h => hc w (Option.some.inj h)) h, Y.2⟩)
theorem zg_ls4 {z : Int} (hd : decode μ.2.1 pc = .ok (.lstore 4, 2)) (hc : ∀ w, o3 = some w → w.category = 1) (hn : 4 + 1 < μ.2.2.1)
    (k : zg_G Γ Ξ μ R Ω bc bs (pc + 2) (o0 :: o1 :: o2 :: o3 :: some (zg_l z) :: none :: rs) st K N P V) : zg_G Γ Ξ μ R Ω bc bs pc (o0 :: o1 :: o2 :: o3 :: o4 :: o5 :: rs) (zg_l z :: st) K N P V := by
  intro p e s m args below meth c H locs cells slots lz X Y
  exact lv_lstore X.1 X.2.1 hd (zg_lh_has Y.1) hn rfl (fun lz' h => k p e s m args below meth c H locs cells slots lz' X ⟨zg_lh_store2 (fun w _ h => hc w (Option.some.inj h)) h, Y.2⟩)
theorem zg_inc4 {z n : Int} (hd : decode μ.2.1 pc = .ok (.iinc 4 n, 3)) (hc : ∀ w, o3 = some w → w.category = 1) (hn : 4 < μ.2.2.1)
    (k : zg_G Γ Ξ μ R Ω bc bs (pc + 3) (o0 :: o1 :: o2 :: o3 :: some (zg_i (z + n)) :: rs) st K N P V) : zg_G Γ Ξ μ R Ω bc bs pc (o0 :: o1 :: o2 :: o3 :: some (zg_i z) :: rs) st K N P V := by
  intro p e s m args below meth c H locs cells slots lz X Y
  obtain ⟨kx, hkx⟩ := List.getElem?_of_mem (zg_pr_mem.mpr (show (o0 :: o1 :: o2 :: o3 :: some (zg_i z) :: rs)[4]? = some (some (zg_i z)) from rfl))
  exact lv_iinc (v := Int32.ofInt (z + n)) X.1 X.2.1 hd (zg_lh_has Y.1) hkx (Int32.ofInt_add z n).symm hn rfl (fun lz' h => k p e s m args below meth c H locs cells slots lz' X ⟨zg_lh_store (fun w _ h => hc w (Option.some.inj h)) h, Y.2⟩)
theorem zg_il5 {z : Int} (hd : decode μ.2.1 pc = .ok (.iload 5, 2))
    (k : zg_G Γ Ξ μ R Ω bc bs (pc + 2) (o0 :: o1 :: o2 :: o3 :: o4 :: some (zg_i z) :: rs) (zg_i z :: st) K N P V) : zg_G Γ Ξ μ R Ω bc bs pc (o0 :: o1 :: o2 :: o3 :: o4 :: some (zg_i z) :: rs) st K N P V := by
  intro p e s m args below meth c H locs cells slots lz X Y
  exact lv_iload X.1 X.2.1 hd (Y.1.2.2 5 _ rfl) (k p e s m args below meth c H locs cells slots lz X Y)
theorem zg_ll5 {z : Int} (hd : decode μ.2.1 pc = .ok (.lload 5, 2))
    (k : zg_G Γ Ξ μ R Ω bc bs (pc + 2) (o0 :: o1 :: o2 :: o3 :: o4 :: some (zg_l z) :: rs) (zg_l z :: st) K N P V) : zg_G Γ Ξ μ R Ω bc bs pc (o0 :: o1 :: o2 :: o3 :: o4 :: some (zg_l z) :: rs) st K N P V := by
  intro p e s m args below meth c H locs cells slots lz X Y
  exact lv_lload X.1 X.2.1 hd (Y.1.2.2 5 _ rfl) (k p e s m args below meth c H locs cells slots lz X Y)
theorem zg_al5 {a : Nat} (hd : decode μ.2.1 pc = .ok (.aload 5, 2))
    (k : zg_G Γ Ξ μ R Ω bc bs (pc + 2) (o0 :: o1 :: o2 :: o3 :: o4 :: some (zg_r Γ a) :: rs) (zg_r Γ a :: st) K N P V) : zg_G Γ Ξ μ R Ω bc bs pc (o0 :: o1 :: o2 :: o3 :: o4 :: some (zg_r Γ a) :: rs) st K N P V := by
  intro p e s m args below meth c H locs cells slots lz X Y
  exact lv_aload X.1 X.2.1 hd (Y.1.2.2 5 _ rfl) (k p e s m args below meth c H locs cells slots lz X Y)
theorem zg_is5 {z : Int} (hd : decode μ.2.1 pc = .ok (.istore 5, 2)) (hc : ∀ w, o4 = some w → w.category = 1) (hn : 5 < μ.2.2.1)
    (k : zg_G Γ Ξ μ R Ω bc bs (pc + 2) (o0 :: o1 :: o2 :: o3 :: o4 :: some (zg_i z) :: rs) st K N P V) : zg_G Γ Ξ μ R Ω bc bs pc (o0 :: o1 :: o2 :: o3 :: o4 :: o5 :: rs) (zg_i z :: st) K N P V := by
  intro p e s m args below meth c H locs cells slots lz X Y
  exact lv_istore X.1 X.2.1 hd (zg_lh_has Y.1) hn rfl (fun lz' h => k p e s m args below meth c H locs cells slots lz' X ⟨zg_lh_store (fun w _ h => hc w (Option.some.inj h)) h, Y.2⟩)
theorem zg_as5 {a : Nat} (hd : decode μ.2.1 pc = .ok (.astore 5, 2)) (hc : ∀ w, o4 = some w → w.category = 1) (hn : 5 < μ.2.2.1)
    (k : zg_G Γ Ξ μ R Ω bc bs (pc + 2) (o0 :: o1 :: o2 :: o3 :: o4 :: some (zg_r Γ a) :: rs) st K N P V) : zg_G Γ Ξ μ R Ω bc bs pc (o0 :: o1 :: o2 :: o3 :: o4 :: o5 :: rs) (zg_r Γ a :: st) K N P V := by
  intro p e s m args below meth c H locs cells slots lz X Y
  exact lv_astore X.1 X.2.1 hd (zg_lh_has Y.1) hn rfl (fun lz' h => k p e s m args below meth c H locs cells slots lz' X ⟨zg_lh_store (fun w _ h => hc w (Option.some.inj h)) h, Y.2⟩)
theorem zg_ls5 {z : Int} (hd : decode μ.2.1 pc = .ok (.lstore 5, 2)) (hc : ∀ w, o4 = some w → w.category = 1) (hn : 5 + 1 < μ.2.2.1)
    (k : zg_G Γ Ξ μ R Ω bc bs (pc + 2) (o0 :: o1 :: o2 :: o3 :: o4 :: some (zg_l z) :: none :: rs) st K N P V) : zg_G Γ Ξ μ R Ω bc bs pc (o0 :: o1 :: o2 :: o3 :: o4 :: o5 :: o6 :: rs) (zg_l z :: st) K N P V := by
  intro p e s m args below meth c H locs cells slots lz X Y
  exact lv_lstore X.1 X.2.1 hd (zg_lh_has Y.1) hn rfl (fun lz' h => k p e s m args below meth c H locs cells slots lz' X ⟨zg_lh_store2 (fun w _ h => hc w (Option.some.inj h)) h, Y.2⟩)
theorem zg_inc5 {z n : Int} (hd : decode μ.2.1 pc = .ok (.iinc 5 n, 3)) (hc : ∀ w, o4 = some w → w.category = 1) (hn : 5 < μ.2.2.1)
    (k : zg_G Γ Ξ μ R Ω bc bs (pc + 3) (o0 :: o1 :: o2 :: o3 :: o4 :: some (zg_i (z + n)) :: rs) st K N P V) : zg_G Γ Ξ μ R Ω bc bs pc (o0 :: o1 :: o2 :: o3 :: o4 :: some (zg_i z) :: rs) st K N P V := by
  intro p e s m args below meth c H locs cells slots lz X Y
  obtain ⟨kx, hkx⟩ := List.getElem?_of_mem (zg_pr_mem.mpr (show (o0 :: o1 :: o2 :: o3 :: o4 :: some (zg_i z) :: rs)[5]? = some (some (zg_i z)) from rfl))
  exact lv_iinc (v := Int32.ofInt (z + n)) X.1 X.2.1 hd (zg_lh_has Y.1) hkx (Int32.ofInt_add z n).symm hn rfl (fun lz' h => k p e s m args below meth c H locs cells slots lz' X ⟨zg_lh_store (fun w _ h => hc w (Option.some.inj h)) h, Y.2⟩)
theorem zg_il6 {z : Int} (hd : decode μ.2.1 pc = .ok (.iload 6, 2))
    (k : zg_G Γ Ξ μ R Ω bc bs (pc + 2) (o0 :: o1 :: o2 :: o3 :: o4 :: o5 :: some (zg_i z) :: rs) (zg_i z :: st) K N P V) : zg_G Γ Ξ μ R Ω bc bs pc (o0 :: o1 :: o2 :: o3 :: o4 :: o5 :: some (zg_i z) :: rs) st K N P V := by
  intro p e s m args below meth c H locs cells slots lz X Y
  exact lv_iload X.1 X.2.1 hd (Y.1.2.2 6 _ rfl) (k p e s m args below meth c H locs cells slots lz X Y)
theorem zg_ll6 {z : Int} (hd : decode μ.2.1 pc = .ok (.lload 6, 2))
    (k : zg_G Γ Ξ μ R Ω bc bs (pc + 2) (o0 :: o1 :: o2 :: o3 :: o4 :: o5 :: some (zg_l z) :: rs) (zg_l z :: st) K N P V) : zg_G Γ Ξ μ R Ω bc bs pc (o0 :: o1 :: o2 :: o3 :: o4 :: o5 :: some (zg_l z) :: rs) st K N P V := by
  intro p e s m args below meth c H locs cells slots lz X Y
  exact lv_lload X.1 X.2.1 hd (Y.1.2.2 6 _ rfl) (k p e s m args below meth c H locs cells slots lz X Y)
theorem zg_al6 {a : Nat} (hd : decode μ.2.1 pc = .ok (.aload 6, 2))
    (k : zg_G Γ Ξ μ R Ω bc bs (pc + 2) (o0 :: o1 :: o2 :: o3 :: o4 :: o5 :: some (zg_r Γ a) :: rs) (zg_r Γ a :: st) K N P V) : zg_G Γ Ξ μ R Ω bc bs pc (o0 :: o1 :: o2 :: o3 :: o4 :: o5 :: some (zg_r Γ a) :: rs) st K N P V := by
  intro p e s m args below meth c H locs cells slots lz X Y
  exact lv_aload X.1 X.2.1 hd (Y.1.2.2 6 _ rfl) (k p e s m args below meth c H locs cells slots lz X Y)
theorem zg_is6 {z : Int} (hd : decode μ.2.1 pc = .ok (.istore 6, 2)) (hc : ∀ w, o5 = some w → w.category = 1) (hn : 6 < μ.2.2.1)
    (k : zg_G Γ Ξ μ R Ω bc bs (pc + 2) (o0 :: o1 :: o2 :: o3 :: o4 :: o5 :: some (zg_i z) :: rs) st K N P V) : zg_G Γ Ξ μ R Ω bc bs pc (o0 :: o1 :: o2 :: o3 :: o4 :: o5 :: o6 :: rs) (zg_i z :: st) K N P V := by
  intro p e s m args below meth c H locs cells slots lz X Y
  exact lv_istore X.1 X.2.1 hd (zg_lh_has Y.1) hn rfl (fun lz' h => k p e s m args below meth c H locs cells slots lz' X ⟨zg_lh_store (fun w _ h => hc w (Option.some.inj h)) h, Y.2⟩)
theorem zg_as6 {a : Nat} (hd : decode μ.2.1 pc = .ok (.astore 6, 2)) (hc : ∀ w, o5 = some w → w.category = 1) (hn : 6 < μ.2.2.1)
    (k : zg_G Γ Ξ μ R Ω bc bs (pc + 2) (o0 :: o1 :: o2 :: o3 :: o4 :: o5 :: some (zg_r Γ a) :: rs) st K N P V) : zg_G Γ Ξ μ R Ω bc bs pc (o0 :: o1 :: o2 :: o3 :: o4 :: o5 :: o6 :: rs) (zg_r Γ a :: st) K N P V := by
  intro p e s m args below meth c H locs cells slots lz X Y
  exact lv_astore X.1 X.2.1 hd (zg_lh_has Y.1) hn rfl (fun lz' h => k p e s m args below meth c H locs cells slots lz' X ⟨zg_lh_store (fun w _ h => hc w (Option.some.inj h)) h, Y.2⟩)
theorem zg_ls6 {z : Int} (hd : decode μ.2.1 pc = .ok (.lstore 6, 2)) (hc : ∀ w, o5 = some w → w.category = 1) (hn : 6 + 1 < μ.2.2.1)
    (k : zg_G Γ Ξ μ R Ω bc bs (pc + 2) (o0 :: o1 :: o2 :: o3 :: o4 :: o5 :: some (zg_l z) :: none :: rs) st K N P V) : zg_G Γ Ξ μ R Ω bc bs pc (o0 :: o1 :: o2 :: o3 :: o4 :: o5 :: o6 :: o7 :: rs) (zg_l z :: st) K N P V := by
  intro p e s m args below meth c H locs cells slots lz X Y
  exact lv_lstore X.1 X.2.1 hd (zg_lh_has Y.1) hn rfl (fun lz' h => k p e s m args below meth c H locs cells slots lz' X ⟨zg_lh_store2 (fun w _ h => hc w (Option.some.inj h)) h, Y.2⟩)
theorem zg_inc6 {z n : Int} (hd : decode μ.2.1 pc = .ok (.iinc 6 n, 3)) (hc : ∀ w, o5 = some w → w.category = 1) (hn : 6 < μ.2.2.1)
    (k : zg_G Γ Ξ μ R Ω bc bs (pc + 3) (o0 :: o1 :: o2 :: o3 :: o4 :: o5 :: some (zg_i (z + n)) :: rs) st K N P V) : zg_G Γ Ξ μ R Ω bc bs pc (o0 :: o1 :: o2 :: o3 :: o4 :: o5 :: some (zg_i z) :: rs) st K N P V := by
  intro p e s m args below meth c H locs cells slots lz X Y
  obtain ⟨kx, hkx⟩ := List.getElem?_of_mem (zg_pr_mem.mpr (show (o0 :: o1 :: o2 :: o3 :: o4 :: o5 :: some (zg_i z) :: rs)[6]? = some (some (zg_i z)) from rfl))
  exact lv_iinc (v := Int32.ofInt (z + n)) X.1 X.2.1 hd (zg_lh_has Y.1) hkx (Int32.ofInt_add z n).symm hn rfl (fun lz' h => k p e s m args below meth c H locs cells slots lz' X ⟨zg_lh_store (fun w _ h => hc w (Option.some.inj h)) h, Y.2⟩)
theorem zg_il7 {z : Int} (hd : decode μ.2.1 pc = .ok (.iload 7, 2))
    (k : zg_G Γ Ξ μ R Ω bc bs (pc + 2) (o0 :: o1 :: o2 :: o3 :: o4 :: o5 :: o6 :: some (zg_i z) :: rs) (zg_i z :: st) K N P V) : zg_G Γ Ξ μ R Ω bc bs pc (o0 :: o1 :: o2 :: o3 :: o4 :: o5 :: o6 :: some (zg_i z) :: rs) st K N P V := by
  intro p e s m args below meth c H locs cells slots lz X Y
  exact lv_iload X.1 X.2.1 hd (Y.1.2.2 7 _ rfl) (k p e s m args below meth c H locs cells slots lz X Y)
theorem zg_ll7 {z : Int} (hd : decode μ.2.1 pc = .ok (.lload 7, 2))
    (k : zg_G Γ Ξ μ R Ω bc bs (pc + 2) (o0 :: o1 :: o2 :: o3 :: o4 :: o5 :: o6 :: some (zg_l z) :: rs) (zg_l z :: st) K N P V) : zg_G Γ Ξ μ R Ω bc bs pc (o0 :: o1 :: o2 :: o3 :: o4 :: o5 :: o6 :: some (zg_l z) :: rs) st K N P V := by
  intro p e s m args below meth c H locs cells slots lz X Y
  exact lv_lload X.1 X.2.1 hd (Y.1.2.2 7 _ rfl) (k p e s m args below meth c H locs cells slots lz X Y)
theorem zg_al7 {a : Nat} (hd : decode μ.2.1 pc = .ok (.aload 7, 2))
    (k : zg_G Γ Ξ μ R Ω bc bs (pc + 2) (o0 :: o1 :: o2 :: o3 :: o4 :: o5 :: o6 :: some (zg_r Γ a) :: rs) (zg_r Γ a :: st) K N P V) : zg_G Γ Ξ μ R Ω bc bs pc (o0 :: o1 :: o2 :: o3 :: o4 :: o5 :: o6 :: some (zg_r Γ a) :: rs) st K N P V := by
  intro p e s m args below meth c H locs cells slots lz X Y
  exact lv_aload X.1 X.2.1 hd (Y.1.2.2 7 _ rfl) (k p e s m args below meth c H locs cells slots lz X Y)
theorem zg_is7 {z : Int} (hd : decode μ.2.1 pc = .ok (.istore 7, 2)) (hc : ∀ w, o6 = some w → w.category = 1) (hn : 7 < μ.2.2.1)
    (k : zg_G Γ Ξ μ R Ω bc bs (pc + 2) (o0 :: o1 :: o2 :: o3 :: o4 :: o5 :: o6 :: some (zg_i z) :: rs) st K N P V) : zg_G Γ Ξ μ R Ω bc bs pc (o0 :: o1 :: o2 :: o3 :: o4 :: o5 :: o6 :: o7 :: rs) (zg_i z :: st) K N P V := by
  intro p e s m args below meth c H locs cells slots lz X Y
  exact lv_istore X.1 X.2.1 hd (zg_lh_has Y.1) hn rfl (fun lz' h => k p e s m args below meth c H locs cells slots lz' X ⟨zg_lh_store (fun w _ h => hc w (Option.some.inj h)) h, Y.2⟩)
theorem zg_as7 {a : Nat} (hd : decode μ.2.1 pc = .ok (.astore 7, 2)) (hc : ∀ w, o6 = some w → w.category = 1) (hn : 7 < μ.2.2.1)
    (k : zg_G Γ Ξ μ R Ω bc bs (pc + 2) (o0 :: o1 :: o2 :: o3 :: o4 :: o5 :: o6 :: some (zg_r Γ a) :: rs) st K N P V) : zg_G Γ Ξ μ R Ω bc bs pc (o0 :: o1 :: o2 :: o3 :: o4 :: o5 :: o6 :: o7 :: rs) (zg_r Γ a :: st) K N P V := by
  intro p e s m args below meth c H locs cells slots lz X Y
  exact lv_astore X.1 X.2.1 hd (zg_lh_has Y.1) hn rfl (fun lz' h => k p e s m args below meth c H locs cells slots lz' X ⟨zg_lh_store (fun w _ h => hc w (Option.some.inj h)) h, Y.2⟩)
theorem zg_ls7 {z : Int} (hd : decode μ.2.1 pc = .ok (.lstore 7, 2)) (hc : ∀ w, o6 = some w → w.category = 1) (hn : 7 + 1 < μ.2.2.1)
    (k : zg_G Γ Ξ μ R Ω bc bs (pc + 2) (o0 :: o1 :: o2 :: o3 :: o4 :: o5 :: o6 :: some (zg_l z) :: none :: rs) st K N P V) : zg_G Γ Ξ μ R Ω bc bs pc (o0 :: o1 :: o2 :: o3 :: o4 :: o5 :: o6 :: o7 :: o8 :: rs) (zg_l z :: st) K N P V := by
  intro p e s m args below meth c H locs cells slots lz X Y
  exact lv_lstore X.1 X.2.1 hd (zg_lh_has Y.1) hn rfl (fun lz' h => k p e s m args below meth c H locs cells slots lz' X ⟨zg_lh_store2 (fun w _ h => hc w (Option.some.inj h)) h, Y.2⟩)
theorem zg_inc7 {z n : Int} (hd : decode μ.2.1 pc = .ok (.iinc 7 n, 3)) (hc : ∀ w, o6 = some w → w.category = 1) (hn : 7 < μ.2.2.1)
    (k : zg_G Γ Ξ μ R Ω bc bs (pc + 3) (o0 :: o1 :: o2 :: o3 :: o4 :: o5 :: o6 :: some (zg_i (z + n)) :: rs) st K N P V) : zg_G Γ Ξ μ R Ω bc bs pc (o0 :: o1 :: o2 :: o3 :: o4 :: o5 :: o6 :: some (zg_i z) :: rs) st K N P V := by
  intro p e s m args below meth c H locs cells slots lz X Y
  obtain ⟨kx, hkx⟩ := List.getElem?_of_mem (zg_pr_mem.mpr (show (o0 :: o1 :: o2 :: o3 :: o4 :: o5 :: o6 :: some (zg_i z) :: rs)[7]? = some (some (zg_i z)) from rfl))
  exact lv_iinc (v := Int32.ofInt (z + n)) X.1 X.2.1 hd (zg_lh_has Y.1) hkx (Int32.ofInt_add z n).symm hn rfl (fun lz' h => k p e s m args below meth c H locs cells slots lz' X ⟨zg_lh_store (fun w _ h => hc w (Option.some.inj h)) h, Y.2⟩)
theorem zg_il8 {z : Int} (hd : decode μ.2.1 pc = .ok (.iload 8, 2))
    (k : zg_G Γ Ξ μ R Ω bc bs (pc + 2) (o0 :: o1 :: o2 :: o3 :: o4 :: o5 :: o6 :: o7 :: some (zg_i z) :: rs) (zg_i z :: st) K N P V) : zg_G Γ Ξ μ R Ω bc bs pc (o0 :: o1 :: o2 :: o3 :: o4 :: o5 :: o6 :: o7 :: some (zg_i z) :: rs) st K N P V := by
  intro p e s m args below meth c H locs cells slots lz X Y
  exact lv_iload X.1 X.2.1 hd (Y.1.2.2 8 _ rfl) (k p e s m args below meth c H locs cells slots lz X Y)
theorem zg_ll8 {z : Int} (hd : decode μ.2.1 pc = .ok (.lload 8, 2))
    (k : zg_G Γ Ξ μ R Ω bc bs (pc + 2) (o0 :: o1 :: o2 :: o3 :: o4 :: o5 :: o6 :: o7 :: some (zg_l z) :: rs) (zg_l z :: st) K N P V) : zg_G Γ Ξ μ R Ω bc bs pc (o0 :: o1 :: o2 :: o3 :: o4 :: o5 :: o6 :: o7 :: some (zg_l z) :: rs) st K N P V := by
  intro p e s m args below meth c H locs cells slots lz X Y
  exact lv_lload X.1 X.2.1 hd (Y.1.2.2 8 _ rfl) (k p e s m args below meth c H locs cells slots lz X Y)
theorem zg_al8 {a : Nat} (hd : decode μ.2.1 pc = .ok (.aload 8, 2))
    (k : zg_G Γ Ξ μ R Ω bc bs (pc + 2) (o0 :: o1 :: o2 :: o3 :: o4 :: o5 :: o6 :: o7 :: some (zg_r Γ a) :: rs) (zg_r Γ a :: st) K N P V) : zg_G Γ Ξ μ R Ω bc bs pc (o0 :: o1 :: o2 :: o3 :: o4 :: o5 :: o6 :: o7 :: some (zg_r Γ a) :: rs) st K N P V := by
  intro p e s m args below meth c H locs cells slots lz X Y
  exact lv_aload X.1 X.2.1 hd (Y.1.2.2 8 _ rfl) (k p e s m args below meth c H locs cells slots lz X Y)
theorem zg_is8 {z : Int} (hd : decode μ.2.1 pc = .ok (.istore 8, 2)) (hc : ∀ w, o7 = some w → w.category = 1) (hn : 8 < μ.2.2.1)
    (k : zg_G Γ Ξ μ R Ω bc bs (pc + 2) (o0 :: o1 :: o2 :: o3 :: o4 :: o5 :: o6 :: o7 :: some (zg_i z) :: rs) st K N P V) : zg_G Γ Ξ μ R Ω bc bs pc (o0 :: o1 :: o2 :: o3 :: o4 :: o5 :: o6 :: o7 :: o8 :: rs) (zg_i z :: st) K N P V := by
  intro p e s m args below meth c H locs cells slots lz X Y
  exact lv_istore X.1 X.2.1 hd (zg_lh_has Y.1) hn rfl (fun lz' h => k p e s m args below meth c H locs cells slots lz' X ⟨zg_lh_store (fun w _ h => hc w (Option.some.inj h)) h, Y.2⟩)
theorem zg_as8 {a : Nat} (hd : decode μ.2.1 pc = .ok (.astore 8, 2)) (hc : ∀ w, o7 = some w → w.category = 1) (hn : 8 < μ.2.2.1)
    (k : zg_G Γ Ξ μ R Ω bc bs (pc + 2) (o0 :: o1 :: o2 :: o3 :: o4 :: o5 :: o6 :: o7 :: some (zg_r Γ a) :: rs) st K N P V) : zg_G Γ Ξ μ R Ω bc bs pc (o0 :: o1 :: o2 :: o3 :: o4 :: o5 :: o6 :: o7 :: o8 :: rs) (zg_r Γ a :: st) K N P V := by
  intro p e s m args below meth c H locs cells slots lz X Y
  exact lv_astore X.1 X.2.1 hd (zg_lh_has Y.1) hn rfl (fun lz' h => k p e s m args below meth c H locs cells slots lz' X ⟨zg_lh_store (fun w _ h => hc w (Option.some.inj h)) h, Y.2⟩)
theorem zg_ls8 {z : Int} (hd : decode μ.2.1 pc = .ok (.lstore 8, 2)) (hc : ∀ w, o7 = some w → w.category = 1) (hn : 8 + 1 < μ.2.2.1)
    (k : zg_G Γ Ξ μ R Ω bc bs (pc + 2) (o0 :: o1 :: o2 :: o3 :: o4 :: o5 :: o6 :: o7 :: some (zg_l z) :: none :: rs) st K N P V) : zg_G Γ Ξ μ R Ω bc bs pc (o0 :: o1 :: o2 :: o3 :: o4 :: o5 :: o6 :: o7 :: o8 :: o9 :: rs) (zg_l z :: st) K N P V := by
  intro p e s m args below meth c H locs cells slots lz X Y
  exact lv_lstore X.1 X.2.1 hd (zg_lh_has Y.1) hn rfl (fun lz' h => k p e s m args below meth c H locs cells slots lz' X ⟨zg_lh_store2 (fun w _ h => hc w (Option.some.inj h)) h, Y.2⟩)
theorem zg_inc8 {z n : Int} (hd : decode μ.2.1 pc = .ok (.iinc 8 n, 3)) (hc : ∀ w, o7 = some w → w.category = 1) (hn : 8 < μ.2.2.1)
    (k : zg_G Γ Ξ μ R Ω bc bs (pc + 3) (o0 :: o1 :: o2 :: o3 :: o4 :: o5 :: o6 :: o7 :: some (zg_i (z + n)) :: rs) st K N P V) : zg_G Γ Ξ μ R Ω bc bs pc (o0 :: o1 :: o2 :: o3 :: o4 :: o5 :: o6 :: o7 :: some (zg_i z) :: rs) st K N P V := by
  intro p e s m args below meth c H locs cells slots lz X Y
  obtain ⟨kx, hkx⟩ := List.getElem?_of_mem (zg_pr_mem.mpr (show (o0 :: o1 :: o2 :: o3 :: o4 :: o5 :: o6 :: o7 :: some (zg_i z) :: rs)[8]? = some (some (zg_i z)) from rfl))
  exact lv_iinc (v := Int32.ofInt (z + n)) X.1 X.2.1 hd (zg_lh_has Y.1) hkx (Int32.ofInt_add z n).symm hn rfl (fun lz' h => k p e s m args below meth c H locs cells slots lz' X ⟨zg_lh_store (fun w _ h => hc w (Option.some.inj h)) h, Y.2⟩)
theorem zg_il9 {z : Int} (hd : decode μ.2.1 pc = .ok (.iload 9, 2))
    (k : zg_G Γ Ξ μ R Ω bc bs (pc + 2) (o0 :: o1 :: o2 :: o3 :: o4 :: o5 :: o6 :: o7 :: o8 :: some (zg_i z) :: rs) (zg_i z :: st) K N P V) : zg_G Γ Ξ μ R Ω bc bs pc (o0 :: o1 :: o2 :: o3 :: o4 :: o5 :: o6 :: o7 :: o8 :: some (zg_i z) :: rs) st K N P V := by
  intro p e s m args below meth c H locs cells slots lz X Y
  exact lv_iload X.1 X.2.1 hd (Y.1.2.2 9 _ rfl) (k p e s m args below meth c H locs cells slots lz X Y)
theorem zg_ll9 {z : Int} (hd : decode μ.2.1 pc = .ok (.lload 9, 2))
    (k : zg_G Γ Ξ μ R Ω bc bs (pc + 2) (o0 :: o1 :: o2 :: o3 :: o4 :: o5 :: o6 :: o7 :: o8 :: some (zg_l z) :: rs) (zg_l z :: st) K N P V) : zg_G Γ Ξ μ R Ω bc bs pc (o0 :: o1 :: o2 :: o3 :: o4 :: o5 :: o6 :: o7 :: o8 :: some (zg_l z) :: rs) st K N P V := by
  intro p e s m args below meth c H locs cells slots lz X Y
  exact lv_lload X.1 X.2.1 hd (Y.1.2.2 9 _ rfl) (k p e s m args below meth c H locs cells slots lz X Y)
theorem zg_al9 {a : Nat} (hd : decode μ.2.1 pc = .ok (.aload 9, 2))
    (k : zg_G Γ Ξ μ R Ω bc bs (pc + 2) (o0 :: o1 :: o2 :: o3 :: o4 :: o5 :: o6 :: o7 :: o8 :: some (zg_r Γ a) :: rs) (zg_r Γ a :: st) K N P V) : zg_G Γ Ξ μ R Ω bc bs pc (o0 :: o1 :: o2 :: o3 :: o4 :: o5 :: o6 :: o7 :: o8 :: some (zg_r Γ a) :: rs) st K N P V := by
  intro p e s m args below meth c H locs cells slots lz X Y
  exact lv_aload X.1 X.2.1 hd (Y.1.2.2 9 _ rfl) (k p e s m args below meth c H locs cells slots lz X Y)
theorem zg_is9 {z : Int} (hd : decode μ.2.1 pc = .ok (.istore 9, 2)) (hc : ∀ w, o8 = some w → w.category = 1) (hn : 9 < μ.2.2.1)
    (k : zg_G Γ Ξ μ R Ω bc bs (pc + 2) (o0 :: o1 :: o2 :: o3 :: o4 :: o5 :: o6 :: o7 :: o8 :: some (zg_i z) :: rs) st K N P V) : zg_G Γ Ξ μ R Ω bc bs pc (o0 :: o1 :: o2 :: o3 :: o4 :: o5 :: o6 :: o7 :: o8 :: o9 :: rs) (zg_i z :: st) K N P V := by
  intro p e s m args below meth c H locs cells slots lz X Y
  exact lv_istore X.1 X.2.1 hd (zg_lh_has Y.1) hn rfl (fun lz' h => k p e s m args below meth c H locs cells slots lz' X ⟨zg_lh_store (fun w _ h => hc w (Option.some.inj h)) h, Y.2⟩)
theorem zg_as9 {a : Nat} (hd : decode μ.2.1 pc = .ok (.astore 9, 2)) (hc : ∀ w, o8 = some w → w.category = 1) (hn : 9 < μ.2.2.1)
    (k : zg_G Γ Ξ μ R Ω bc bs (pc + 2) (o0 :: o1 :: o2 :: o3 :: o4 :: o5 :: o6 :: o7 :: o8 :: some (zg_r Γ a) :: rs) st K N P V) : zg_G Γ Ξ μ R Ω bc bs pc (o0 :: o1 :: o2 :: o3 :: o4 :: o5 :: o6 :: o7 :: o8 :: o9 :: rs) (zg_r Γ a :: st) K N P V := by
  intro p e s m args below meth c H locs cells slots lz X Y
  exact lv_astore X.1 X.2.1 hd (zg_lh_has Y.1) hn rfl (fun lz' h => k p e s m args below meth c H locs cells slots lz' X ⟨zg_lh_store (fun w _ h => hc w (Option.some.inj h)) h, Y.2⟩)
theorem zg_ls9 {z : Int} (hd : decode μ.2.1 pc = .ok (.lstore 9, 2)) (hc : ∀ w, o8 = some w → w.category = 1) (hn : 9 + 1 < μ.2.2.1)
    (k : zg_G Γ Ξ μ R Ω bc bs (pc + 2) (o0 :: o1 :: o2 :: o3 :: o4 :: o5 :: o6 :: o7 :: o8 :: some (zg_l z) :: none :: rs) st K N P V) : zg_G Γ Ξ μ R Ω bc bs pc (o0 :: o1 :: o2 :: o3 :: o4 :: o5 :: o6 :: o7 :: o8 :: o9 :: o10 :: rs) (zg_l z :: st) K N P V := by
  intro p e s m args below meth c H locs cells slots lz X Y
  exact lv_lstore X.1 X.2.1 hd (zg_lh_has Y.1) hn rfl (fun lz' h => k p e s m args below meth c H locs cells slots lz' X ⟨zg_lh_store2 (fun w _ h => hc w (Option.some.inj h)) h, Y.2⟩)
theorem zg_inc9 {z n : Int} (hd : decode μ.2.1 pc = .ok (.iinc 9 n, 3)) (hc : ∀ w, o8 = some w → w.category = 1) (hn : 9 < μ.2.2.1)
    (k : zg_G Γ Ξ μ R Ω bc bs (pc + 3) (o0 :: o1 :: o2 :: o3 :: o4 :: o5 :: o6 :: o7 :: o8 :: some (zg_i (z + n)) :: rs) st K N P V) : zg_G Γ Ξ μ R Ω bc bs pc (o0 :: o1 :: o2 :: o3 :: o4 :: o5 :: o6 :: o7 :: o8 :: some (zg_i z) :: rs) st K N P V := by
  intro p e s m args below meth c H locs cells slots lz X Y
  obtain ⟨kx, hkx⟩ := List.getElem?_of_mem (zg_pr_mem.mpr (show (o0 :: o1 :: o2 :: o3 :: o4 :: o5 :: o6 :: o7 :: o8 :: some (zg_i z) :: rs)[9]? = some (some (zg_i z)) from rfl))
  exact lv_iinc (v := Int32.ofInt (z + n)) X.1 X.2.1 hd (zg_lh_has Y.1) hkx (Int32.ofInt_add z n).symm hn rfl (fun lz' h => k p e s m args below meth c H locs cells slots lz' X ⟨zg_lh_store (fun w _ h => hc w (Option.some.inj h)) h, Y.2⟩)
theorem zg_il10 {z : Int} (hd : decode μ.2.1 pc = .ok (.iload 10, 2))
    (k : zg_G Γ Ξ μ R Ω bc bs (pc + 2) (o0 :: o1 :: o2 :: o3 :: o4 :: o5 :: o6 :: o7 :: o8 :: o9 :: some (zg_i z) :: rs) (zg_i z :: st) K N P V) : zg_G Γ Ξ μ R Ω bc bs pc (o0 :: o1 :: o2 :: o3 :: o4 :: o5 :: o6 :: o7 :: o8 :: o9 :: some (zg_i z) :: rs) st K N P V := by
  intro p e s m args below meth c H locs cells slots lz X Y
  exact lv_iload X.1 X.2.1 hd (Y.1.2.2 10 _ rfl) (k p e s m args below meth c H locs cells slots lz X Y)
theorem zg_ll10 {z : Int} (hd : decode μ.2.1 pc = .ok (.lload 10, 2))
    (k : zg_G Γ Ξ μ R Ω bc bs (pc + 2) (o0 :: o1 :: o2 :: o3 :: o4 :: o5 :: o6 :: o7 :: o8 :: o9 :: some (zg_l z) :: rs) (zg_l z :: st) K N P V) : zg_G Γ Ξ μ R Ω bc bs pc (o0 :: o1 :: o2 :: o3 :: o4 :: o5 :: o6 :: o7 :: o8 :: o9 :: some (zg_l z) :: rs) st K N P V := by
  intro p e s m args below meth c H locs cells slots lz X Y
  exact lv_lload X.1 X.2.1 hd (Y.1.2.2 10 _ rfl) (k p e s m args below meth c H locs cells slots lz X Y)
theorem zg_al10 {a : Nat} (hd : decode μ.2.1 pc = .ok (.aload 10, 2))
    (k : zg_G Γ Ξ μ R Ω bc bs (pc + 2) (o0 :: o1 :: o2 :: o3 :: o4 :: o5 :: o6 :: o7 :: o8 :: o9 :: some (zg_r Γ a) :: rs) (zg_r Γ a :: st) K N P V) : zg_G Γ Ξ μ R Ω bc bs pc (o0 :: o1 :: o2 :: o3 :: o4 :: o5 :: o6 :: o7 :: o8 :: o9 :: some (zg_r Γ a) :: rs) st K N P V := by
  intro p e s m args below meth c H locs cells slots lz X Y
  exact lv_aload X.1 X.2.1 hd (Y.1.2.2 10 _ rfl) (k p e s m args below meth c H locs cells slots lz X Y)
theorem zg_is10 {z : Int} (hd : decode μ.2.1 pc = .ok (.istore 10, 2)) (hc : ∀ w, o9 = some w → w.category = 1) (hn : 10 < μ.2.2.1)
    (k : zg_G Γ Ξ μ R Ω bc bs (pc + 2) (o0 :: o1 :: o2 :: o3 :: o4 :: o5 :: o6 :: o7 :: o8 :: o9 :: some (zg_i z) :: rs) st K N P V) : zg_G Γ Ξ μ R Ω bc bs pc (o0 :: o1 :: o2 :: o3 :: o4 :: o5 :: o6 :: o7 :: o8 :: o9 :: o10 :: rs) (zg_i z :: st) K N P V := by
  intro p e s m args below meth c H locs cells slots lz X Y
  exact lv_istore X.1 X.2.1 hd (zg_lh_has Y.1) hn rfl (fun lz' h => k p e s m args below meth c H locs cells slots lz' X ⟨zg_lh_store (fun w _ h => hc w (Option.some.inj h)) h, Y.2⟩)
theorem zg_as10 {a : Nat} (hd : decode μ.2.1 pc = .ok (.astore 10, 2)) (hc : ∀ w, o9 = some w → w.category = 1) (hn : 10 < μ.2.2.1)
    (k : zg_G Γ Ξ μ R Ω bc bs (pc + 2) (o0 :: o1 :: o2 :: o3 :: o4 :: o5 :: o6 :: o7 :: o8 :: o9 :: some (zg_r Γ a) :: rs) st K N P V) : zg_G Γ Ξ μ R Ω bc bs pc (o0 :: o1 :: o2 :: o3 :: o4 :: o5 :: o6 :: o7 :: o8 :: o9 :: o10 :: rs) (zg_r Γ a :: st) K N P V := by
  intro p e s m args below meth c H locs cells slots lz X Y
  exact lv_astore X.1 X.2.1 hd (zg_lh_has Y.1) hn rfl (fun lz' h => k p e s m args below meth c H locs cells slots lz' X ⟨zg_lh_store (fun w _ h => hc w (Option.some.inj h)) h, Y.2⟩)
theorem zg_ls10 {z : Int} (hd : decode μ.2.1 pc = .ok (.lstore 10, 2)) (hc : ∀ w, o9 = some w → w.category = 1) (hn : 10 + 1 < μ.2.2.1)
    (k : zg_G Γ Ξ μ R Ω bc bs (pc + 2) (o0 :: o1 :: o2 :: o3 :: o4 :: o5 :: o6 :: o7 :: o8 :: o9 :: some (zg_l z) :: none :: rs) st K N P V) : zg_G Γ Ξ μ R Ω bc bs pc (o0 :: o1 :: o2 :: o3 :: o4 :: o5 :: o6 :: o7 :: o8 :: o9 :: o10 :: o11 :: rs) (zg_l z :: st) K N P V := by
  intro p e s m args below meth c H locs cells slots lz X Y
  exact lv_lstore X.1 X.2.1 hd (zg_lh_has Y.1) hn rfl (fun lz' h => k p e s m args below meth c H locs cells slots lz' X ⟨zg_lh_store2 (fun w _ h => hc w (Option.some.inj h)) h, Y.2⟩)
theorem zg_inc10 {z n : Int} (hd : decode μ.2.1 pc = .ok (.iinc 10 n, 3)) (hc : ∀ w, o9 = some w → w.category = 1) (hn : 10 < μ.2.2.1)
    (k : zg_G Γ Ξ μ R Ω bc bs (pc + 3) (o0 :: o1 :: o2 :: o3 :: o4 :: o5 :: o6 :: o7 :: o8 :: o9 :: some (zg_i (z + n)) :: rs) st K N P V) : zg_G Γ Ξ μ R Ω bc bs pc (o0 :: o1 :: o2 :: o3 :: o4 :: o5 :: o6 :: o7 :: o8 :: o9 :: some (zg_i z) :: rs) st K N P V := by
  intro p e s m args below meth c H locs cells slots lz X Y
  obtain ⟨kx, hkx⟩ := List.getElem?_of_mem (zg_pr_mem.mpr (show (o0 :: o1 :: o2 :: o3 :: o4 :: o5 :: o6 :: o7 :: o8 :: o9 :: some (zg_i z) :: rs)[10]? = some (some (zg_i z)) from rfl))
  exact lv_iinc (v := Int32.ofInt (z + n)) X.1 X.2.1 hd (zg_lh_has Y.1) hkx (Int32.ofInt_add z n).symm hn rfl (fun lz' h => k p e s m args below meth c H locs cells slots lz' X ⟨zg_lh_store (fun w _ h => hc w (Option.some.inj h)) h, Y.2⟩)
theorem zg_il11 {z : Int} (hd : decode μ.2.1 pc = .ok (.iload 11, 2))
    (k : zg_G Γ Ξ μ R Ω bc bs (pc + 2) (o0 :: o1 :: o2 :: o3 :: o4 :: o5 :: o6 :: o7 :: o8 :: o9 :: o10 :: some (zg_i z) :: rs) (zg_i z :: st) K N P V) : zg_G Γ Ξ μ R Ω bc bs pc (o0 :: o1 :: o2 :: o3 :: o4 :: o5 :: o6 :: o7 :: o8 :: o9 :: o10 :: some (zg_i z) :: rs) st K N P V := by
  intro p e s m args below meth c H locs cells slots lz X Y
  exact lv_iload X.1 X.2.1 hd (Y.1.2.2 11 _ rfl) (k p e s m args below meth c H locs cells slots lz X Y)
theorem zg_ll11 {z : Int} (hd : decode μ.2.1 pc = .ok (.lload 11, 2))
    (k : zg_G Γ Ξ μ R Ω bc bs (pc + 2) (o0 :: o1 :: o2 :: o3 :: o4 :: o5 :: o6 :: o7 :: o8 :: o9 :: o10 :: some (zg_l z) :: rs) (zg_l z :: st) K N P V) : zg_G Γ Ξ μ R Ω bc bs pc (o0 :: o1 :: o2 :: o3 :: o4 :: o5 :: o6 :: o7 :: o8 :: o9 :: o10 :: some (zg_l z) :: rs) st K N P V := by
  intro p e s m args below meth c H locs cells slots lz X Y
  exact lv_lload X.1 X.2.1 hd (Y.1.2.2 11 _ rfl) (k p e s m args below meth c H locs cells slots lz X Y)
theorem zg_al11 {a : Nat} (hd : decode μ.2.1 pc = .ok (.aload 11, 2))
    (k : zg_G Γ Ξ μ R Ω bc bs (pc + 2) (o0 :: o1 :: o2 :: o3 :: o4 :: o5 :: o6 :: o7 :: o8 :: o9 :: o10 :: some (zg_r Γ a) :: rs) (zg_r Γ a :: st) K N P V) : zg_G Γ Ξ μ R Ω bc bs pc (o0 :: o1 :: o2 :: o3 :: o4 :: o5 :: o6 :: o7 :: o8 :: o9 :: o10 :: some (zg_r Γ a) :: rs) st K N P V := by
  intro p e s m args below meth c H locs cells slots lz X Y
  exact lv_aload X.1 X.2.1 hd (Y.1.2.2 11 _ rfl) (k p e s m args below meth c H locs cells slots lz X Y)
theorem zg_is11 {z : Int} (hd : decode μ.2.1 pc = .ok (.istore 11, 2)) (hc : ∀ w, o10 = some w → w.category = 1) (hn : 11 < μ.2.2.1)
    (k : zg_G Γ Ξ μ R Ω bc bs (pc + 2) (o0 :: o1 :: o2 :: o3 :: o4 :: o5 :: o6 :: o7 :: o8 :: o9 :: o10 :: some (zg_i z) :: rs) st K N P V) : zg_G Γ Ξ μ R Ω bc bs pc (o0 :: o1 :: o2 :: o3 :: o4 :: o5 :: o6 :: o7 :: o8 :: o9 :: o10 :: o11 :: rs) (zg_i z :: st) K N P V := by
  intro p e s m args below meth c H locs cells slots lz X Y
  exact lv_istore X.1 X.2.1 hd (zg_lh_has Y.1) hn rfl (fun lz' h => k p e s m args below meth c H locs cells slots lz' X ⟨zg_lh_store (fun w _ h => hc w (Option.some.inj h)) h, Y.2⟩)
theorem zg_as11 {a : Nat} (hd : decode μ.2.1 pc = .ok (.astore 11, 2)) (hc : ∀ w, o10 = some w → w.category = 1) (hn : 11 < μ.2.2.1)
    (k : zg_G Γ Ξ μ R Ω bc bs (pc + 2) (o0 :: o1 :: o2 :: o3 :: o4 :: o5 :: o6 :: o7 :: o8 :: o9 :: o10 :: some (zg_r Γ a) :: rs) st K N P V) : zg_G Γ Ξ μ R Ω bc bs pc (o0 :: o1 :: o2 :: o3 :: o4 :: o5 :: o6 :: o7 :: o8 :: o9 :: o10 :: o11 :: rs) (zg_r Γ a :: st) K N P V := by
  intro p e s m args below meth c H locs cells slots lz X Y
  exact lv_astore X.1 X.2.1 hd (zg_lh_has Y.1) hn rfl (fun lz' h => k p e s m args below meth c H locs cells slots lz' X ⟨zg_lh_store (fun w _ h => hc w (Option.some.inj h)) h, Y.2⟩)
theorem zg_ls11 {z : Int} (hd : decode μ.2.1 pc = .ok (.lstore 11, 2)) (hc : ∀ w, o10 = some w → w.category = 1) (hn : 11 + 1 < μ.2.2.1)
    (k : zg_G Γ Ξ μ R Ω bc bs (pc + 2) (o0 :: o1 :: o2 :: o3 :: o4 :: o5 :: o6 :: o7 :: o8 :: o9 :: o10 :: some (zg_l z) :: none :: rs) st K N P V) : zg_G Γ Ξ μ R Ω bc bs pc (o0 :: o1 :: o2 :: o3 :: o4 :: o5 :: o6 :: o7 :: o8 :: o9 :: o10 :: o11 :: o12 :: rs) (zg_l z :: st) K N P V := by
  intro p e s m args below meth c H locs cells slots lz X Y
  exact lv_lstore X.1 X.2.1 hd (zg_lh_has Y.1) hn rfl (fun lz' h => k p e s m args below meth c H locs cells slots lz' X ⟨zg_lh_store2 (fun w _ h => hc w (Option.some.inj h)) h, Y.2⟩)
theorem zg_inc11 {z n : Int} (hd : decode μ.2.1 pc = .ok (.iinc 11 n, 3)) (hc : ∀ w, o10 = some w → w.category = 1) (hn : 11 < μ.2.2.1)
    (k : zg_G Γ Ξ μ R Ω bc bs (pc + 3) (o0 :: o1 :: o2 :: o3 :: o4 :: o5 :: o6 :: o7 :: o8 :: o9 :: o10 :: some (zg_i (z + n)) :: rs) st K N P V) : zg_G Γ Ξ μ R Ω bc bs pc (o0 :: o1 :: o2 :: o3 :: o4 :: o5 :: o6 :: o7 :: o8 :: o9 :: o10 :: some (zg_i z) :: rs) st K N P V := by
  intro p e s m args below meth c H locs cells slots lz X Y
  obtain ⟨kx, hkx⟩ := List.getElem?_of_mem (zg_pr_mem.mpr (show (o0 :: o1 :: o2 :: o3 :: o4 :: o5 :: o6 :: o7 :: o8 :: o9 :: o10 :: some (zg_i z) :: rs)[11]? = some (some (zg_i z)) from rfl))
  exact lv_iinc (v := Int32.ofInt (z + n)) X.1 X.2.1 hd (zg_lh_has Y.1) hkx (Int32.ofInt_add z n).symm hn rfl (fun lz' h => k p e s m args below meth c H locs cells slots lz' X ⟨zg_lh_store (fun w _ h => hc w (Option.some.inj h)) h, Y.2⟩)
theorem zg_il12 {z : Int} (hd : decode μ.2.1 pc = .ok (.iload 12, 2))
    (k : zg_G Γ Ξ μ R Ω bc bs (pc + 2) (o0 :: o1 :: o2 :: o3 :: o4 :: o5 :: o6 :: o7 :: o8 :: o9 :: o10 :: o11 :: some (zg_i z) :: rs) (zg_i z :: st) K N P V) : zg_G Γ Ξ μ R Ω bc bs pc (o0 :: o1 :: o2 :: o3 :: o4 :: o5 :: o6 :: o7 :: o8 :: o9 :: o10 :: o11 :: some (zg_i z) :: rs) st K N P V := by
  intro p e s m args below meth c H locs cells slots lz X Y
  exact lv_iload X.1 X.2.1 hd (Y.1.2.2 12 _ rfl) (k p e s m args below meth c H locs cells slots lz X Y)
theorem zg_ll12 {z : Int} (hd : decode μ.2.1 pc = .ok (.lload 12, 2))
    (k : zg_G Γ Ξ μ R Ω bc bs (pc + 2) (o0 :: o1 :: o2 :: o3 :: o4 :: o5 :: o6 :: o7 :: o8 :: o9 :: o10 :: o11 :: some (zg_l z) :: rs) (zg_l z :: st) K N P V) : zg_G Γ Ξ μ R Ω bc bs pc (o0 :: o1 :: o2 :: o3 :: o4 :: o5 :: o6 :: o7 :: o8 :: o9 :: o10 :: o11 :: some (zg_l z) :: rs) st K N P V := by
  intro p e s m args below meth c H locs cells slots lz X Y
  exact lv_lload X.1 X.2.1 hd (Y.1.2.2 12 _ rfl) (k p e s m args below meth c H locs cells slots lz X Y)
theorem zg_al12 {a : Nat} (hd : decode μ.2.1 pc = .ok (.aload 12, 2))
    (k : zg_G Γ Ξ μ R Ω bc bs (pc + 2) (o0 :: o1 :: o2 :: o3 :: o4 :: o5 :: o6 :: o7 :: o8 :: o9 :: o10 :: o11 :: some (zg_r Γ a) :: rs) (zg_r Γ a :: st) K N P V) : zg_G Γ Ξ μ R Ω bc bs pc (o0 :: o1 :: o2 :: o3 :: o4 :: o5 :: o6 :: o7 :: o8 :: o9 :: o10 :: o11 :: some (zg_r Γ a) :: rs) st K N P V := by
  intro p e s m args below meth c H locs cells slots lz X Y
  exact lv_aload X.1 X.2.1 hd (Y.1.2.2 12 _ rfl) (k p e s m args below meth c H locs cells slots lz X Y)
theorem zg_is12 {z : Int} (hd : decode μ.2.1 pc = .ok (.istore 12, 2)) (hc : ∀ w, o11 = some w → w.category = 1) (hn : 12 < μ.2.2.1)
    (k : zg_G Γ Ξ μ R Ω bc bs (pc + 2) (o0 :: o1 :: o2 :: o3 :: o4 :: o5 :: o6 :: o7 :: o8 :: o9 :: o10 :: o11 :: some (zg_i z) :: rs) st K N P V) : zg_G Γ Ξ μ R Ω bc bs pc (o0 :: o1 :: o2 :: o3 :: o4 :: o5 :: o6 :: o7 :: o8 :: o9 :: o10 :: o11 :: o12 :: rs) (zg_i z :: st) K N P V := by
  intro p e s m args below meth c H locs cells slots lz X Y
  exact lv_istore X.1 X.2.1 hd (zg_lh_has Y.1) hn rfl (fun lz' h => k p e s m args below meth c H locs cells slots lz' X ⟨zg_lh_store (fun w _ h => hc w (Option.some.inj h)) h, Y.2⟩)
theorem zg_as12 {a : Nat} (hd : decode μ.2.1 pc = .ok (.astore 12, 2)) (hc : ∀ w, o11 = some w → w.category = 1) (hn : 12 < μ.2.2.1)
    (k : zg_G Γ Ξ μ R Ω bc bs (pc + 2) (o0 :: o1 :: o2 :: o3 :: o4 :: o5 :: o6 :: o7 :: o8 :: o9 :: o10 :: o11 :: some (zg_r Γ a) :: rs) st K N P V) : zg_G Γ Ξ μ R Ω bc bs pc (o0 :: o1 :: o2 :: o3 :: o4 :: o5 :: o6 :: o7 :: o8 :: o9 :: o10 :: o11 :: o12 :: rs) (zg_r Γ a :: st) K N P V := by
  intro p e s m args below meth c H locs cells slots lz X Y
  exact lv_astore X.1 X.2.1 hd (zg_lh_has Y.1) hn rfl (fun lz' h => k p e s m args below meth c H locs cells slots lz' X ⟨zg_lh_store (fun w _ h => hc w (Option.some.inj h)) h, Y.2⟩)
theorem zg_ls12 {z : Int} (hd : decode μ.2.1 pc = .ok (.lstore 12, 2)) (hc : ∀ w, o11 = some w → w.category = 1) (hn : 12 + 1 < μ.2.2.1)
    (k : zg_G Γ Ξ μ R Ω bc bs (pc + 2) (o0 :: o1 :: o2 :: o3 :: o4 :: o5 :: o6 :: o7 :: o8 :: o9 :: o10 :: o11 :: some (zg_l z) :: none :: rs) st K N P V) : zg_G Γ Ξ μ R Ω bc bs pc (o0 :: o1 :: o2 :: o3 :: o4 :: o5 :: o6 :: o7 :: o8 :: o9 :: o10 :: o11 :: o12 :: o13 :: rs) (zg_l z :: st) K N P V := by
  intro p e s m args below meth c H locs cells slots lz X Y
  exact lv_lstore X.1 X.2.1 hd (zg_lh_has Y.1) hn rfl (fun lz' h => k p e s m args below meth c H locs cells slots lz' X ⟨zg_lh_store2 (fun w _ h => hc w (Option.some.inj h)) h, Y.2⟩)
theorem zg_inc12 {z n : Int} (hd : decode μ.2.1 pc = .ok (.iinc 12 n, 3)) (hc : ∀ w, o11 = some w → w.category = 1) (hn : 12 < μ.2.2.1)
    (k : zg_G Γ Ξ μ R Ω bc bs (pc + 3) (o0 :: o1 :: o2 :: o3 :: o4 :: o5 :: o6 :: o7 :: o8 :: o9 :: o10 :: o11 :: some (zg_i (z + n)) :: rs) st K N P V) : zg_G Γ Ξ μ R Ω bc bs pc (o0 :: o1 :: o2 :: o3 :: o4 :: o5 :: o6 :: o7 :: o8 :: o9 :: o10 :: o11 :: some (zg_i z) :: rs) st K N P V := by
  intro p e s m args below meth c H locs cells slots lz X Y
  obtain ⟨kx, hkx⟩ := List.getElem?_of_mem (zg_pr_mem.mpr (show (o0 :: o1 :: o2 :: o3 :: o4 :: o5 :: o6 :: o7 :: o8 :: o9 :: o10 :: o11 :: some (zg_i z) :: rs)[12]? = some (some (zg_i z)) from rfl))
  exact lv_iinc (v := Int32.ofInt (z + n)) X.1 X.2.1 hd (zg_lh_has Y.1) hkx (Int32.ofInt_add z n).symm hn rfl (fun lz' h => k p e s m args below meth c H locs cells slots lz' X ⟨zg_lh_store (fun w _ h => hc w (Option.some.inj h)) h, Y.2⟩)
theorem zg_il13 {z : Int} (hd : decode μ.2.1 pc = .ok (.iload 13, 2))
    (k : zg_G Γ Ξ μ R Ω bc bs (pc + 2) (o0 :: o1 :: o2 :: o3 :: o4 :: o5 :: o6 :: o7 :: o8 :: o9 :: o10 :: o11 :: o12 :: some (zg_i z) :: rs) (zg_i z :: st) K N P V) : zg_G Γ Ξ μ R Ω bc bs pc (o0 :: o1 :: o2 :: o3 :: o4 :: o5 :: o6 :: o7 :: o8 :: o9 :: o10 :: o11 :: o12 :: some (zg_i z) :: rs) st K N P V := by
  intro p e s m args below meth c H locs cells slots lz X Y
  exact lv_iload X.1 X.2.1 hd (Y.1.2.2 13 _ rfl) (k p e s m args below meth c H locs cells slots lz X Y)
theorem zg_ll13 {z : Int} (hd : decode μ.2.1 pc = .ok (.lload 13, 2))
    (k : zg_G Γ Ξ μ R Ω bc bs (pc + 2) (o0 :: o1 :: o2 :: o3 :: o4 :: o5 :: o6 :: o7 :: o8 :: o9 :: o10 :: o11 :: o12 :: some (zg_l z) :: rs) (zg_l z :: st) K N P V) : zg_G Γ Ξ μ R Ω bc bs pc (o0 :: o1 :: o2 :: o3 :: o4 :: o5 :: o6 :: o7 :: o8 :: o9 :: o10 :: o11 :: o12 :: some (zg_l z) :: rs) st K N P V := by
  intro p e s m args below meth c H locs cells slots lz X Y
  exact lv_lload X.1 X.2.1 hd (Y.1.2.2 13 _ rfl) (k p e s m args below meth c H locs cells slots lz X Y)
theorem zg_al13 {a : Nat} (hd : decode μ.2.1 pc = .ok (.aload 13, 2))
    (k : zg_G Γ Ξ μ R Ω bc bs (pc + 2) (o0 :: o1 :: o2 :: o3 :: o4 :: o5 :: o6 :: o7 :: o8 :: o9 :: o10 :: o11 :: o12 :: some (zg_r Γ a) :: rs) (zg_r Γ a :: st) K N P V) : zg_G Γ Ξ μ R Ω bc bs pc (o0 :: o1 :: o2 :: o3 :: o4 :: o5 :: o6 :: o7 :: o8 :: o9 :: o10 :: o11 :: o12 :: some (zg_r Γ a) :: rs) st K N P V := by
  intro p e s m args below meth c H locs cells slots lz X Y
  exact lv_aload X.1 X.2.1 hd (Y.1.2.2 13 _ rfl) (k p e s m args below meth c H locs cells slots lz X Y)
theorem zg_is13 {z : Int} (hd : decode μ.2.1 pc = .ok (.istore 13, 2)) (hc : ∀ w, o12 = some w → w.category = 1) (hn : 13 < μ.2.2.1)
    (k : zg_G Γ Ξ μ R Ω bc bs (pc + 2) (o0 :: o1 :: o2 :: o3 :: o4 :: o5 :: o6 :: o7 :: o8 :: o9 :: o10 :: o11 :: o12 :: some (zg_i z) :: rs) st K N P V) : zg_G Γ Ξ μ R Ω bc bs pc (o0 :: o1 :: o2 :: o3 :: o4 :: o5 :: o6 :: o7 :: o8 :: o9 :: o10 :: o11 :: o12 :: o13 :: rs) (zg_i z :: st) K N P V := by
  intro p e s m args below meth c H locs cells slots lz X Y
  exact lv_istore X.1 X.2.1 hd (zg_lh_has Y.1) hn rfl (fun lz' h => k p e s m args below meth c H locs cells slots lz' X ⟨zg_lh_store (fun w _ h => hc w (Option.some.inj h)) h, Y.2⟩)
theorem zg_as13 {a : Nat} (hd : decode μ.2.1 pc = .ok (.astore 13, 2)) (hc : ∀ w, o12 = some w → w.category = 1) (hn : 13 < μ.2.2.1)
    (k : zg_G Γ Ξ μ R Ω bc bs (pc + 2) (o0 :: o1 :: o2 :: o3 :: o4 :: o5 :: o6 :: o7 :: o8 :: o9 :: o10 :: o11 :: o12 :: some (zg_r Γ a) :: rs) st K N P V) : zg_G Γ Ξ μ R Ω bc bs pc (o0 :: o1 :: o2 :: o3 :: o4 :: o5 :: o6 :: o7 :: o8 :: o9 :: o10 :: o11 :: o12 :: o13 :: rs) (zg_r Γ a :: st) K N P V := by
  intro p e s m args below meth c H locs cells slots lz X Y
  exact lv_astore X.1 X.2.1 hd (zg_lh_has Y.1) hn rfl (fun lz' h => k p e s m args below meth c H locs cells slots lz' X ⟨zg_lh_store (fun w _ h => hc w (Option.some.inj h)) h, Y.2⟩)
theorem zg_ls13 {z : Int} (hd : decode μ.2.1 pc = .ok (.lstore 13, 2)) (hc : ∀ w, o12 = some w → w.category = 1) (hn : 13 + 1 < μ.2.2.1)
    (k : zg_G Γ Ξ μ R Ω bc bs (pc + 2) (o0 :: o1 :: o2 :: o3 :: o4 :: o5 :: o6 :: o7 :: o8 :: o9 :: o10 :: o11 :: o12 :: some (zg_l z) :: none :: rs) st K N P V) : zg_G Γ Ξ μ R Ω bc bs pc (o0 :: o1 :: o2 :: o3 :: o4 :: o5 :: o6 :: o7 :: o8 :: o9 :: o10 :: o11 :: o12 :: o13 :: o14 :: rs) (zg_l z :: st) K N P V := by
  intro p e s m args below meth c H locs cells slots lz X Y
  exact lv_lstore X.1 X.2.1 hd (zg_lh_has Y.1) hn rfl (fun lz' h => k p e s m args below meth c H locs cells slots lz' X ⟨zg_lh_store2 (fun w _ h => hc w (Option.some.inj h)) h, Y.2⟩)
theorem zg_inc13 {z n : Int} (hd : decode μ.2.1 pc = .ok (.iinc 13 n, 3)) (hc : ∀ w, o12 = some w → w.category = 1) (hn : 13 < μ.2.2.1)
    (k : zg_G Γ Ξ μ R Ω bc bs (pc + 3) (o0 :: o1 :: o2 :: o3 :: o4 :: o5 :: o6 :: o7 :: o8 :: o9 :: o10 :: o11 :: o12 :: some (zg_i (z + n)) :: rs) st K N P V) : zg_G Γ Ξ μ R Ω bc bs pc (o0 :: o1 :: o2 :: o3 :: o4 :: o5 :: o6 :: o7 :: o8 :: o9 :: o10 :: o11 :: o12 :: some (zg_i z) :: rs) st K N P V := by
  intro p e s m args below meth c H locs cells slots lz X Y
  obtain ⟨kx, hkx⟩ := List.getElem?_of_mem (zg_pr_mem.mpr (show (o0 :: o1 :: o2 :: o3 :: o4 :: o5 :: o6 :: o7 :: o8 :: o9 :: o10 :: o11 :: o12 :: some (zg_i z) :: rs)[13]? = some (some (zg_i z)) from rfl))
  exact lv_iinc (v := Int32.ofInt (z + n)) X.1 X.2.1 hd (zg_lh_has Y.1) hkx (Int32.ofInt_add z n).symm hn rfl (fun lz' h => k p e s m args below meth c H locs cells slots lz' X ⟨zg_lh_store (fun w _ h => hc w (Option.some.inj h)) h, Y.2⟩)
theorem zg_il14 {z : Int} (hd : decode μ.2.1 pc = .ok (.iload 14, 2))
    (k : zg_G Γ Ξ μ R Ω bc bs (pc + 2) (o0 :: o1 :: o2 :: o3 :: o4 :: o5 :: o6 :: o7 :: o8 :: o9 :: o10 :: o11 :: o12 :: o13 :: some (zg_i z) :: rs) (zg_i z :: st) K N P V) : zg_G Γ Ξ μ R Ω bc bs pc (o0 :: o1 :: o2 :: o3 :: o4 :: o5 :: o6 :: o7 :: o8 :: o9 :: o10 :: o11 :: o12 :: o13 :: some (zg_i z) :: rs) st K N P V := by
  intro p e s m args below meth c H locs cells slots lz X Y
  exact lv_iload X.1 X.2.1 hd (Y.1.2.2 14 _ rfl) (k p e s m args below meth c H locs cells slots lz X Y)
theorem zg_ll14 {z : Int} (hd : decode μ.2.1 pc = .ok (.lload 14, 2))
    (k : zg_G Γ Ξ μ R Ω bc bs (pc + 2) (o0 :: o1 :: o2 :: o3 :: o4 :: o5 :: o6 :: o7 :: o8 :: o9 :: o10 :: o11 :: o12 :: o13 :: some (zg_l z) :: rs) (zg_l z :: st) K N P V) : zg_G Γ Ξ μ R Ω bc bs pc (o0 :: o1 :: o2 :: o3 :: o4 :: o5 :: o6 :: o7 :: o8 :: o9 :: o10 :: o11 :: o12 :: o13 :: some (zg_l z) :: rs) st K N P V := by
  intro p e s m args below meth c H locs cells slots lz X Y
  exact lv_lload X.1 X.2.1 hd (Y.1.2.2 14 _ rfl) (k p e s m args below meth c H locs cells slots lz X Y)
theorem zg_al14 {a : Nat} (hd : decode μ.2.1 pc = .ok (.aload 14, 2))
    (k : zg_G Γ Ξ μ R Ω bc bs (pc + 2) (o0 :: o1 :: o2 :: o3 :: o4 :: o5 :: o6 :: o7 :: o8 :: o9 :: o10 :: o11 :: o12 :: o13 :: some (zg_r Γ a) :: rs) (zg_r Γ a :: st) K N P V) : zg_G Γ Ξ μ R Ω bc bs pc (o0 :: o1 :: o2 :: o3 :: o4 :: o5 :: o6 :: o7 :: o8 :: o9 :: o10 :: o11 :: o12 :: o13 :: some (zg_r Γ a) :: rs) st K N P V := by
  intro p e s m args below meth c H locs cells slots lz X Y
  exact lv_aload X.1 X.2.1 hd (Y.1.2.2 14 _ rfl) (k p e s m args below meth c H locs cells slots lz X Y)
theorem zg_is14 {z : Int} (hd : decode μ.2.1 pc = .ok (.istore 14, 2)) (hc : ∀ w, o13 = some w → w.category = 1) (hn : 14 < μ.2.2.1)
    (k : zg_G Γ Ξ μ R Ω bc bs (pc + 2) (o0 :: o1 :: o2 :: o3 :: o4 :: o5 :: o6 :: o7 :: o8 :: o9 :: o10 :: o11 :: o12 :: o13 :: some (zg_i z) :: rs) st K N P V) : zg_G Γ Ξ μ R Ω bc bs pc (o0 :: o1 :: o2 :: o3 :: o4 :: o5 :: o6 :: o7 :: o8 :: o9 :: o10 :: o11 :: o12 :: o13 :: o14 :: rs) (zg_i z :: st) K N P V := by
  intro p e s m args below meth c H locs cells slots lz X Y
  exact lv_istore X.1 X.2.1 hd (zg_lh_has Y.1) hn rfl (fun lz' h => k p e s m args below meth c H locs cells slots lz' X ⟨zg_lh_store (fun w _ h => hc w (Option.some.inj h)) h, Y.2⟩)
theorem zg_as14 {a : Nat} (hd : decode μ.2.1 pc = .ok (.astore 14, 2)) (hc : ∀ w, o13 = some w → w.category = 1) (hn : 14 < μ.2.2.1)
    (k : zg_G Γ Ξ μ R Ω bc bs (pc + 2) (o0 :: o1 :: o2 :: o3 :: o4 :: o5 :: o6 :: o7 :: o8 :: o9 :: o10 :: o11 :: o12 :: o13 :: some (zg_r Γ a) :: rs) st K N P V) : zg_G Γ Ξ μ R Ω bc bs pc (o0 :: o1 :: o2 :: o3 :: o4 :: o5 :: o6 :: o7 :: o8 :: o9 :: o10 :: o11 :: o12 :: o13 :: o14 :: rs) (zg_r Γ a :: st) K N P V := by
  intro p e s m args below meth c H locs cells slots lz X Y
  exact lv_astore X.1 X.2.1 hd (zg_lh_has Y.1) hn rfl (fun lz' h => k p e s m args below meth c H locs cells slots lz' X ⟨zg_lh_store (fun w _ h => hc w (Option.some.inj h)) h, Y.2⟩)
theorem zg_ls14 {z : Int} (hd : decode μ.2.1 pc = .ok (.lstore 14, 2)) (hc : ∀ w, o13 = some w → w.category = 1) (hn : 14 + 1 < μ.2.2.1)
    (k : zg_G Γ Ξ μ R Ω bc bs (pc + 2) (o0 :: o1 :: o2 :: o3 :: o4 :: o5 :: o6 :: o7 :: o8 :: o9 :: o10 :: o11 :: o12 :: o13 :: some (zg_l z) :: none :: rs) st K N P V) : zg_G Γ Ξ μ R Ω bc bs pc (o0 :: o1 :: o2 :: o3 :: o4 :: o5 :: o6 :: o7 :: o8 :: o9 :: o10 :: o11 :: o12 :: o13 :: o14 :: o15 :: rs) (zg_l z :: st) K N P V := by
  intro p e s m args below meth c H locs cells slots lz X Y
  exact lv_lstore X.1 X.2.1 hd (zg_lh_has Y.1) hn rfl (fun lz' h => k p e s m args below meth c H locs cells slots lz' X ⟨zg_lh_store2 (fun w _ h => hc w (Option.some.inj h)) h, Y.2⟩)
theorem zg_inc14 {z n : Int} (hd : decode μ.2.1 pc = .ok (.iinc 14 n, 3)) (hc : ∀ w, o13 = some w → w.category = 1) (hn : 14 < μ.2.2.1)
    (k : zg_G Γ Ξ μ R Ω bc bs (pc + 3) (o0 :: o1 :: o2 :: o3 :: o4 :: o5 :: o6 :: o7 :: o8 :: o9 :: o10 :: o11 :: o12 :: o13 :: some (zg_i (z + n)) :: rs) st K N P V) : zg_G Γ Ξ μ R Ω bc bs pc (o0 :: o1 :: o2 :: o3 :: o4 :: o5 :: o6 :: o7 :: o8 :: o9 :: o10 :: o11 :: o12 :: o13 :: some (zg_i z) :: rs) st K N P V := by
  intro p e s m args below meth c H locs cells slots lz X Y
  obtain ⟨kx, hkx⟩ := List.getElem?_of_mem (zg_pr_mem.mpr (show (o0 :: o1 :: o2 :: o3 :: o4 :: o5 :: o6 :: o7 :: o8 :: o9 :: o10 :: o11 :: o12 :: o13 :: some (zg_i z) :: rs)[14]? = some (some (zg_i z)) from rfl))
  exact lv_iinc (v := Int32.ofInt (z + n)) X.1 X.2.1 hd (zg_lh_has Y.1) hkx (Int32.ofInt_add z n).symm hn rfl (fun lz' h => k p e s m args below meth c H locs cells slots lz' X ⟨zg_lh_store (fun w _ h => hc w (Option.some.inj h)) h, Y.2⟩)
theorem zg_il15 {z : Int} (hd : decode μ.2.1 pc = .ok (.iload 15, 2))
    (k : zg_G Γ Ξ μ R Ω bc bs (pc + 2) (o0 :: o1 :: o2 :: o3 :: o4 :: o5 :: o6 :: o7 :: o8 :: o9 :: o10 :: o11 :: o12 :: o13 :: o14 :: some (zg_i z) :: rs) (zg_i z :: st) K N P V) : zg_G Γ Ξ μ R Ω bc bs pc (o0 :: o1 :: o2 :: o3 :: o4 :: o5 :: o6 :: o7 :: o8 :: o9 :: o10 :: o11 :: o12 :: o13 :: o14 :: some (zg_i z) :: rs) st K N P V := by
  intro p e s m args below meth c H locs cells slots lz X Y
  exact lv_iload X.1 X.2.1 hd (Y.1.2.2 15 _ rfl) (k p e s m args below meth c H locs cells slots lz X Y)
theorem zg_ll15 {z : Int} (hd : decode μ.2.1 pc = .ok (.lload 15, 2))
    (k : zg_G Γ Ξ μ R Ω bc bs (pc + 2) (o0 :: o1 :: o2 :: o3 :: o4 :: o5 :: o6 :: o7 :: o8 :: o9 :: o10 :: o11 :: o12 :: o13 :: o14 :: some (zg_l z) :: rs) (zg_l z :: st) K N P V) : zg_G Γ Ξ μ R Ω bc bs pc (o0 :: o1 :: o2 :: o3 :: o4 :: o5 :: o6 :: o7 :: o8 :: o9 :: o10 :: o11 :: o12 :: o13 :: o14 :: some (zg_l z) :: rs) st K N P V := by
  intro p e s m args below meth c H locs cells slots lz X Y
  exact lv_lload X.1 X.2.1 hd (Y.1.2.2 15 _ rfl) (k p e s m args below meth c H locs cells slots lz X Y)
theorem zg_al15 {a : Nat} (hd : decode μ.2.1 pc = .ok (.aload 15, 2))
    (k : zg_G Γ Ξ μ R Ω bc bs (pc + 2) (o0 :: o1 :: o2 :: o3 :: o4 :: o5 :: o6 :: o7 :: o8 :: o9 :: o10 :: o11 :: o12 :: o13 :: o14 :: some (zg_r Γ a) :: rs) (zg_r Γ a :: st) K N P V) : zg_G Γ Ξ μ R Ω bc bs pc (o0 :: o1 :: o2 :: o3 :: o4 :: o5 :: o6 :: o7 :: o8 :: o9 :: o10 :: o11 :: o12 :: o13 :: o14 :: some (zg_r Γ a) :: rs) st K N P V := by
  intro p e s m args below meth c H locs cells slots lz X Y
  exact lv_aload X.1 X.2.1 hd (Y.1.2.2 15 _ rfl) (k p e s m args below meth c H locs cells slots lz X Y)
theorem zg_is15 {z : Int} (hd : decode μ.2.1 pc = .ok (.istore 15, 2)) (hc : ∀ w, o14 = some w → w.category = 1) (hn : 15 < μ.2.2.1)
    (k : zg_G Γ Ξ μ R Ω bc bs (pc + 2) (o0 :: o1 :: o2 :: o3 :: o4 :: o5 :: o6 :: o7 :: o8 :: o9 :: o10 :: o11 :: o12 :: o13 :: o14 :: some (zg_i z) :: rs) st K N P V) : zg_G Γ Ξ μ R Ω bc bs pc (o0 :: o1 :: o2 :: o3 :: o4 :: o5 :: o6 :: o7 :: o8 :: o9 :: o10 :: o11 :: o12 :: o13 :: o14 :: o15 :: rs) (zg_i z :: st) K N P V := by
  intro p e s m args below meth c H locs cells slots lz X Y
  exact lv_istore X.1 X.2.1 hd (zg_lh_has Y.1) hn rfl (fun lz' h => k p e s m args below meth c H locs cells slots lz' X ⟨zg_lh_store (fun w _ h => hc w (Option.some.inj h)) h, Y.2⟩)
theorem zg_as15 {a : Nat} (hd : decode μ.2.1 pc = .ok (.astore 15, 2)) (hc : ∀ w, o14 = some w → w.category = 1) (hn : 15 < μ.2.2.1)
    (k : zg_G Γ Ξ μ R Ω bc bs (pc + 2) (o0 :: o1 :: o2 :: o3 :: o4 :: o5 :: o6 :: o7 :: o8 :: o9 :: o10 :: o11 :: o12 :: o13 :: o14 :: some (zg_r Γ a) :: rs) st K N P V) : zg_G Γ Ξ μ R Ω bc bs pc (o0 :: o1 :: o2 :: o3 :: o4 :: o5 :: o6 :: o7 :: o8 :: o9 :: o10 :: o11 :: o12 :: o13 :: o14 :: o15 :: rs) (zg_r Γ a :: st) K N P V := by
  intro p e s m args below meth c H locs cells slots lz X Y
  exact lv_astore X.1 X.2.1 hd (zg_lh_has Y.1) hn rfl (fun lz' h => k p e s m args below meth c H locs cells slots lz' X ⟨zg_lh_store (fun w _ h => hc w (Option.some.inj h)) h, Y.2⟩)
theorem zg_ls15 {z : Int} (hd : decode μ.2.1 pc = .ok (.lstore 15, 2)) (hc : ∀ w, o14 = some w → w.category = 1) (hn : 15 + 1 < μ.2.2.1)
    (k : zg_G Γ Ξ μ R Ω bc bs (pc + 2) (o0 :: o1 :: o2 :: o3 :: o4 :: o5 :: o6 :: o7 :: o8 :: o9 :: o10 :: o11 :: o12 :: o13 :: o14 :: some (zg_l z) :: none :: rs) st K N P V) : zg_G Γ Ξ μ R Ω bc bs pc (o0 :: o1 :: o2 :: o3 :: o4 :: o5 :: o6 :: o7 :: o8 :: o9 :: o10 :: o11 :: o12 :: o13 :: o14 :: o15 :: o16 :: rs) (zg_l z :: st) K N P V := by
  intro p e s m args below meth c H locs cells slots lz X Y
  exact lv_lstore X.1 X.2.1 hd (zg_lh_has Y.1) hn rfl (fun lz' h => k p e s m args below meth c H locs cells slots lz' X ⟨zg_lh_store2 (fun w _ h => hc w (Option.some.inj h)) h, Y.2⟩)
theorem zg_inc15 {z n : Int} (hd : decode μ.2.1 pc = .ok (.iinc 15 n, 3)) (hc : ∀ w, o14 = some w → w.category = 1) (hn : 15 < μ.2.2.1)
    (k : zg_G Γ Ξ μ R Ω bc bs (pc + 3) (o0 :: o1 :: o2 :: o3 :: o4 :: o5 :: o6 :: o7 :: o8 :: o9 :: o10 :: o11 :: o12 :: o13 :: o14 :: some (zg_i (z + n)) :: rs) st K N P V) : zg_G Γ Ξ μ R Ω bc bs pc (o0 :: o1 :: o2 :: o3 :: o4 :: o5 :: o6 :: o7 :: o8 :: o9 :: o10 :: o11 :: o12 :: o13 :: o14 :: some (zg_i z) :: rs) st K N P V := by
  intro p e s m args below meth c H locs cells slots lz X Y
  obtain ⟨kx, hkx⟩ := List.getElem?_of_mem (zg_pr_mem.mpr (show (o0 :: o1 :: o2 :: o3 :: o4 :: o5 :: o6 :: o7 :: o8 :: o9 :: o10 :: o11 :: o12 :: o13 :: o14 :: some (zg_i z) :: rs)[15]? = some (some (zg_i z)) from rfl))
  exact lv_iinc (v := Int32.ofInt (z + n)) X.1 X.2.1 hd (zg_lh_has Y.1) hkx (Int32.ofInt_add z n).symm hn rfl (fun lz' h => k p e s m args below meth c H locs cells slots lz' X ⟨zg_lh_store (fun w _ h => hc w (Option.some.inj h)) h, Y.2⟩)
end ZL
theorem zg_forget {ls' : List (Option Value)} (h : ∀ (i : Nat) (v : Value), ls'[i]? = some (some v) → ls[i]? = some (some v)) (k : zg_G Γ Ξ μ R Ω bc bs pc ls' st K N P V) : zg_G Γ Ξ μ R Ω bc bs pc ls st K N P V :=
  fun p e s m args below meth c H locs cells slots lz X Y => k p e s m args below meth c H locs cells slots lz X ⟨⟨Y.1.1, Y.1.2.1, fun i v q => Y.1.2.2 i v (h i v q)⟩, Y.2⟩
end ZG
