/-! Own layer, 3: fields, arrays, calls, entry and end -/
def zn_F (own : String) (ix ci k : Nat) : Prop := ci < zn_nc ∧ k < zn_n ci ∧ (zn_T ci k).1 = zn_C ci ∧ Cond.fieldLink own ix (zn_C ci) (zn_T ci k).2.1 (zn_T ci k).2.2.1 ∈ zn_TS
theorem zg_d_put {Γ : zg_C} {K : zg_K} {N : Nat} {P P' : zg_P} {V V' : zg_V} {H H' : Heap} (h : zg_d Γ K N P V H) (hP : va_P Γ.2.2.1 zn_cl (zg_w Γ K N P' V') H') (z : H'.size = H.size) : zg_d Γ K N P' V' H' := ⟨hP, z.trans h.2⟩
theorem zg_T_warm {Γ : zg_C} {s U : State} (hW : s.WarmedH U.vm) (h : zg_T Γ s) : zg_T Γ U := ⟨va_K.moved hW.alike h.1, zn_B_warm hW h.2⟩
theorem zg_tys_at {Γ : zg_C} : (zg_tys Γ)[0]? = some (Γ.2.2.2 0, .int) ∧ (zg_tys Γ)[1]? = some (Γ.2.2.2 1, .long) ∧ (zg_tys Γ)[2]? = some (Γ.2.2.2 2, .boolean) := ⟨rfl, rfl, rfl⟩
theorem zg_tys_ra {Γ : zg_C} {t : Nat} {ty : FieldType} (h : zn_ra[t]? = some ty) : (zg_tys Γ)[t + 3]? = some (Γ.2.2.2 (t + 3), ty) := by
  have hl : t < zn_ra.length := (List.getElem?_eq_some_iff.mp h).1
  unfold zg_tys
  rw [List.getElem?_append_right (by simp)]
  simp [List.getElem?_map, List.getElem?_range hl, List.getD, h]
section ZM
variable {Γ : zg_C} {Ξ : State → Prop} {μ : zg_M} {R : Room} {Ω : List Frame → Array Value → State → State → Prop} {d mc ms bc bs pc N : Nat} {Q : zg_Q} {ls : List (Option Value)} {st : List Value} {K : zg_K} {P : zg_P} {V : zg_V}
theorem zg_get {ix ci k a : Nat} {v : Value} (hd : decode μ.2.1 pc = .ok (.getfield ix, 3)) (hf : zn_F μ.1.cls ix ci k) (ha : a < N) (hk : K a = (0, ci)) (hv : zg_fv Γ (zn_ty ci k) (V a k) (P a k) = v)
    (kk : zg_G Γ Ξ μ R Ω bc bs (pc + 3) ls (v :: st) K N P V) : zg_G Γ Ξ μ R Ω bc bs pc ls (zg_r Γ a :: st) K N P V := by
  intro p e s m args below meth c H locs cells slots lz X Y
  obtain ⟨h1, h2, h3, h4⟩ := hf
  exact va_get (T := zn_T ci) (N := zn_n ci) (C := zn_C ci) (Ts := zn_TS) X.1 X.2.1 X.2.2.2.2.2.1 (zn_uws ci h1) X.2.2.2.2.2.2.1 X.2.2.2.2.2.2.2.2.1.1 Y.2.1.1 a (by rw [zg_w_at _ _ _ _ ha, zg_e0 hk]) (zn_cl_at ci h1) k h2 (X.2.2.2.2.2.1 _ h4) (fun x hx => by rw [h3] at hx; exact hx) (v := v) (by rw [zg_fs_at Γ h2, hv]) hd (kk p e s m args below meth c H locs cells slots lz X Y)
theorem zg_geti {ix ci k a : Nat} (hd : decode μ.2.1 pc = .ok (.getfield ix, 3)) (hf : zn_F μ.1.cls ix ci k) (ha : a < N) (hk : K a = (0, ci)) (ht : zn_ty ci k = .int)
    (kk : zg_G Γ Ξ μ R Ω bc bs (pc + 3) ls (zg_i (V a k) :: st) K N P V) : zg_G Γ Ξ μ R Ω bc bs pc ls (zg_r Γ a :: st) K N P V := zg_get hd hf ha hk (by rw [ht]; rfl) kk
theorem zg_getz {ix ci k a : Nat} (hd : decode μ.2.1 pc = .ok (.getfield ix, 3)) (hf : zn_F μ.1.cls ix ci k) (ha : a < N) (hk : K a = (0, ci)) (ht : zn_ty ci k = .boolean)
    (kk : zg_G Γ Ξ μ R Ω bc bs (pc + 3) ls (zg_i (V a k) :: st) K N P V) : zg_G Γ Ξ μ R Ω bc bs pc ls (zg_r Γ a :: st) K N P V := zg_get hd hf ha hk (by rw [ht]; rfl) kk
theorem zg_getl {ix ci k a : Nat} (hd : decode μ.2.1 pc = .ok (.getfield ix, 3)) (hf : zn_F μ.1.cls ix ci k) (ha : a < N) (hk : K a = (0, ci)) (ht : zn_ty ci k = .long)
    (kk : zg_G Γ Ξ μ R Ω bc bs (pc + 3) ls (zg_l (V a k) :: st) K N P V) : zg_G Γ Ξ μ R Ω bc bs pc ls (zg_r Γ a :: st) K N P V := zg_get hd hf ha hk (by rw [ht]; rfl) kk
theorem zg_fv_r {Γ : zg_C} {ty : FieldType} (ht : ty.isReference = true) (z : Int) (r : Option Nat) : zg_fv Γ ty z r = zg_o Γ r := by
  cases ty <;> first | rfl | (simp [FieldType.isReference] at ht)
theorem zg_getr {ix ci k a q : Nat} (hd : decode μ.2.1 pc = .ok (.getfield ix, 3)) (hf : zn_F μ.1.cls ix ci k) (ha : a < N) (hk : K a = (0, ci)) (ht : (zn_ty ci k).isReference = true) (hq : P a k = some q)
    (kk : zg_G Γ Ξ μ R Ω bc bs (pc + 3) ls (zg_r Γ q :: st) K N P V) : zg_G Γ Ξ μ R Ω bc bs pc ls (zg_r Γ a :: st) K N P V := zg_get hd hf ha hk (by rw [zg_fv_r ht, hq]; rfl) kk
theorem zg_put {ix ci k a : Nat} {v : Value} {P' : zg_P} {V' : zg_V} (hd : decode μ.2.1 pc = .ok (.putfield ix, 3)) (hf : zn_F μ.1.cls ix ci k) (hfin : (zn_T ci k).2.2.2 = false) (ha : a < N) (hk : K a = (0, ci)) (hn : narrow (zn_ty ci k) v = v) (hfit : fits (zn_ty ci k) v = true)
    (hv : zg_fv Γ (zn_ty ci k) (V' a k) (P' a k) = v) (ho : ∀ x, x ≠ k → V' a x = V a x ∧ P' a x = P a x) (hq : ∀ x, x ≠ a → V' x = V x ∧ P' x = P x)
    (kk : zg_G Γ Ξ μ R Ω bc bs (pc + 3) ls st K N P' V') : zg_G Γ Ξ μ R Ω bc bs pc ls (v :: zg_r Γ a :: st) K N P V := by
  intro p e s m args below meth c H locs cells slots lz X Y
  obtain ⟨h1, h2, h3, h4⟩ := hf
  have hts := X.2.2.2.2.2.1
  have hin : ∀ w ∈ u_ws (zn_C ci) (zn_T ci) (zn_n ci), w ∈ zn_TS := zn_uws ci h1
  have hK := X.2.2.2.2.2.2.2.2.1.1
  have hP := Y.2.1.1
  have hD := zg_w_D Γ K N P V
  have hc := zn_cl_at ci h1
  have he : (zg_w Γ K N P V)[a]? = some (Γ.2.1 + a, .inr (ci, zg_fs Γ ci (V a) (P a))) := by rw [zg_w_at _ _ _ _ ha, zg_e0 hk]
  have hap := va_apart (own := μ.1.cls) hts hin (zn_ty ci) (zn_tyok ci h1) (zn_nm ci h1) hK hc
  obtain ⟨r, g1, cell, q1, q2, q3, q4⟩ := hP a _ he
  have hr : r = (zn_C ci, zn_T ci, zn_n ci) := Option.some.inj (g1.symm.trans hc)
  subst hr
  obtain ⟨hS, hfc, kC, hkC, hkind⟩ := hK.1 ci _ hc
  obtain ⟨cf, kf, fi, f, hi, hsl⟩ := hS k h2
  have hlay := hts _ (hin _ (u_in_lay h2))
  unfold u_lay at hlay
  rw [if_neg (by rw [hfin]; decide)] at hlay
  have hst := (u_facts hfc hkC (u_lays hts hin h2) hi).1
  have h6 := u_store hfc hkC hkind hlay hi (zn_tyok ci h1 k h2) hn hfit
  refine W.putK X.1 X.2.1 (f := f) ⟨X.2.2.2.2.2.2.1, hts _ h4, ⟨_, _, _, by rw [h3] at hi; exact hi⟩, hst⟩ (by rw [q2]; exact h6) q1 q3 (by rw [hsl]; exact k2_hasslot (q4 k h2)) rfl rfl hd fun H' e1 e2 e3 => ?_
  rw [hsl] at e1 ⊢
  have hP' := hP.set (e := .inr (ci, (zg_fs Γ ci (V a) (P a)).set k v)) (H1 := H') hD he ⟨_, hc, t_OB.to (V := updV (vp_V (zg_fs Γ ci (V a) (P a))) k v) ⟨_, e1, q2, q3, t_set q4 hap h2 v⟩ (fun j _ => vp_updV_set (by rw [zg_fs_len]; exact h2) v j)⟩ e3
  rw [zg_fs_set h2 hv ho, zg_w_set (K' := K) (P' := P') (V' := V') ha (by rw [zg_e0 hk]) (fun x hx => ⟨rfl, hq x hx⟩)] at hP'
  exact kk p e s m args below meth c H' _ cells slots lz X ⟨Y.1, zg_d_put Y.2.1 hP' e2, Y.2.2.1.put e2 e3 (hD.2 a _ he), Y.2.2.2⟩
theorem zg_u_in (V : zg_V) (a k : Nat) (x : Int) : zg_u V a k x a k = x := by simp [zg_u]
theorem zg_u_off (V : zg_V) (a k : Nat) (x : Int) {j : Nat} (h : j ≠ k) : zg_u V a k x a j = V a j := by simp [zg_u, h]
theorem zg_u_out (V : zg_V) (a k : Nat) (x : Int) {b : Nat} (h : b ≠ a) : zg_u V a k x b = V b := by funext j; simp [zg_u, h]
theorem zg_up_in (P : zg_P) (a k : Nat) (x : Option Nat) : zg_up P a k x a k = x := by simp [zg_up]
theorem zg_up_off (P : zg_P) (a k : Nat) (x : Option Nat) {j : Nat} (h : j ≠ k) : zg_up P a k x a j = P a j := by simp [zg_up, h]
theorem zg_up_out (P : zg_P) (a k : Nat) (x : Option Nat) {b : Nat} (h : b ≠ a) : zg_up P a k x b = P b := by funext j; simp [zg_up, h]
theorem zg_puti {ix ci k a : Nat} {x : Int} (hd : decode μ.2.1 pc = .ok (.putfield ix, 3)) (hf : zn_F μ.1.cls ix ci k) (hfin : (zn_T ci k).2.2.2 = false) (ha : a < N) (hk : K a = (0, ci)) (ht : zn_ty ci k = .int)
    (kk : zg_G Γ Ξ μ R Ω bc bs (pc + 3) ls st K N P (zg_u V a k x)) : zg_G Γ Ξ μ R Ω bc bs pc ls (zg_i x :: zg_r Γ a :: st) K N P V :=
  zg_put hd hf hfin ha hk (by rw [ht]; rfl) (by rw [ht]; rfl) (by rw [ht, zg_u_in]; rfl) (fun y hy => ⟨zg_u_off V a k x hy, rfl⟩) (fun y hy => ⟨zg_u_out V a k x hy, rfl⟩) kk
theorem zg_putz {ix ci k a : Nat} {x : Int} (hd : decode μ.2.1 pc = .ok (.putfield ix, 3)) (hf : zn_F μ.1.cls ix ci k) (hfin : (zn_T ci k).2.2.2 = false) (ha : a < N) (hk : K a = (0, ci)) (ht : zn_ty ci k = .boolean) (hx : x = 0 ∨ x = 1)
    (kk : zg_G Γ Ξ μ R Ω bc bs (pc + 3) ls st K N P (zg_u V a k x)) : zg_G Γ Ξ μ R Ω bc bs pc ls (zg_i x :: zg_r Γ a :: st) K N P V :=
  zg_put hd hf hfin ha hk (by rw [ht]; rcases hx with rfl | rfl <;> rfl) (by rw [ht]; rcases hx with rfl | rfl <;> rfl) (by rw [ht, zg_u_in]; rfl) (fun y hy => ⟨zg_u_off V a k x hy, rfl⟩) (fun y hy => ⟨zg_u_out V a k x hy, rfl⟩) kk
theorem zg_putl {ix ci k a : Nat} {x : Int} (hd : decode μ.2.1 pc = .ok (.putfield ix, 3)) (hf : zn_F μ.1.cls ix ci k) (hfin : (zn_T ci k).2.2.2 = false) (ha : a < N) (hk : K a = (0, ci)) (ht : zn_ty ci k = .long)
    (kk : zg_G Γ Ξ μ R Ω bc bs (pc + 3) ls st K N P (zg_u V a k x)) : zg_G Γ Ξ μ R Ω bc bs pc ls (zg_l x :: zg_r Γ a :: st) K N P V :=
  zg_put hd hf hfin ha hk (by rw [ht]; rfl) (by rw [ht]; rfl) (by rw [ht, zg_u_in]; rfl) (fun y hy => ⟨zg_u_off V a k x hy, rfl⟩) (fun y hy => ⟨zg_u_out V a k x hy, rfl⟩) kk
theorem zg_putr {ix ci k a q : Nat} (hd : decode μ.2.1 pc = .ok (.putfield ix, 3)) (hf : zn_F μ.1.cls ix ci k) (hfin : (zn_T ci k).2.2.2 = false) (ha : a < N) (hk : K a = (0, ci)) (ht : (zn_ty ci k).isReference = true)
    (kk : zg_G Γ Ξ μ R Ω bc bs (pc + 3) ls st K N (zg_up P a k (some q)) V) : zg_G Γ Ξ μ R Ω bc bs pc ls (zg_r Γ q :: zg_r Γ a :: st) K N P V :=
  zg_put hd hf hfin ha hk (by generalize zn_ty ci k = ty at ht; cases ty <;> first | rfl | (simp [FieldType.isReference] at ht)) (by generalize zn_ty ci k = ty at ht; cases ty <;> first | rfl | (simp [FieldType.isReference] at ht)) (by rw [zg_fv_r ht, zg_up_in]; rfl) (fun y hy => ⟨rfl, zg_up_off P a k _ hy⟩) (fun y hy => ⟨rfl, zg_up_out P a k _ hy⟩) kk
/-! ### arrays -/
theorem zg_iald {a n j : Nat} {z : Int} (hd : decode μ.2.1 pc = .ok (.iaload, 1)) (ha : a < N) (hk : K a = (1, n)) (hz : z = (j : Int)) (hj : j < n) (hn : n ≤ 2147483648)
    (kk : zg_G Γ Ξ μ R Ω bc bs (pc + 1) ls (zg_i (V a j) :: st) K N P V) : zg_G Γ Ξ μ R Ω bc bs pc ls (zg_i z :: zg_r Γ a :: st) K N P V := by
  intro p e s m args below meth c H locs cells slots lz X Y
  refine va_iald X.1 X.2.1 X.2.2.2.2.2.2.2.2.1.1 Y.2.1.1 a 0 (by rw [zg_w_at _ _ _ _ ha, zg_e1 hk]) zg_tys_at.1 (zg_in hz hj hn) hd ?_
  rw [zg_nat hz (by omega)]
  exact kk p e s m args below meth c H locs cells slots lz X Y
theorem zg_lald {a n j : Nat} {z : Int} (hd : decode μ.2.1 pc = .ok (.laload, 1)) (ha : a < N) (hk : K a = (2, n)) (hz : z = (j : Int)) (hj : j < n) (hn : n ≤ 2147483648)
    (kk : zg_G Γ Ξ μ R Ω bc bs (pc + 1) ls (zg_l (V a j) :: st) K N P V) : zg_G Γ Ξ μ R Ω bc bs pc ls (zg_i z :: zg_r Γ a :: st) K N P V := by
  intro p e s m args below meth c H locs cells slots lz X Y
  refine va_lald X.1 X.2.1 X.2.2.2.2.2.2.2.2.1.1 Y.2.1.1 a 1 (by rw [zg_w_at _ _ _ _ ha, zg_e2 hk]) zg_tys_at.2.1 (zg_in hz hj hn) hd ?_
  rw [zg_nat hz (by omega)]
  exact kk p e s m args below meth c H locs cells slots lz X Y
theorem zg_zald {a n j : Nat} {z : Int} (hd : decode μ.2.1 pc = .ok (.baload, 1)) (ha : a < N) (hk : K a = (3, n)) (hz : z = (j : Int)) (hj : j < n) (hn : n ≤ 2147483648)
    (kk : zg_G Γ Ξ μ R Ω bc bs (pc + 1) ls (zg_i (V a j) :: st) K N P V) : zg_G Γ Ξ μ R Ω bc bs pc ls (zg_i z :: zg_r Γ a :: st) K N P V := by
  intro p e s m args below meth c H locs cells slots lz X Y
  refine va_zald X.1 X.2.1 X.2.2.2.2.2.2.2.2.1.1 Y.2.1.1 a 2 (by rw [zg_w_at _ _ _ _ ha, zg_e3 hk]) zg_tys_at.2.2 (zg_in hz hj hn) hd ?_
  rw [zg_nat hz (by omega)]
  exact kk p e s m args below meth c H locs cells slots lz X Y
theorem zg_aald {a n j t q : Nat} {z : Int} {ty : FieldType} (hd : decode μ.2.1 pc = .ok (.aaload, 1)) (ha : a < N) (hk : K a = (t + 4, n)) (ht : zn_ra[t]? = some ty) (hty : ty.isReference = true) (hz : z = (j : Int)) (hj : j < n) (hn : n ≤ 2147483648) (hq : P a j = some q)
    (kk : zg_G Γ Ξ μ R Ω bc bs (pc + 1) ls (zg_r Γ q :: st) K N P V) : zg_G Γ Ξ μ R Ω bc bs pc ls (zg_i z :: zg_r Γ a :: st) K N P V := by
  intro p e s m args below meth c H locs cells slots lz X Y
  have he : (zg_w Γ K N P V)[a]? = some (Γ.2.1 + a, .inl (Γ.2.2.2 (t + 3), n, .inr (.inr (.inr (.inr (fun j => (P a j).map (fun a => Γ.2.1 + a))))))) := by rw [zg_w_at _ _ _ _ ha, zg_e4 hk]
  refine W.aald (v := zg_r Γ q) (ty := ty) X.1 X.2.1 (Y.2.1.1 a _ he) ((X.2.2.2.2.2.2.2.2.1.1.2 (t + 3) _ (zg_tys_ra ht)).1 n (fun j => va_rf ((P a j).map (fun a => Γ.2.1 + a)))) hty (fun q => by cases q) (by show ¬ (Int32.ofInt z < 0 ∨ (arrV _ _ _).slots.size ≤ _); rw [arrV_size]; exact zg_in hz hj hn) (by show (arrV _ _ _).slots[_]? = _; rw [zg_nat hz (by omega), arrV_read _ _ hj]; show some (va_rf ((P a j).map _)) = _; rw [hq]; rfl) rfl rfl hd (kk p e s m args below meth c H locs cells slots lz X Y)
theorem zg_iast {a n j : Nat} {z x : Int} (hd : decode μ.2.1 pc = .ok (.iastore, 1)) (ha : a < N) (hk : K a = (1, n)) (hz : z = (j : Int)) (hj : j < n) (hn : n ≤ 2147483648)
    (kk : zg_G Γ Ξ μ R Ω bc bs (pc + 1) ls st K N P (zg_u V a j x)) : zg_G Γ Ξ μ R Ω bc bs pc ls (zg_i x :: zg_i z :: zg_r Γ a :: st) K N P V := by
  intro p e s m args below meth c H locs cells slots lz X Y
  have he : (zg_w Γ K N P V)[a]? = some (Γ.2.1 + a, .inl (Γ.2.2.2 0, n, .inl (fun j => Int32.ofInt (V a j)))) := by rw [zg_w_at _ _ _ _ ha, zg_e1 hk]
  have hD := zg_w_D Γ K N P V
  refine W.iast X.1 X.2.1 (Y.2.1.1 a _ he) ((X.2.2.2.2.2.2.2.2.1.1.2 0 _ zg_tys_at.1).1 n (fun j => .int (Int32.ofInt (V a j)))) (fun q => by cases q) (by show ¬ (Int32.ofInt z < 0 ∨ (arrV _ _ _).slots.size ≤ _); rw [arrV_size]; exact zg_in hz hj hn) rfl rfl hd fun H1 e1 e2 e3 => ?_
  rw [zg_nat hz (by omega)] at e1 ⊢
  have hP' := Y.2.1.1.set hD he (e := .inl (Γ.2.2.2 0, n, .inl (fun i => Int32.ofInt (zg_u V a j x a i)))) (H1 := H1) (by
    show H1[Γ.2.1 + a]? = some (vp_cell _ _)
    rw [e1, vp_cell_i, vp_cell_i, arrV_store]
    congr 2
    funext i
    by_cases hi : i = j
    · subst hi; simp [updV, zg_u]
    · simp [updV, zg_u, hi]) e3
  rw [zg_w_set (K' := K) (P' := P) (V' := zg_u V a j x) ha (by rw [zg_e1 hk]) (fun y hy => ⟨rfl, zg_u_out V a j x hy, rfl⟩)] at hP'
  exact kk p e s m args below meth c H1 _ cells slots lz X ⟨Y.1, zg_d_put Y.2.1 hP' e2, Y.2.2.1.put e2 e3 (hD.2 a _ he), Y.2.2.2⟩
theorem zg_last {a n j : Nat} {z x : Int} (hd : decode μ.2.1 pc = .ok (.lastore, 1)) (ha : a < N) (hk : K a = (2, n)) (hz : z = (j : Int)) (hj : j < n) (hn : n ≤ 2147483648)
    (kk : zg_G Γ Ξ μ R Ω bc bs (pc + 1) ls st K N P (zg_u V a j x)) : zg_G Γ Ξ μ R Ω bc bs pc ls (zg_l x :: zg_i z :: zg_r Γ a :: st) K N P V := by
  intro p e s m args below meth c H locs cells slots lz X Y
  have he : (zg_w Γ K N P V)[a]? = some (Γ.2.1 + a, .inl (Γ.2.2.2 1, n, .inr (.inl (fun j => Int64.ofInt (V a j))))) := by rw [zg_w_at _ _ _ _ ha, zg_e2 hk]
  have hD := zg_w_D Γ K N P V
  refine W.last X.1 X.2.1 (Y.2.1.1 a _ he) ((X.2.2.2.2.2.2.2.2.1.1.2 1 _ zg_tys_at.2.1).1 n (fun j => .long (Int64.ofInt (V a j)))) (fun q => by cases q) (by show ¬ (Int32.ofInt z < 0 ∨ (arrV _ _ _).slots.size ≤ _); rw [arrV_size]; exact zg_in hz hj hn) rfl rfl hd fun H1 e1 e2 e3 => ?_
  rw [zg_nat hz (by omega)] at e1 ⊢
  have hP' := Y.2.1.1.set hD he (e := .inl (Γ.2.2.2 1, n, .inr (.inl (fun i => Int64.ofInt (zg_u V a j x a i))))) (H1 := H1) (by
    show H1[Γ.2.1 + a]? = some (vp_cell _ _)
    rw [e1, vp_cell_l, vp_cell_l, arrV_store]
    congr 2
    funext i
    by_cases hi : i = j
    · subst hi; simp [updV, zg_u]
    · simp [updV, zg_u, hi]) e3
  rw [zg_w_set (K' := K) (P' := P) (V' := zg_u V a j x) ha (by rw [zg_e2 hk]) (fun y hy => ⟨rfl, zg_u_out V a j x hy, rfl⟩)] at hP'
  exact kk p e s m args below meth c H1 _ cells slots lz X ⟨Y.1, zg_d_put Y.2.1 hP' e2, Y.2.2.1.put e2 e3 (hD.2 a _ he), Y.2.2.2⟩
theorem zg_zast {a n j : Nat} {z x : Int} (hd : decode μ.2.1 pc = .ok (.bastore, 1)) (ha : a < N) (hk : K a = (3, n)) (hz : z = (j : Int)) (hj : j < n) (hn : n ≤ 2147483648) (hx : x = 0 ∨ x = 1)
    (kk : zg_G Γ Ξ μ R Ω bc bs (pc + 1) ls st K N P (zg_u V a j x)) : zg_G Γ Ξ μ R Ω bc bs pc ls (zg_i x :: zg_i z :: zg_r Γ a :: st) K N P V := by
  intro p e s m args below meth c H locs cells slots lz X Y
  have he : (zg_w Γ K N P V)[a]? = some (Γ.2.1 + a, .inl (Γ.2.2.2 2, n, .inl (fun j => Int32.ofInt (V a j)))) := by rw [zg_w_at _ _ _ _ ha, zg_e3 hk]
  have hD := zg_w_D Γ K N P V
  have hnx : narrow .boolean (.int (Int32.ofInt x)) = .int (Int32.ofInt x) := by rcases hx with rfl | rfl <;> rfl
  refine W.zast X.1 X.2.1 (Y.2.1.1 a _ he) ((X.2.2.2.2.2.2.2.2.1.1.2 2 _ zg_tys_at.2.2).1 n (fun j => .int (Int32.ofInt (V a j)))) (fun q => by cases q) (by show ¬ (Int32.ofInt z < 0 ∨ (arrV _ _ _).slots.size ≤ _); rw [arrV_size]; exact zg_in hz hj hn) rfl rfl hd fun H1 e1 e2 e3 => ?_
  rw [zg_nat hz (by omega)] at e1 ⊢
  have hP' := Y.2.1.1.set hD he (e := .inl (Γ.2.2.2 2, n, .inl (fun i => Int32.ofInt (zg_u V a j x a i)))) (H1 := H1) (by
    show H1[Γ.2.1 + a]? = some (vp_cell _ _)
    rw [e1, vp_cell_i, vp_cell_i, arrV_store]
    congr 2
    funext i
    by_cases hi : i = j
    · subst hi; simp [updV, zg_u, hnx]
    · simp [updV, zg_u, hi]) e3
  rw [zg_w_set (K' := K) (P' := P) (V' := zg_u V a j x) ha (by rw [zg_e3 hk]) (fun y hy => ⟨rfl, zg_u_out V a j x hy, rfl⟩)] at hP'
  exact kk p e s m args below meth c H1 _ cells slots lz X ⟨Y.1, zg_d_put Y.2.1 hP' e2, Y.2.2.1.put e2 e3 (hD.2 a _ he), Y.2.2.2⟩
/-! ### entry and end -/
def zg_en : List Value → List (Option Value)
  | [] => []
  | v :: vs => if v.category = 2 then some v :: none :: zg_en vs else some v :: zg_en vs
theorem zg_en_mem (n : Nat) : ∀ (vs : List Value) (o i : Nat) (v : Value), (zg_en vs ++ List.replicate n none)[i]? = some (some v) → (o + i, v) ∈ lv_args o vs
  | [], o, i, v, h => by
    simp [zg_en, List.getElem?_replicate] at h
  | x :: vs, o, i, v, h => by
    unfold zg_en at h
    unfold lv_args
    by_cases hc : x.category = 2
    · rw [if_pos hc] at h
      rw [if_pos hc]
      match i, h with
      | 0, h => simp at h; subst h; exact List.mem_cons_self
      | 1, h => simp at h
      | i + 2, h =>
        have h' : (zg_en vs ++ List.replicate n none)[i]? = some (some v) := by simpa using h
        have := zg_en_mem n vs (o + 2) i v h'
        rw [show o + (i + 2) = o + 2 + i by omega]
        exact List.mem_cons_of_mem _ this
    · rw [if_neg hc] at h
      rw [if_neg hc]
      match i, h with
      | 0, h => simp at h; subst h; exact List.mem_cons_self
      | i + 1, h =>
        have h' : (zg_en vs ++ List.replicate n none)[i]? = some (some v) := by simpa using h
        have := zg_en_mem n vs (o + 1) i v h'
        rw [show o + (i + 1) = o + 1 + i by omega]
        exact List.mem_cons_of_mem _ this
theorem zg_enter {args : List Value} (n : Nat) (hy : plainName μ.1.cls = true) (hl : (lg_sl args).length ≤ μ.2.2.1) (he : zg_en args ++ List.replicate n none = ls)
    (k : zg_G Γ (fun _ => True) μ (zg_rm d mc ms) (zg_Ω Γ Q mc ms) mc ms 0 ls [] K N P V) : zg_S Γ μ d mc ms args K N P V Q := by
  refine Met.ofW (cc := μ.2.1) (maxL := μ.2.2.1) (ret := μ.2.2.2) hy rfl ?_
  intro p e s m args' below meth c s₁ B hml hv
  obtain ⟨rfl, hT, hw⟩ := hv
  have hl' := lv_entry args (n := μ.2.2.1) hl
  have hts := atoms_spec (ws := zg_ws μ) B.pre
  rw [lg_entry_eq]
  refine k p e s m args.toArray below meth c s.heap [] 0 0 _ ⟨B.exec, B.bytes, hml, B.returns, B.notSynchronized, fun w hw => hts w (List.mem_cons_of_mem _ hw), findClass_of_methodNamed B.named, (name_of_methodNamed B.named B.method).1, hT, by rw [hw.2]; omega, trivial⟩ ⟨⟨hl'.1, hl'.2.1, fun i v hi => ?_⟩, hw, va_S.rf, by show 0 + mc ≤ mc; omega, by show 0 + ms ≤ ms; omega⟩
  rw [← he] at hi
  have := zg_en_mem n args 0 i v hi
  rw [Nat.zero_add] at this
  exact hl'.2.2 (i, v) this
theorem zg_ireturn {z : Int} (hd : decode μ.2.1 pc = .ok (.ireturn, 1)) (hr : μ.2.2.2 = some .int) (hQ : Q (some (zg_i z)) K N P V) : zg_G Γ Ξ μ (zg_rm d mc ms) (zg_Ω Γ Q mc ms) bc bs pc ls [zg_i z] K N P V := by
  intro p e s m args below meth c H locs cells slots lz X Y
  refine W.widen (k := mc) (n := ms) (by have : cells + bc ≤ mc := Y.2.2.2.1; omega) (by have : slots + bs ≤ ms := Y.2.2.2.2; omega) ?_
  exact W.iret (v := Int32.ofInt z) X.1 X.2.1 (X.2.2.2.1.trans hr) (fun t ht hW => ⟨⟨some (zg_i z), K, N, P, V, rfl, hQ, by rw [ht]; exact Y.2.1⟩, Y.2.2.1.F ht⟩) Y.2.2.1.2.2 hd X.2.2.2.2.1
theorem zg_zreturn {z : Int} (hd : decode μ.2.1 pc = .ok (.ireturn, 1)) (hr : μ.2.2.2 = some .boolean) (hz : z = 0 ∨ z = 1) (hQ : Q (some (zg_i z)) K N P V) : zg_G Γ Ξ μ (zg_rm d mc ms) (zg_Ω Γ Q mc ms) bc bs pc ls [zg_i z] K N P V := by
  intro p e s m args below meth c H locs cells slots lz X Y
  refine W.widen (k := mc) (n := ms) (by have : cells + bc ≤ mc := Y.2.2.2.1; omega) (by have : slots + bs ≤ ms := Y.2.2.2.2; omega) ?_
  exact W.zret (v := Int32.ofInt z) (ty := .boolean) X.1 X.2.1 (X.2.2.2.1.trans hr) (by rcases hz with rfl | rfl <;> rfl) (fun t ht hW => ⟨⟨some (zg_i z), K, N, P, V, rfl, hQ, by rw [ht]; exact Y.2.1⟩, Y.2.2.1.F ht⟩) Y.2.2.1.2.2 hd X.2.2.2.2.1
theorem zg_lreturn {z : Int} (hd : decode μ.2.1 pc = .ok (.lreturn, 1)) (hr : μ.2.2.2 = some .long) (hQ : Q (some (zg_l z)) K N P V) : zg_G Γ Ξ μ (zg_rm d mc ms) (zg_Ω Γ Q mc ms) bc bs pc ls [zg_l z] K N P V := by
  intro p e s m args below meth c H locs cells slots lz X Y
  refine W.widen (k := mc) (n := ms) (by have : cells + bc ≤ mc := Y.2.2.2.1; omega) (by have : slots + bs ≤ ms := Y.2.2.2.2; omega) ?_
  exact W.lret (v := Int64.ofInt z) X.1 X.2.1 (X.2.2.2.1.trans hr) (fun t ht hW => ⟨⟨some (zg_l z), K, N, P, V, rfl, hQ, by rw [ht]; exact Y.2.1⟩, Y.2.2.1.F ht⟩) Y.2.2.1.2.2 hd X.2.2.2.2.1
theorem zg_return (hd : decode μ.2.1 pc = .ok (.return_, 1)) (hr : μ.2.2.2 = none) (hQ : Q (none) K N P V) : zg_G Γ Ξ μ (zg_rm d mc ms) (zg_Ω Γ Q mc ms) bc bs pc ls [] K N P V := by
  intro p e s m args below meth c H locs cells slots lz X Y
  refine W.widen (k := mc) (n := ms) (by have : cells + bc ≤ mc := Y.2.2.2.1; omega) (by have : slots + bs ≤ ms := Y.2.2.2.2; omega) ?_
  exact W.vret X.1 X.2.1 (X.2.2.2.1.trans hr) (fun t ht hW => ⟨⟨none, K, N, P, V, rfl, hQ, by rw [ht]; exact Y.2.1⟩, Y.2.2.1.F ht⟩) Y.2.2.1.2.2 hd X.2.2.2.2.1
/-! ### calls -/
def zn_M (μ' : zg_M) (n : Nat) : Prop := Cond.initialized μ'.1.cls ∈ zn_TS ∧ Cond.code μ'.1 μ'.2.1 μ'.2.2.1 μ'.2.2.2 ∈ zn_TS ∧ (μ'.1.cls ≠ "java/lang/invoke/MethodHandle" ∧ μ'.1.cls ≠ "java/lang/invoke/VarHandle") ∧ (parseMethodDescriptor μ'.1.desc).map (fun d => d.parameters.length) = some n ∧ μ'.2.2.1 ≤ 15
theorem zg_words {args : Array Value} {s : State} {μ' : zg_M} (hts : ∀ w ∈ zn_TS, w.before args s = true) (hc : Cond.code μ'.1 μ'.2.1 μ'.2.2.1 μ'.2.2.2 ∈ zn_TS) : ∀ w ∈ zg_ws μ', ∀ (a' : Array Value) (U : State), s.WarmedH U.vm → w.before a' U = true := by
  intro w hw a' U hW
  have h1 : w ∈ zn_TS := by
    rcases List.mem_cons.mp hw with rfl | h
    · exact hc
    · exact h
  exact word_at hW (zn_good w h1) (hts w h1)
theorem zg_callB {args : Array Value} {s : State} {μ' : zg_M} {ix n d' mc' ms' : Nat} (hts : ∀ w ∈ zn_TS, w.before args s = true) (hm : zn_M μ' n) (hl : Cond.methodLink μ.1.cls ix μ'.1 ∈ zn_TS) (hfr : d' + 1 ≤ R.frames) (hlo : 34 + 36 * d' ≤ R.locals) :
    CallB R s args μ.1.cls ix μ'.1 μ'.2.1 μ'.2.2.1 μ'.2.2.2 (zg_ws μ') (zg_rm d' mc' ms') mc' ms' n := by
  obtain ⟨h1, h2, h3, h4, h5⟩ := hm
  refine ⟨rfl, rfl, hfr, ?_, zg_words hts h2, List.mem_cons_self, hts _ h2, hts _ h1, h3, fun sig h => ?_, hts _ hl⟩
  · show 8 + (μ'.2.2.1 + 11) + 36 * d' ≤ R.locals
    omega
  · rw [h] at h4
    exact (Option.some.inj h4).symm
theorem zg_blind {args : List Value} : FrameBlind (va_Pc args (fun U => zg_T Γ U ∧ zg_d Γ K N P V U.heap)) := fun a U g mk q => ⟨q.1, ⟨va_K.moved (u := U) (U := U.calling g mk a) (Vm.Alike.refl U.vm) q.2.1.1, zn_B_same (u := U) (U := U.calling g mk a) rfl q.2.1.2⟩, q.2.2⟩
theorem zg_call_core {p : Program} {e : Env} {s : State} {m : MethodId} {args : Array Value} {below : List Frame} {meth : Method} {c : Code} {H : Heap} {locs : List Loc} {cells slots mc' ms' : Nat} {lz : Array Slot} {st0 : List Value} {Q' : zg_Q} {aa : Array Value}
    (hr : va_Run p Γ.1 e R s m args below meth c H locs cells slots mc' ms' (F0 m pc lz st0) st (zg_F Γ Q' aa) (zg_A Γ)) (X : zg_X Γ Ξ μ p s m args meth c) (Y : zg_Y Γ μ.2.2.1 R bc bs ls K N P V s H locs cells slots lz) (hbc : mc' ≤ bc) (hbs : ms' ≤ bs)
    (kk : ∀ (r : Option Value) (K' : zg_K) (N' : Nat) (P' : zg_P) (V' : zg_V), Q' r K' N' P' V' → zg_G Γ Ξ μ R Ω (bc - mc') (bs - ms') (pc + 3) ls (r.toList ++ st) K' N' P' V') :
    W p Γ.1 e R s m args below meth c H locs cells slots (Ω below args s) (F0 m pc lz st0) := by
  intro T hT Xs
  obtain ⟨v, st₀, t, T', L, h0, X', hL, e1, e2, ⟨⟨r, K', N', P', V', hv, hq, hd⟩, hz, hk⟩, stp⟩ := hr T hT Xs
  cases hv
  rw [h0] at hz hk
  obtain ⟨hlh, hd0, hS, hc1, hc2⟩ := Y
  obtain ⟨t2, a1, b1⟩ := kk v K' N' P' V' hq p e s m args below meth c T'.heap (locs ++ L) (cells + mc') (slots + ms') lz X ⟨hlh, by rw [e1]; exact hd, ⟨Nat.le_trans hS.1 (by rw [e1]; exact hz), fun q h1 h2 => by rw [e1, hk q (Nat.lt_of_lt_of_le h1 hS.1) h2]; exact hS.2.1 q h1 h2, fun q hq => by
      rcases List.mem_append.mp hq with h | h
      · exact hS.2.2 q h
      · exact hL q h⟩, by omega, by omega⟩ T' rfl X'
  exact ⟨t2, stp t2 a1, b1⟩
theorem zg_invV {μ' : zg_M} {ix n d' mc' ms' a ci : Nat} {As stk : List Value} {Q' : zg_Q} (hd : decode μ.2.1 pc = .ok (.invokevirtual ix, 3)) (hm : zn_M μ' n) (hl : Cond.methodLink μ.1.cls ix μ'.1 ∈ zn_TS) (hi : Cond.instanceMethod μ'.1 ∈ zn_TS) (hs : Cond.selects μ'.1.cls μ'.1 μ'.1 ∈ zn_TS)
    (hS : zg_S Γ μ' d' mc' ms' (zg_r Γ a :: As) K N P V Q') (hfr : d' + 1 ≤ R.frames) (hlo : 34 + 36 * d' ≤ R.locals) (hbc : mc' ≤ bc) (hbs : ms' ≤ bs) (hn : As.length = n) (ha : a < N) (hk : K a = (0, ci)) (hci : ci < zn_nc) (hC : zn_C ci = μ'.1.cls) (hw : (st.map fun v => v.category).sum ≤ 8) (hstk : stk = As.reverse ++ zg_r Γ a :: st)
    (kk : ∀ (r : Option Value) (K' : zg_K) (N' : Nat) (P' : zg_P) (V' : zg_V), Q' r K' N' P' V' → zg_G Γ Ξ μ R Ω (bc - mc') (bs - ms') (pc + 3) ls (r.toList ++ st) K' N' P' V') : zg_G Γ Ξ μ R Ω bc bs pc ls stk K N P V := by
  intro p e s m args below meth c H locs cells slots lz X Y
  have hts := X.2.2.2.2.2.1
  have h1 := Y.2.2.2.1
  have h2 := Y.2.2.2.2
  have hrv := va_recv X.2.2.2.2.2.2.2.2.1.1 Y.2.1.1 (zn_cl_at ci hci) (show (zg_w Γ K N P V)[a]? = some (Γ.2.1 + a, .inr (ci, zg_fs Γ ci (V a) (P a))) by rw [zg_w_at _ _ _ _ ha, zg_e0 hk])
  exact zg_call_core (va_runV (C := μ'.1.cls) (b := Γ.2.1 + a) (As := As) (rest := st) ⟨X.1, X.2.1, X.2.2.1, X.2.2.2.2.2.2.1, hts⟩ hS ⟨zg_callB hts hm hl hfr hlo, hts _ hi, hts _ hs⟩ ⟨zg_blind, by rw [← hC]; exact hrv, fun U hU hW => ⟨rfl, zg_T_warm hW X.2.2.2.2.2.2.2.2.1, by rw [hU]; exact Y.2.1⟩⟩ rfl hn Y.1.1 hstk (lv_room hw) hd ⟨by omega, by omega⟩) X Y hbc hbs kk
theorem zg_invS {μ' : zg_M} {ix n d' mc' ms' : Nat} {As stk : List Value} {Q' : zg_Q} (hd : decode μ.2.1 pc = .ok (.invokestatic ix, 3)) (hm : zn_M μ' n) (hl : Cond.methodLink μ.1.cls ix μ'.1 ∈ zn_TS) (hi : Cond.static μ'.1 ∈ zn_TS)
    (hS : zg_S Γ μ' d' mc' ms' As K N P V Q') (hfr : d' + 1 ≤ R.frames) (hlo : 34 + 36 * d' ≤ R.locals) (hbc : mc' ≤ bc) (hbs : ms' ≤ bs) (hn : As.length = n) (hw : (st.map fun v => v.category).sum ≤ 8) (hstk : stk = As.reverse ++ st)
    (kk : ∀ (r : Option Value) (K' : zg_K) (N' : Nat) (P' : zg_P) (V' : zg_V), Q' r K' N' P' V' → zg_G Γ Ξ μ R Ω (bc - mc') (bs - ms') (pc + 3) ls (r.toList ++ st) K' N' P' V') : zg_G Γ Ξ μ R Ω bc bs pc ls stk K N P V := by
  intro p e s m args below meth c H locs cells slots lz X Y
  have hts := X.2.2.2.2.2.1
  have h1 := Y.2.2.2.1
  have h2 := Y.2.2.2.2
  exact zg_call_core (va_runS (As := As) (rest := st) ⟨X.1, X.2.1, X.2.2.1, X.2.2.2.2.2.2.1, hts⟩ hS ⟨zg_callB hts hm hl hfr hlo, hts _ hi⟩ ⟨zg_blind, fun U hU hW => ⟨rfl, zg_T_warm hW X.2.2.2.2.2.2.2.2.1, by rw [hU]; exact Y.2.1⟩⟩ rfl hn Y.1.1 hstk (lv_room hw) hd ⟨by omega, by omega⟩) X Y hbc hbs kk
/-- a method whose picture may be weakened -/
theorem zg_S.mono {Q' : zg_Q} {args : List Value} (h : zg_S Γ μ d mc ms args K N P V Q) (hq : ∀ r K' N' P' V', Q r K' N' P' V' → Q' r K' N' P' V') : zg_S Γ μ d mc ms args K N P V Q' := by
  unfold zg_S Met at h ⊢
  refine Jvm.Free.MetFree.mono h (fun _ _ q => q) (fun _ _ _ _ _ q => q) ?_
  rintro a u o t - ⟨⟨⟨r, K', N', P', V', hv, hq', hd⟩, hf⟩, hL⟩
  exact ⟨⟨⟨r, K', N', P', V', hv, hq _ _ _ _ _ hq', hd⟩, hf⟩, hL⟩
end ZM
