/-! rules that make cells -/
def zn_d (ty : FieldType) : Bool := match ty with
  | .int => true
  | .long => true
  | .boolean => true
  | .object _ => true
  | .array _ => true
  | _ => false
theorem zn_dk : ∀ ci, ci < zn_nc → ∀ j, j < zn_n ci → zn_d (zn_ty ci j) = true := by decide +kernel
theorem zg_fv_0 {Γ : zg_C} {ty : FieldType} (h : zn_d ty = true) : zg_fv Γ ty 0 none = defaultValue ty := by
  cases ty <;> first | rfl | cases h
section ZN81
variable {Γ : zg_C} {Ξ : State → Prop} {μ : zg_M} {R : Room} {Ω : List Frame → Array Value → State → State → Prop} {bc bs pc N : Nat} {ls : List (Option Value)} {st : List Value} {K : zg_K} {P : zg_P} {V : zg_V}
theorem zg_w_s (Γ : zg_C) (K : zg_K) (N : Nat) (P : zg_P) (V : zg_V) : zg_w Γ K (N + 1) P V = zg_w Γ K N P V ++ [(Γ.2.1 + N, zg_e Γ (K N) (V N) (P N))] := by
  simp [zg_w, List.range_succ]
theorem zg_d_1 {H H1 : Heap} (hd : zg_d Γ K N P V H) (z : H1.size = H.size + 1) (o : ∀ q, q < H.size → H1[q]? = H[q]?) (hn : va_at Γ.2.2.1 zn_cl (Γ.2.1 + N, zg_e Γ (K N) (V N) (P N)) H1) : zg_d Γ K (N + 1) P V H1 := by
  obtain ⟨hP, hs⟩ := hd
  refine ⟨?_, by rw [z, hs]; omega⟩
  rw [zg_w_s]
  refine (hP.kept (fun k x hx => o x.1 ((hP k x hx).lt))).app (fun k x hx => ?_)
  have hz : k < 1 := (List.getElem?_eq_some_iff.mp hx).1
  rw [show k = 0 by omega] at hx
  cases hx
  exact hn
theorem va_S_1 {A : Nat → Prop} {H0 H H1 : Heap} {locs : List Loc} (hS : va_S A H0 H locs) (z : H1.size = H.size + 1) (o : ∀ q, q < H.size → H1[q]? = H[q]?) : va_S A H0 H1 locs :=
  ⟨Nat.le_trans hS.1 (by omega), fun x h1 h2 => (o x (Nat.lt_of_lt_of_le h1 hS.1)).trans (hS.2.1 x h1 h2), hS.2.2⟩
/-- a new object -/
theorem zg_new {ix ci : Nat} (hd : decode μ.2.1 pc = .ok (.new ix, 3)) (hci : ci < zn_nc) (hcl : Cond.classLink μ.1.cls ix (zn_C ci) ∈ zn_TS) (hins : Cond.instantiable (zn_C ci) (zn_n ci) ∈ zn_TS) (hini : Cond.initialized (zn_C ci) ∈ zn_TS) (hK : K N = (0, ci)) (hV : ∀ j, V N j = 0) (hP : ∀ j, P N j = none) (hbc : 1 ≤ bc) (hbs : zn_n ci ≤ bs)
    (kk : zg_G Γ Ξ μ R Ω (bc - 1) (bs - zn_n ci) (pc + 3) ls (zg_r Γ N :: st) K (N + 1) P V) : zg_G Γ Ξ μ R Ω bc bs pc ls st K N P V := by
  intro p e s m args below meth c H locs cells slots lz X Y
  have hts := X.2.2.2.2.2.1
  have hc := zn_cl_at ci hci
  have hKn := X.2.2.2.2.2.2.2.2.1.1.1 ci _ hc
  have h1 := Y.2.2.2.1
  have h2 := Y.2.2.2.2
  refine W.newcK X.1 X.2.1 X.2.2.2.2.2.2.1 (hts _ hcl) (hts _ hins) (hts _ hini) rfl hd (by omega) (by omega) hKn.2.1 Y.2.1.2 fun H1 kC hkC e1 z1 o1 => ?_
  rw [← Y.2.1.2] at z1 o1
  refine kk p e s m args below meth c H1 locs (cells + 1) (slots + zn_n ci) lz X ⟨Y.1, zg_d_1 Y.2.1 z1 o1 ?_, va_S_1 Y.2.2.1 z1 o1, by omega, by omega⟩
  rw [hK]
  refine ⟨_, hc, (u_born (zn_ty ci) hts (zn_uws ci hci) hKn hkC e1 (zn_tyok ci hci)).to (fun j hj => ?_)⟩
  show _ = (zg_fs Γ ci (V N) (P N)).getD j .null
  rw [List.getD_eq_getElem?_getD, zg_fs_at Γ hj, hV, hP, Option.getD_some, zg_fv_0 (zn_dk ci hci j hj)]
theorem zg_newi {n : Nat} {z : Int} (hd : decode μ.2.1 pc = .ok (.newarray .int, 2)) (hK : K N = (1, n)) (hz : z = (n : Int)) (hn : n ≤ 1000) (hV : ∀ j, V N j = 0) (hbc : 1 ≤ bc) (hbs : n ≤ bs)
    (kk : zg_G Γ Ξ μ R Ω (bc - 1) (bs - n) (pc + 2) ls (zg_r Γ N :: st) K (N + 1) P V) : zg_G Γ Ξ μ R Ω bc bs pc ls (zg_i z :: st) K N P V := by
  intro p e s m args below meth c H locs cells slots lz X Y
  have h1 := Y.2.2.2.1
  have h2 := Y.2.2.2.2
  refine va_newaK (atype := .int) (n := Int32.ofInt z) (N := n) X.1 X.2.1 (X.2.2.2.2.2.1 _ zw_52) rfl hd rfl (by rw [zg_lt0 (by omega)]; omega) (zg_nat hz (by omega)) (by show n * 4 ≤ _; omega) (by omega) (by omega) Y.2.1.2 fun H1 cA e1 z1 o1 _ hnm => ?_
  rw [← Y.2.1.2] at z1 o1
  have hcA : cA = Γ.2.2.2 0 := Option.some.inj (hnm.symm.trans (va_nm_int (X.2.2.2.2.2.2.2.2.1.1.2 0 _ zg_tys_at.1).2))
  refine kk p e s m args below meth c H1 locs (cells + 1) (slots + n) lz X ⟨Y.1, zg_d_1 Y.2.1 z1 o1 ?_, va_S_1 Y.2.2.1 z1 o1, by omega, by omega⟩
  rw [hK]
  show H1[Γ.2.1 + N]? = some (arrV (Γ.2.2.2 0) n (fun j => .int (Int32.ofInt (V N j))))
  rw [e1, hcA]
  congr 2
  funext j
  rw [hV]
  rfl
theorem zg_newl {n : Nat} {z : Int} (hd : decode μ.2.1 pc = .ok (.newarray .long, 2)) (hK : K N = (2, n)) (hz : z = (n : Int)) (hn : n ≤ 1000) (hV : ∀ j, V N j = 0) (hbc : 1 ≤ bc) (hbs : n ≤ bs)
    (kk : zg_G Γ Ξ μ R Ω (bc - 1) (bs - n) (pc + 2) ls (zg_r Γ N :: st) K (N + 1) P V) : zg_G Γ Ξ μ R Ω bc bs pc ls (zg_i z :: st) K N P V := by
  intro p e s m args below meth c H locs cells slots lz X Y
  have h1 := Y.2.2.2.1
  have h2 := Y.2.2.2.2
  refine va_newaK (atype := .long) (n := Int32.ofInt z) (N := n) X.1 X.2.1 (X.2.2.2.2.2.1 _ zw_744) rfl hd rfl (by rw [zg_lt0 (by omega)]; omega) (zg_nat hz (by omega)) (by show n * 8 ≤ _; omega) (by omega) (by omega) Y.2.1.2 fun H1 cA e1 z1 o1 _ hnm => ?_
  rw [← Y.2.1.2] at z1 o1
  have hcA : cA = Γ.2.2.2 1 := Option.some.inj (hnm.symm.trans (va_nm_long (X.2.2.2.2.2.2.2.2.1.1.2 1 _ zg_tys_at.2.1).2))
  refine kk p e s m args below meth c H1 locs (cells + 1) (slots + n) lz X ⟨Y.1, zg_d_1 Y.2.1 z1 o1 ?_, va_S_1 Y.2.2.1 z1 o1, by omega, by omega⟩
  rw [hK]
  show H1[Γ.2.1 + N]? = some (arrV (Γ.2.2.2 1) n (fun j => .long (Int64.ofInt (V N j))))
  rw [e1, hcA]
  congr 2
  funext j
  rw [hV]
  rfl
theorem zg_newz {n : Nat} {z : Int} (hd : decode μ.2.1 pc = .ok (.newarray .boolean, 2)) (hK : K N = (3, n)) (hz : z = (n : Int)) (hn : n ≤ 1000) (hV : ∀ j, V N j = 0) (hbc : 1 ≤ bc) (hbs : n ≤ bs)
    (kk : zg_G Γ Ξ μ R Ω (bc - 1) (bs - n) (pc + 2) ls (zg_r Γ N :: st) K (N + 1) P V) : zg_G Γ Ξ μ R Ω bc bs pc ls (zg_i z :: st) K N P V := by
  intro p e s m args below meth c H locs cells slots lz X Y
  have h1 := Y.2.2.2.1
  have h2 := Y.2.2.2.2
  refine va_newaK (atype := .boolean) (n := Int32.ofInt z) (N := n) X.1 X.2.1 (X.2.2.2.2.2.1 _ zw_745) rfl hd rfl (by rw [zg_lt0 (by omega)]; omega) (zg_nat hz (by omega)) (by show n * 1 ≤ _; omega) (by omega) (by omega) Y.2.1.2 fun H1 cA e1 z1 o1 _ hnm => ?_
  rw [← Y.2.1.2] at z1 o1
  have hcA : cA = Γ.2.2.2 2 := Option.some.inj (hnm.symm.trans (va_nm_boolean (X.2.2.2.2.2.2.2.2.1.1.2 2 _ zg_tys_at.2.2).2))
  refine kk p e s m args below meth c H1 locs (cells + 1) (slots + n) lz X ⟨Y.1, zg_d_1 Y.2.1 z1 o1 ?_, va_S_1 Y.2.2.1 z1 o1, by omega, by omega⟩
  rw [hK]
  show H1[Γ.2.1 + N]? = some (arrV (Γ.2.2.2 2) n (fun j => .int (Int32.ofInt (V N j))))
  rw [e1, hcA]
  congr 2
  funext j
  rw [hV]
  rfl
/-- a final field -/
theorem zg_putF {ix ci k a q : Nat} (hd : decode μ.2.1 pc = .ok (.putfield ix, 3)) (hf : zn_F μ.1.cls ix ci k) (hfin : (zn_T ci k).2.2.2 = true) (hdecl : (zn_T ci k).1 = μ.1.cls) (hnm : μ.1.name = "<init>") (ha : a < N) (hk : K a = (0, ci)) (ht : (zn_ty ci k).isReference = true)
    (kk : zg_G Γ Ξ μ R Ω bc bs (pc + 3) ls st K N (zg_up P a k (some q)) V) : zg_G Γ Ξ μ R Ω bc bs pc ls (zg_r Γ q :: zg_r Γ a :: st) K N P V := by
  intro p e s m args below meth c H locs cells slots lz X Y
  obtain ⟨h1, h2, h3, h4⟩ := hf
  have hts := X.2.2.2.2.2.1
  have hin : ∀ w ∈ u_ws (zn_C ci) (zn_T ci) (zn_n ci), w ∈ zn_TS := zn_uws ci h1
  have hK := X.2.2.2.2.2.2.2.2.1.1
  have he : (zg_w Γ K N P V)[a]? = some (Γ.2.1 + a, .inr (ci, zg_fs Γ ci (V a) (P a))) := by rw [zg_w_at _ _ _ _ ha, zg_e0 hk]
  have hfit : fits (zn_ty ci k) (zg_r Γ q) = true := by
    revert ht
    cases zn_ty ci k <;> intro ht <;> first | rfl | (simp [FieldType.isReference] at ht)
  have hnar : narrow (zn_ty ci k) (zg_r Γ q) = zg_r Γ q := by
    revert ht
    cases zn_ty ci k <;> intro ht <;> first | rfl | (simp [FieldType.isReference] at ht)
  have hP := Y.2.1.1
  have hD := zg_w_D Γ K N P V
  have hc := zn_cl_at ci h1
  have hap := va_apart (own := μ.1.cls) hts hin (zn_ty ci) (zn_tyok ci h1) (zn_nm ci h1) hK hc
  obtain ⟨r, g1, cell, q1, q2, q3, q4⟩ := hP a _ he
  have hr : r = (zn_C ci, zn_T ci, zn_n ci) := Option.some.inj (g1.symm.trans hc)
  subst hr
  obtain ⟨hS, hfc, kC, hkC, hkind⟩ := hK.1 ci _ hc
  obtain ⟨cf, kf, fi, f, hi, hsl⟩ := hS k h2
  have hlay := hts _ (hin _ (u_in_lay h2))
  unfold u_lay at hlay
  rw [if_pos hfin] at hlay
  have hst := (u_facts hfc hkC (u_lays hts hin h2) hi).1
  have hown := X.2.2.2.2.2.2.1
  have hcf : m.cls = cf := by
    obtain ⟨_, _, c', _, _, _, -, -, hf', -, -, -, hown2, -⟩ := Cond.laysFinal_spec hlay
    have e1 : c' = cf := by have := hi.symm.trans hf'; simp at this; exact this.1.symm
    rw [hdecl] at hown2
    rw [← e1]; exact Option.some.inj (hown.symm.trans hown2)
  have h6 := u_fits hfc hkC hkind (Or.inr hlay) hi (zn_tyok ci h1 k h2) hnar hfit
  refine W.putFinK X.1 X.2.1 hown (hts _ h4) (by rw [h3] at hi; exact hi) hst hcf (X.2.2.2.2.2.2.2.1.trans hnm) (by rw [q2]; exact h6) q1 q3 (by rw [hsl]; exact k2_hasslot (q4 k h2)) rfl rfl hd fun H' e1 e2 e3 => ?_
  rw [hsl] at e1 ⊢
  have hP' := hP.set (e := .inr (ci, (zg_fs Γ ci (V a) (P a)).set k (zg_r Γ q))) (H1 := H') hD he ⟨_, hc, t_OB.to (V := updV (vp_V (zg_fs Γ ci (V a) (P a))) k (zg_r Γ q)) ⟨_, e1, q2, q3, t_set q4 hap h2 (zg_r Γ q)⟩ (fun j _ => vp_updV_set (by rw [zg_fs_len]; exact h2) (zg_r Γ q) j)⟩ e3
  have hv : zg_fv Γ (zn_ty ci k) (V a k) (zg_up P a k (some q) a k) = zg_r Γ q := by rw [zg_fv_r ht, zg_up_in]; rfl
  rw [zg_fs_set (z' := V a) (r' := zg_up P a k (some q) a) h2 hv (fun x hx => ⟨rfl, zg_up_off _ _ _ _ hx⟩), zg_w_set (K' := K) (P' := zg_up P a k (some q)) (V' := V) ha (by rw [zg_e0 hk]) (fun x hx => ⟨rfl, rfl, zg_up_out _ _ _ _ hx⟩)] at hP'
  exact kk p e s m args below meth c H' _ cells slots lz X ⟨Y.1, zg_d_put Y.2.1 hP' e2, Y.2.2.1.put e2 e3 (hD.2 a _ he), Y.2.2.2⟩
/-- a constructor's call -/
theorem zg_invI {μ' : zg_M} {ix n d' mc' ms' a : Nat} {As stk : List Value} {Q' : zg_Q} (hd : decode μ.2.1 pc = .ok (.invokespecial ix, 3)) (hm : zn_M μ' n) (hret : μ'.2.2.2 = none) (hl : Cond.methodLink μ.1.cls ix μ'.1 ∈ zn_TS) (hi : Cond.instanceMethod μ'.1 ∈ zn_TS) (hnm : μ'.1.name = "<init>")
    (hS : zg_S Γ μ' d' mc' ms' (zg_r Γ a :: As) K N P V Q') (hfr : d' + 1 ≤ R.frames) (hlo : 34 + 36 * d' ≤ R.locals) (hbc : mc' ≤ bc) (hbs : ms' ≤ bs) (hn : As.length = n) (hw : (st.map fun v => v.category).sum ≤ 8) (hstk : stk = As.reverse ++ zg_r Γ a :: st)
    (kk : ∀ (r : Option Value) (K' : zg_K) (N' : Nat) (P' : zg_P) (V' : zg_V), Q' r K' N' P' V' → zg_G Γ Ξ μ R Ω (bc - mc') (bs - ms') (pc + 3) ls (r.toList ++ st) K' N' P' V') : zg_G Γ Ξ μ R Ω bc bs pc ls stk K N P V := by
  intro p e s m args below meth c H locs cells slots lz X Y
  have hts := X.2.2.2.2.2.1
  have h1 := Y.2.2.2.1
  have h2 := Y.2.2.2.2
  have hcb := zg_callB (R := R) (mc' := mc') (ms' := ms') hts hm hl hfr hlo
  rw [hret] at hcb
  exact zg_call_core (va_runI (b := Γ.2.1 + a) (As := As) (rest := st) ⟨X.1, X.2.1, X.2.2.1, X.2.2.2.2.2.2.1, hts⟩ hS ⟨hcb, hnm, hts _ hi⟩ ⟨zg_blind, fun U hU hW => ⟨rfl, zg_T_warm hW X.2.2.2.2.2.2.2.2.1, by rw [hU]; exact Y.2.1⟩⟩ rfl hn Y.1.1 hstk (lv_room hw) hd ⟨by omega, by omega⟩) X Y hbc hbs kk
end ZN81
section ZN81b
variable {Γ : zg_C} {Ξ : State → Prop} {μ : zg_M} {R : Room} {Ω : List Frame → Array Value → State → State → Prop} {bc bs pc N : Nat} {ls : List (Option Value)} {st : List Value} {K : zg_K} {P : zg_P} {V : zg_V}
/-- a new array of references -/
theorem zg_newr {ix t n : Nat} {z : Int} {C : String} (hd : decode μ.2.1 pc = .ok (.anewarray ix, 3)) (hcl : Cond.classLink μ.1.cls ix C ∈ zn_TS) (hov : ∀ s, zn_B s → va_AO C s) (ht : zn_ra[t]? = some (.object C)) (hK : K N = (t + 4, n)) (hz : z = (n : Int)) (hn : n ≤ 1000) (hP : ∀ j, P N j = none) (hbc : 1 ≤ bc) (hbs : n ≤ bs)
    (kk : zg_G Γ Ξ μ R Ω (bc - 1) (bs - n) (pc + 3) ls (zg_r Γ N :: st) K (N + 1) P V) : zg_G Γ Ξ μ R Ω bc bs pc ls (zg_i z :: st) K N P V := by
  intro p e s m args below meth c H locs cells slots lz X Y
  have h1 := Y.2.2.2.1
  have h2 := Y.2.2.2.2
  have hN : (Int32.ofInt z).toNatClampNeg = n := zg_nat hz (by omega)
  refine W.anew (n := Int32.ofInt z) X.1 X.2.1 X.2.2.2.2.2.2.1 (X.2.2.2.2.2.1 _ hcl) (va_AO.use (hov s X.2.2.2.2.2.2.2.2.1.2)) rfl hd rfl (by rw [zg_lt0 (by omega)]; omega) (by rw [hN]; omega) (by omega) (by rw [hN]; omega) fun cA kA comp f1 f2 f3 f4 => ?_
  rw [hN]
  obtain ⟨kA', comp', -, -, -, hnm⟩ := (X.2.2.2.2.2.2.2.2.1.1.2 (t + 3) _ (zg_tys_ra ht)).2
  have hcA : cA = Γ.2.2.2 (t + 3) := Option.some.inj (f1.symm.trans hnm)
  generalize hH1 : H.push ({ cls := cA, slots := Array.replicate n .null, vm := .none } : Cell) = H1
  have z1 : H1.size = H.size + 1 := by rw [← hH1, Array.size_push]
  have e1 : H1[H.size]? = some (arrV cA n (fun _ => .null)) := by rw [← hH1, Array.getElem?_push_size, ← arrV_new]
  have o1 : ∀ q : Nat, q < H.size → H1[q]? = H[q]? := fun q hq => by rw [← hH1, Array.getElem?_push, if_neg (Nat.ne_of_lt hq)]
  have hs : H.size = Γ.2.1 + N := Y.2.1.2
  rw [hs]
  refine kk p e s m args below meth c H1 locs (cells + 1) (slots + n) lz X ⟨Y.1, zg_d_1 Y.2.1 z1 o1 ?_, va_S_1 Y.2.2.1 z1 o1, by omega, by omega⟩
  rw [hK]
  show H1[Γ.2.1 + N]? = some (arrV (Γ.2.2.2 (t + 3)) n (fun j => va_rf ((P N j).map (fun a => Γ.2.1 + a))))
  rw [← hs, e1, hcA]
  congr 2
  funext j
  rw [hP]
  rfl
/-- a reference into an array -/
theorem zg_aast {a n j t v ci : Nat} {z : Int} (hd : decode μ.2.1 pc = .ok (.aastore, 1)) (ha : a < N) (hk : K a = (t + 4, n)) (hci : ci < zn_nc) (ht : zn_ra[t]? = some (.object (zn_C ci))) (hv : v < N) (hkv : K v = (0, ci)) (hz : z = (j : Int)) (hj : j < n) (hn : n ≤ 2147483648)
    (kk : zg_G Γ Ξ μ R Ω bc bs (pc + 1) ls st K N (zg_up P a j (some v)) V) : zg_G Γ Ξ μ R Ω bc bs pc ls (zg_r Γ v :: zg_i z :: zg_r Γ a :: st) K N P V := by
  intro p e s m args below meth c H locs cells slots lz X Y
  have hK := X.2.2.2.2.2.2.2.2.1.1
  have hP := Y.2.1.1
  have hD := zg_w_D Γ K N P V
  have hc := zn_cl_at ci hci
  have hea : (zg_w Γ K N P V)[a]? = some (Γ.2.1 + a, .inl (Γ.2.2.2 (t + 3), n, .inr (.inr (.inr (.inr (fun x => (P a x).map (fun b => Γ.2.1 + b))))))) := by rw [zg_w_at _ _ _ _ ha, zg_e4 hk]
  have hev : (zg_w Γ K N P V)[v]? = some (Γ.2.1 + v, .inr (ci, zg_fs Γ ci (V v) (P v))) := by rw [zg_w_at _ _ _ _ hv, zg_e0 hkv]
  have hin := zg_in hz hj hn
  have hcl := zg_nat hz (by omega)
  have h0 : ¬ Int32.ofInt z < 0 := fun q => hin (Or.inl q)
  obtain ⟨r', hr', cellV, g1, g2, g3, -⟩ := hP v _ hev
  have hcls := (hK.1 ci _ hc).2
  obtain ⟨kA, comp, k1, k2, k3, -⟩ := (hK.2 (t + 3) _ (zg_tys_ra ht)).2
  have hcomp : comp = Γ.2.2.1.1 ci := Option.some.inj (k3.symm.trans hcls.1)
  subst hcomp
  obtain ⟨kC, hkC, -⟩ := hcls.2
  refine W.aast X.1 X.2.1 (hP a _ hea) (fun q h => by cases h) (fun h => by cases h) k1 k2 rfl hkC ⟨h0, by show _ < (arrV _ _ _).slots.size; rw [arrV_size, hcl]; exact hj⟩ g1 (fun q h => by rw [g3] at h; cases h) (by rw [g2]; exact hkC) (by rw [g2]; exact va_assign hcls) rfl rfl hd fun H1 e1 z1 oq => ?_
  have hP' := hP.set (e := .inl (Γ.2.2.2 (t + 3), n, .inr (.inr (.inr (.inr (fun x => (zg_up P a j (some v) a x).map (fun b => Γ.2.1 + b))))))) (H1 := H1) hD hea (by
    show H1[Γ.2.1 + a]? = some (vp_cell _ _)
    rw [e1]
    show some ((vp_cell _ _).setSlot _ _) = _
    rw [vp_cell_q, vp_cell_q, arrV_store, hcl]
    congr 2
    funext x
    by_cases q : x = j
    · subst q
      simp [updV, zg_up, va_rf]
    · simp [updV, zg_up, q]) oq
  rw [zg_w_set (K' := K) (P' := zg_up P a j (some v)) (V' := V) ha (by rw [zg_e4 hk]) (fun x hx => ⟨rfl, rfl, zg_up_out _ _ _ _ hx⟩)] at hP'
  exact kk p e s m args below meth c H1 _ cells slots lz X ⟨Y.1, zg_d_put Y.2.1 hP' z1, Y.2.2.1.put z1 oq (hD.2 a _ hea), Y.2.2.2⟩
end ZN81b
section ZN81c
variable {Γ : zg_C} {Ξ : State → Prop} {μ : zg_M} {R : Room} {Ω : List Frame → Array Value → State → State → Prop} {bc bs pc N : Nat} {ls : List (Option Value)} {st : List Value} {K : zg_K} {P : zg_P} {V : zg_V}
/-- the call of a nest mate's private constructor -/
theorem zg_invIN {μ' : zg_M} {host : String} {ix n d' mc' ms' a : Nat} {As stk : List Value} {Q' : zg_Q} (hd : decode μ.2.1 pc = .ok (.invokespecial ix, 3)) (hm : zn_M μ' n) (hret : μ'.2.2.2 = none) (hl : ∀ s, zn_B s → va_Nw (.methodLinkNest μ.1.cls ix μ'.1 host) s) (hi : Cond.instanceMethod μ'.1 ∈ zn_TS) (hnm : μ'.1.name = "<init>")
    (hS : zg_S Γ μ' d' mc' ms' (zg_r Γ a :: As) K N P V Q') (hfr : d' + 1 ≤ R.frames) (hlo : 34 + 36 * d' ≤ R.locals) (hbc : mc' ≤ bc) (hbs : ms' ≤ bs) (hn : As.length = n) (hw : (st.map fun v => v.category).sum ≤ 8) (hstk : stk = As.reverse ++ zg_r Γ a :: st)
    (kk : ∀ (r : Option Value) (K' : zg_K) (N' : Nat) (P' : zg_P) (V' : zg_V), Q' r K' N' P' V' → zg_G Γ Ξ μ R Ω (bc - mc') (bs - ms') (pc + 3) ls (r.toList ++ st) K' N' P' V') : zg_G Γ Ξ μ R Ω bc bs pc ls stk K N P V := by
  intro p e s m args below meth c H locs cells slots lz X Y
  have hts := X.2.2.2.2.2.1
  have h1 := Y.2.2.2.1
  have h2 := Y.2.2.2.2
  obtain ⟨m1, m2, m3, m4, m5⟩ := hm
  have hcn : va_CN R s args μ.1.cls ix μ'.1 host μ'.2.1 μ'.2.2.1 μ'.2.2.2 (zg_ws μ') (zg_rm d' mc' ms') mc' ms' n := by
    refine ⟨⟨rfl, rfl, hfr, ?_, zg_words hts m2, List.mem_cons_self⟩, hts _ m2, hts _ m1, m3, fun sig h => ?_, va_Nw.use rfl (hl s X.2.2.2.2.2.2.2.2.1.2)⟩
    · show 8 + (μ'.2.2.1 + 11) + 36 * d' ≤ R.locals
      omega
    · rw [h] at m4
      exact (Option.some.inj m4).symm
  rw [hret] at hcn
  exact zg_call_core (va_runIN (b := Γ.2.1 + a) (As := As) (rest := st) ⟨X.1, X.2.1, X.2.2.1, X.2.2.2.2.2.2.1, hts⟩ hS ⟨hcn, hnm, hts _ hi⟩ ⟨zg_blind, fun U hU hW => ⟨rfl, zg_T_warm hW X.2.2.2.2.2.2.2.2.1, by rw [hU]; exact Y.2.1⟩⟩ rfl hn Y.1.1 hstk (lv_room hw) hd ⟨by omega, by omega⟩) X Y hbc hbs kk
end ZN81c
theorem zf_set_o (V : zg_V) (a : Nat) (x y : Int) {b : Nat} (h : b ≠ a) : zf_set V a x y b = V b := by
  unfold zf_set
  rw [zg_u_out _ _ _ _ h, zg_u_out _ _ _ _ h]
section ZN81d
variable {Γ : zg_C} {Ξ : State → Prop} {μ : zg_M} {R : Room} {Ω : List Frame → Array Value → State → State → Prop} {bc bs pc N : Nat} {ls : List (Option Value)} {st : List Value} {K : zg_K} {P : zg_P} {V : zg_V}
theorem zg_obj {ix a : Nat} (hd : decode μ.2.1 pc = .ok (.invokespecial ix, 3)) (hl : Cond.methodLink μ.1.cls ix ⟨"java/lang/Object", "<init>", "()V"⟩ ∈ zn_TS) (hfr : 1 ≤ R.frames) (hlo : (st.map fun v => v.category).sum + 12 ≤ R.locals)
    (kk : zg_G Γ Ξ μ R Ω bc bs (pc + 3) ls st K N P V) : zg_G Γ Ξ μ R Ω bc bs pc ls (zg_r Γ a :: st) K N P V := by
  intro p e s m args below meth c H locs cells slots lz X Y
  have hts := X.2.2.2.2.2.1
  refine W.objInit X.1 X.2.1 X.2.2.2.2.2.2.1 (hts _ hl) (hts _ zw_21) (hts _ zw_22) rfl (by rw [X.2.2.1]; exact Y.1.1) rfl hd hfr (by show 2 * 0 + _ + 12 ≤ _; omega) ?_
  exact kk p e s m args below meth c H locs cells slots lz X Y
theorem zg_cI {μ' : zg_M} {ix d' mc' ms' a N' : Nat} {P' : zg_P} {V' : zg_V} (hd : decode μ.2.1 pc = .ok (.invokespecial ix, 3)) (hm : zn_M μ' 0) (hret : μ'.2.2.2 = none) (hl : Cond.methodLink μ.1.cls ix μ'.1 ∈ zn_TS) (hi : Cond.instanceMethod μ'.1 ∈ zn_TS) (hnm : μ'.1.name = "<init>")
    (hS : zg_S Γ μ' d' mc' ms' [zg_r Γ a] K N P V (zq_p K N' P' V' none)) (hfr : d' + 1 ≤ R.frames) (hlo : 34 + 36 * d' ≤ R.locals) (hbc : mc' ≤ bc) (hbs : ms' ≤ bs) (hw : (st.map fun v => v.category).sum ≤ 8)
    (kk : zg_G Γ Ξ μ R Ω (bc - mc') (bs - ms') (pc + 3) ls st K N' P' V') : zg_G Γ Ξ μ R Ω bc bs pc ls (zg_r Γ a :: st) K N P V :=
  zg_invI (As := []) hd hm hret hl hi hnm hS hfr hlo hbc hbs rfl hw rfl (fun r K1 N1 P1 V1 hq => by obtain ⟨rfl, rfl, rfl, rfl, rfl⟩ := hq; exact kk)
theorem zg_cIN {μ' : zg_M} {host : String} {ix d' mc' ms' a N' : Nat} {P' : zg_P} {V' : zg_V} (hd : decode μ.2.1 pc = .ok (.invokespecial ix, 3)) (hm : zn_M μ' 0) (hret : μ'.2.2.2 = none) (hl : ∀ s, zn_B s → va_Nw (.methodLinkNest μ.1.cls ix μ'.1 host) s) (hi : Cond.instanceMethod μ'.1 ∈ zn_TS) (hnm : μ'.1.name = "<init>")
    (hS : zg_S Γ μ' d' mc' ms' [zg_r Γ a] K N P V (zq_p K N' P' V' none)) (hfr : d' + 1 ≤ R.frames) (hlo : 34 + 36 * d' ≤ R.locals) (hbc : mc' ≤ bc) (hbs : ms' ≤ bs) (hw : (st.map fun v => v.category).sum ≤ 8)
    (kk : zg_G Γ Ξ μ R Ω (bc - mc') (bs - ms') (pc + 3) ls st K N' P' V') : zg_G Γ Ξ μ R Ω bc bs pc ls (zg_r Γ a :: st) K N P V :=
  zg_invIN (As := []) hd hm hret hl hi hnm hS hfr hlo hbc hbs rfl hw rfl (fun r K1 N1 P1 V1 hq => by obtain ⟨rfl, rfl, rfl, rfl, rfl⟩ := hq; exact kk)
end ZN81d

