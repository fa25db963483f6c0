/-! SplitSearch: sides and gains -/
theorem zt_w_16 {V : zg_V} {n : Nat} (hT : zt_T V n) (s : Nat) : 0 ≤ zt_w (V 20) s n ∧ zt_w (V 20) s n ≤ 16 := by
  obtain ⟨h1, h2, h3, h4, h5, h6⟩ := hT
  have h0 := (zt_w_b h5 h2 s).1
  refine ⟨h0, Int.le_trans (zs_sum_le (fun r hr => ?_)) h6⟩
  have := h5 r (by omega)
  split <;> omega
def zx_mx (f : Nat → Int) : Nat → Int
  | 0 => 0
  | c + 1 => if zx_mx f c < f c then f c else zx_mx f c
theorem zx_mx_s (f : Nat → Int) (c : Nat) : zx_mx f (c + 1) = if zx_mx f c < f c then f c else zx_mx f c := rfl
theorem zx_mx_b {f : Nat → Int} {m : Int} (hm : 0 ≤ m) : ∀ {c : Nat}, (∀ i, i < c → f i ≤ m) → 0 ≤ zx_mx f c ∧ zx_mx f c ≤ m
  | 0, _ => ⟨Int.le_refl 0, hm⟩
  | c + 1, h => by
    have ih := zx_mx_b hm (fun i hi => h i (by omega) : ∀ i, i < c → f i ≤ m)
    have hc := h c (by omega)
    rw [zx_mx_s]
    split <;> omega
theorem zx_mx_le (f : Nat → Int) : ∀ {c i : Nat}, i < c → f i ≤ zx_mx f c
  | 0, _, h => by omega
  | c + 1, i, h => by
    rw [zx_mx_s]
    by_cases e : i = c
    · subst e
      split <;> omega
    · have := zx_mx_le f (show i < c by omega)
      split <;> omega
theorem zx_mx_add (f g : Nat → Int) : ∀ c, zx_mx (fun i => f i + g i) c ≤ zx_mx f c + zx_mx g c
  | 0 => by show (0 : Int) ≤ 0 + 0; omega
  | c + 1 => by
    have ih := zx_mx_add f g c
    rw [zx_mx_s, zx_mx_s, zx_mx_s]
    split <;> split <;> split <;> omega
def zx_ab (z : Int) : Int := if 0 ≤ z then z else -z
def zx_top (cr : Int) (x y : Nat → Int) (l r : Int) : Int :=
  if cr = 0 then zs_sum (fun c => (x c * r - y c * l) * (x c * r - y c * l)) 4
  else if cr = 1 then zx_mx x 4 + zx_mx y 4 - zx_mx (fun c => x c + y c) 4
  else zs_sum (fun c => zx_ab (x c * r - y c * l)) 4 * zs_sum (fun c => zx_ab (x c * r - y c * l)) 4
def zx_bot (cr l r : Int) : Int := if cr = 1 then 1 else (l + r) * (l * r)
theorem zs_sum4 (f : Nat → Int) : zs_sum f 4 = f 0 + f 1 + f 2 + f 3 := by
  show 0 + f 0 + f 1 + f 2 + f 3 = _
  omega
theorem zx_sq (z : Int) : 0 ≤ z * z := by
  rcases Int.le_total 0 z with h | h
  · exact Int.mul_nonneg h h
  · have := Int.mul_nonneg (show 0 ≤ -z by omega) (show 0 ≤ -z by omega)
    rw [Int.neg_mul_neg] at this
    exact this
theorem zx_mul_b {a b A B : Int} (ha : 0 ≤ a ∧ a ≤ A) (hb : 0 ≤ b ∧ b ≤ B) : 0 ≤ a * b ∧ a * b ≤ A * B := by
  refine ⟨Int.mul_nonneg ha.1 hb.1, ?_⟩
  exact Int.mul_le_mul ha.2 hb.2 hb.1 (by omega)
theorem zx_d_b {a b l r : Int} (ha : 0 ≤ a ∧ a ≤ 16) (hb : 0 ≤ b ∧ b ≤ 16) (hl : 0 ≤ l ∧ l ≤ 16) (hr : 0 ≤ r ∧ r ≤ 16) : -256 ≤ a * r - b * l ∧ a * r - b * l ≤ 256 := by
  have h1 := zx_mul_b ha hr
  have h2 := zx_mul_b hb hl
  omega
theorem zx_sq_b {z : Int} (h : -256 ≤ z ∧ z ≤ 256) : 0 ≤ z * z ∧ z * z ≤ 65536 := by
  refine ⟨zx_sq z, ?_⟩
  rcases Int.le_total 0 z with q | q
  · have := (zx_mul_b (a := z) (b := z) ⟨q, h.2⟩ ⟨q, h.2⟩).2
    omega
  · have := (zx_mul_b (a := -z) (b := -z) (A := 256) (B := 256) ⟨by omega, by omega⟩ ⟨by omega, by omega⟩).2
    rw [Int.neg_mul_neg] at this
    omega
/-- the sides' weights are those of the rows -/
def zx_sd (V : zg_V) (x y : Nat → Int) (l r : Int) : Prop := (∀ c, c < 4 → V 207 c = x c ∧ V 208 c = y c ∧ (0 ≤ x c ∧ x c ≤ 16) ∧ (0 ≤ y c ∧ y c ≤ 16)) ∧ V 204 3 = l ∧ V 204 4 = r ∧ (0 ≤ l ∧ l ≤ 16) ∧ (0 ≤ r ∧ r ≤ 16)
theorem zx_top_b {cr l r : Int} {x y : Nat → Int} (hx : ∀ c, c < 4 → (0 ≤ x c ∧ x c ≤ 16) ∧ (0 ≤ y c ∧ y c ≤ 16)) (hl : 0 ≤ l ∧ l ≤ 16) (hr : 0 ≤ r ∧ r ≤ 16) : 0 ≤ zx_top cr x y l r ∧ zx_top cr x y l r ≤ 1048576 := by
  have d0 := zx_d_b (hx 0 (by decide)).1 (hx 0 (by decide)).2 hl hr
  have d1 := zx_d_b (hx 1 (by decide)).1 (hx 1 (by decide)).2 hl hr
  have d2 := zx_d_b (hx 2 (by decide)).1 (hx 2 (by decide)).2 hl hr
  have d3 := zx_d_b (hx 3 (by decide)).1 (hx 3 (by decide)).2 hl hr
  unfold zx_top
  split
  · rw [zs_sum4]
    have := zx_sq_b d0
    have := zx_sq_b d1
    have := zx_sq_b d2
    have := zx_sq_b d3
    omega
  · split
    · have h1 := zx_mx_b (f := x) (m := 16) (by decide) (c := 4) (fun i hi => (hx i hi).1.2)
      have h2 := zx_mx_b (f := y) (m := 16) (by decide) (c := 4) (fun i hi => (hx i hi).2.2)
      have h3 := zx_mx_add x y 4
      have h4 := zx_mx_b (f := fun c => x c + y c) (m := 32) (by decide) (c := 4) (fun i hi => by have := hx i hi; show x i + y i ≤ 32; omega)
      omega
    · rw [zs_sum4]
      have a0 : 0 ≤ zx_ab (x 0 * r - y 0 * l) ∧ zx_ab (x 0 * r - y 0 * l) ≤ 256 := by unfold zx_ab; split <;> omega
      have a1 : 0 ≤ zx_ab (x 1 * r - y 1 * l) ∧ zx_ab (x 1 * r - y 1 * l) ≤ 256 := by unfold zx_ab; split <;> omega
      have a2 : 0 ≤ zx_ab (x 2 * r - y 2 * l) ∧ zx_ab (x 2 * r - y 2 * l) ≤ 256 := by unfold zx_ab; split <;> omega
      have a3 : 0 ≤ zx_ab (x 3 * r - y 3 * l) ∧ zx_ab (x 3 * r - y 3 * l) ≤ 256 := by unfold zx_ab; split <;> omega
      have hz : 0 ≤ zx_ab (x 0 * r - y 0 * l) + zx_ab (x 1 * r - y 1 * l) + zx_ab (x 2 * r - y 2 * l) + zx_ab (x 3 * r - y 3 * l) ∧ zx_ab (x 0 * r - y 0 * l) + zx_ab (x 1 * r - y 1 * l) + zx_ab (x 2 * r - y 2 * l) + zx_ab (x 3 * r - y 3 * l) ≤ 1024 := by omega
      have := zx_mul_b hz hz
      omega
theorem zx_bot_b {cr l r : Int} (hl : 1 ≤ l ∧ l ≤ 16) (hr : 1 ≤ r ∧ r ≤ 16) : 1 ≤ zx_bot cr l r ∧ zx_bot cr l r ≤ 8192 := by
  unfold zx_bot
  split
  · omega
  · have h1 := zx_mul_b (a := l) (b := r) (A := 16) (B := 16) (by omega) (by omega)
    have h2 : 1 * 1 ≤ l * r := Int.mul_le_mul hl.1 hr.1 (by decide) (by omega)
    have h3 := zx_mul_b (a := l + r) (b := l * r) (A := 32) (B := 256) (by omega) (by omega)
    have h4 : 1 * 1 ≤ (l + r) * (l * r) := Int.mul_le_mul (by omega) (by omega) (by decide) (by omega)
    omega
section ZT7
variable {Γ : zg_C} {V : zg_V} {k sh : Nat}
theorem ct_sides {sp sl n : Nat} (hsp : sp < 65536) (hsl : sl < 65536) (hT : zt_T V n) : zg_S Γ zm_SplitSearch_weighSides 2 0 0 [zg_r Γ 204, zg_r Γ 1, zg_i sp, zg_i sl] zk_K 242 (zk_P sh) V (zq_r zk_K 242 (zk_P sh) (fun rr V' => rr = none ∧ zv_on (fun b => b = 204 ∨ b = 207 ∨ b = 208) V V' ∧ (∀ c, c < 4 → V' 207 c = zt_ms (V 19) (V 20) sl n c ∧ V' 208 c = zt_ms (V 19) (V 20) (zb_df sp sl) n c) ∧ V' 204 3 = zt_w (V 20) sl n ∧ V' 204 4 = zt_w (V 20) (zb_df sp sl) n)) := by
  have hn16 := hT.2.1
  have hsr : zb_df sp sl < 65536 := by
    apply Nat.lt_pow_two_of_testBit (n := 16)
    intro i hi
    have h16 : sp < 2 ^ 16 := hsp
    rw [zb_df_bit, Nat.testBit_lt_two_pow (show sp < 2 ^ i from Nat.lt_of_lt_of_le h16 (Nat.pow_le_pow_right (n := 2) (by decide) hi))]
    rfl
  have hc16 : ∀ (s : Nat) (c : Int), zt_cls (V 19) s c n < 65536 := fun s c => zs_mk_lt16 _ hn16
  generalize hQ : zq_r zk_K 242 (zk_P sh) (fun rr V' => rr = none ∧ zv_on (fun b => b = 204 ∨ b = 207 ∨ b = 208) V V' ∧ (∀ c, c < 4 → V' 207 c = zt_ms (V 19) (V 20) sl n c ∧ V' 208 c = zt_ms (V 19) (V 20) (zb_df sp sl) n c) ∧ V' 204 3 = zt_w (V 20) sl n ∧ V' 204 4 = zt_w (V 20) (zb_df sp sl) n) = Q
  refine zg_enter 2 (by decide) (Nat.le_of_ble_eq_true rfl) rfl ?_
  refine zg_il2 zd_SplitSearch_weighSides_0 ?_
  refine zg_il3 zd_SplitSearch_weighSides_1 ?_
  refine zg_iconst zd_SplitSearch_weighSides_2 ?_
  refine zg_ixorR zd_SplitSearch_weighSides_3 ?_
  refine zg_iand ((zb_df sp sl : Nat) : Int) zd_SplitSearch_weighSides_4 (zb_andnot sp sl) ?_
  refine zg_is4 zd_SplitSearch_weighSides_5 (fun w h => by cases h <;> rfl) (by decide) ?_
  refine zg_iconst zd_SplitSearch_weighSides_7 ?_
  refine zg_is5 zd_SplitSearch_weighSides_8 (fun w h => by cases h <;> rfl) (by decide) ?_
  have key : ∀ (j c : Nat) (W : zg_V) (hij : c + j = 4) (hW : zv_on (fun b => b = 204 ∨ b = 207 ∨ b = 208) V W) (hin : ∀ i, i < c → W 207 i = zt_ms (V 19) (V 20) sl n i ∧ W 208 i = zt_ms (V 19) (V 20) (zb_df sp sl) n i), zg_G Γ (fun _ => True) zm_SplitSearch_weighSides (zg_rm 2 0 0) (zg_Ω Γ (Q) 0 0) 0 0 10 [some (zg_r Γ (204)), some (zg_r Γ (1)), some (zg_i (sp)), some (zg_i (sl)), some (zg_i ((zb_df sp sl : Nat))), some (zg_i ((c : Nat)))] [] zk_K 242 (zk_P sh) (W) := by
    intro j
    induction j with
    | zero =>
      intro c W hij hW hin
      have e : c = 4 := by omega
      subst e
      have hTW := zt_T_fr (fun b hb => hW b (by omega)) hT
      have hW20 : W 20 = V 20 := hW 20 (by omega)
      have hTW2 : ∀ z, zt_T (zg_u W 204 3 z) n := fun z => zt_T_fr (fun b hb => by rw [zg_u_out _ _ _ _ (by omega)]; exact hW b (by omega)) hT
      refine zg_il5 zd_SplitSearch_weighSides_10 ?_
      refine zg_iconst zd_SplitSearch_weighSides_12 ?_
      refine zg_icmp_ge (tgt := 59) zd_SplitSearch_weighSides_13 (by decide) (by omega) (by omega) (fun b13 => ?_) (fun b13 => ?_)
      · refine zg_al0 zd_SplitSearch_weighSides_59 ?_
        refine zg_al1 zd_SplitSearch_weighSides_60 ?_
        refine zg_il3 zd_SplitSearch_weighSides_61 ?_
        refine zg_cVp1 zd_SplitSearch_weighSides_62 zM_Table_weightOf zw_450 zi_Table_weightOf zs_Table_weightOf (ct_weightOf hsl hTW) (by decide) (by decide) (by omega) (by first | assumption | rfl) (by decide) rfl (Nat.le_of_ble_eq_true rfl) ?_
        rw [hW20]
        refine zg_puti zd_SplitSearch_weighSides_65 zf_202 rfl (by omega) (by first | assumption | rfl) rfl ?_
        refine zg_al0 zd_SplitSearch_weighSides_68 ?_
        refine zg_al1 zd_SplitSearch_weighSides_69 ?_
        refine zg_il4 zd_SplitSearch_weighSides_70 ?_
        refine zg_cVp1 zd_SplitSearch_weighSides_72 zM_Table_weightOf zw_450 zi_Table_weightOf zs_Table_weightOf (ct_weightOf hsr (hTW2 _)) (by decide) (by decide) (by omega) (by first | assumption | rfl) (by decide) rfl (Nat.le_of_ble_eq_true rfl) ?_
        rw [zg_u_out _ _ _ _ (by decide), hW20]
        refine zg_puti zd_SplitSearch_weighSides_75 zf_203 rfl (by omega) (by first | assumption | rfl) rfl ?_
        refine zg_return zd_SplitSearch_weighSides_78 rfl ?_
        subst hQ
        refine ⟨rfl, rfl, rfl, rfl, zv_on_u (zv_on_u hW (Or.inl rfl)) (Or.inl rfl), fun i hi => ?_, ?_, ?_⟩
        · rw [zg_u_out _ _ _ _ (by decide), zg_u_out _ _ _ _ (by decide), zg_u_out _ _ _ _ (by decide), zg_u_out _ _ _ _ (by decide)]
          exact hin i hi
        · rw [zg_u_off _ _ _ _ (by decide), zg_u_in]
        · rw [zg_u_in]
      · omega
    | succ j ih =>
      intro c W hij hW hin
      have hTW := zt_T_fr (fun b hb => hW b (by omega)) hT
      have hW20 : W 20 = V 20 := hW 20 (by omega)
      have hW19 : W 19 = V 19 := hW 19 (by omega)
      have hTW2 : ∀ z, zt_T (zg_u W 207 c z) n := fun z => zt_T_fr (fun b hb => by rw [zg_u_out _ _ _ _ (by omega)]; exact hW b (by omega)) hT
      refine zg_il5 zd_SplitSearch_weighSides_10 ?_
      refine zg_iconst zd_SplitSearch_weighSides_12 ?_
      refine zg_icmp_ge (tgt := 59) zd_SplitSearch_weighSides_13 (by decide) (by omega) (by omega) (fun b13 => ?_) (fun b13 => ?_)
      · omega
      · refine zg_al0 zd_SplitSearch_weighSides_16 ?_
        refine zg_getr zd_SplitSearch_weighSides_17 zf_200 (by omega) (by first | assumption | rfl) rfl (by first | assumption | rfl) ?_
        refine zg_il5 zd_SplitSearch_weighSides_20 ?_
        refine zg_al1 zd_SplitSearch_weighSides_22 ?_
        refine zg_al1 zd_SplitSearch_weighSides_23 ?_
        refine zg_il3 zd_SplitSearch_weighSides_24 ?_
        refine zg_il5 zd_SplitSearch_weighSides_25 ?_
        refine zg_cVp2 zd_SplitSearch_weighSides_27 zM_Table_rowsInClass zw_449 zi_Table_rowsInClass zs_Table_rowsInClass (ct_rowsInClass hsl (by omega) hTW) (by decide) (by decide) (by omega) (by first | assumption | rfl) (by decide) rfl (Nat.le_of_ble_eq_true rfl) ?_
        rw [hW19]
        refine zg_cVp1 zd_SplitSearch_weighSides_30 zM_Table_weightOf zw_450 zi_Table_weightOf zs_Table_weightOf (ct_weightOf (hc16 _ _) hTW) (by decide) (by decide) (by omega) (by first | assumption | rfl) (by decide) rfl (Nat.le_of_ble_eq_true rfl) ?_
        rw [hW20]
        refine zg_iast zd_SplitSearch_weighSides_33 (by omega) (by first | assumption | rfl) rfl (by omega) (by decide) ?_
        refine zg_al0 zd_SplitSearch_weighSides_34 ?_
        refine zg_getr zd_SplitSearch_weighSides_35 zf_201 (by omega) (by first | assumption | rfl) rfl (by first | assumption | rfl) ?_
        refine zg_il5 zd_SplitSearch_weighSides_38 ?_
        refine zg_al1 zd_SplitSearch_weighSides_40 ?_
        refine zg_al1 zd_SplitSearch_weighSides_41 ?_
        refine zg_il4 zd_SplitSearch_weighSides_42 ?_
        refine zg_il5 zd_SplitSearch_weighSides_44 ?_
        refine zg_cVp2 zd_SplitSearch_weighSides_46 zM_Table_rowsInClass zw_449 zi_Table_rowsInClass zs_Table_rowsInClass (ct_rowsInClass hsr (by omega) (hTW2 _)) (by decide) (by decide) (by omega) (by first | assumption | rfl) (by decide) rfl (Nat.le_of_ble_eq_true rfl) ?_
        rw [zg_u_out _ _ _ _ (by decide), hW19]
        refine zg_cVp1 zd_SplitSearch_weighSides_49 zM_Table_weightOf zw_450 zi_Table_weightOf zs_Table_weightOf (ct_weightOf (hc16 _ _) (hTW2 _)) (by decide) (by decide) (by omega) (by first | assumption | rfl) (by decide) rfl (Nat.le_of_ble_eq_true rfl) ?_
        rw [zg_u_out _ _ _ _ (by decide), hW20]
        refine zg_iast zd_SplitSearch_weighSides_52 (by omega) (by first | assumption | rfl) rfl (by omega) (by decide) ?_
        refine zg_inc5 zd_SplitSearch_weighSides_53 (fun w h => by cases h <;> rfl) (by decide) ?_
        refine zg_goto (tgt := 10) zd_SplitSearch_weighSides_56 (by decide) ?_
        refine ih (c + 1) _ (by omega) (zv_on_u (zv_on_u hW (Or.inr (Or.inl rfl))) (Or.inr (Or.inr rfl))) (fun i hi => ?_)
        by_cases e : i = c
        · subst e
          rw [zg_u_out _ _ _ _ (by decide), zg_u_in, zg_u_in]
          exact ⟨rfl, rfl⟩
        · rw [zg_u_out _ _ _ _ (by decide), zg_u_off _ _ _ _ e, zg_u_off _ _ _ _ e, zg_u_out _ _ _ _ (by decide)]
          exact hin i (by omega)
  exact key 4 0 V (by omega) zv_on_rf (fun i hi => by omega)
theorem zx_sd_c {V : zg_V} {x y : Nat → Int} {l r : Int} (h : zx_sd V x y l r) {c : Nat} (hc : c < 4) : V 207 c = x c ∧ V 208 c = y c := ⟨(h.1 c hc).1, (h.1 c hc).2.1⟩
theorem ct_mMaj {x y : Nat → Int} {l r : Int} (h : zx_sd V x y l r) {t : Nat} (ht : (t : Int) = zx_top 1 x y l r) : zg_S Γ zm_SplitSearch_measureMajorities 2 0 0 [zg_r Γ 204] zk_K 242 (zk_P sh) V (zq_p zk_K 242 (zk_P sh) (zf_set V 209 ((t / Nat.gcd t 1 : Nat) : Int) ((1 / Nat.gcd t 1 : Nat) : Int)) none) := by
  have hb : 0 ≤ zx_top 1 x y l r ∧ zx_top 1 x y l r ≤ 1048576 := zx_top_b (fun c hc => ⟨(h.1 c hc).2.2.1, (h.1 c hc).2.2.2⟩) h.2.2.2.1 h.2.2.2.2
  have h1 : ∀ c, c ≤ 4 → 0 ≤ zx_mx x c ∧ zx_mx x c ≤ 16 := fun c hc => zx_mx_b (by decide) (fun i hi => (h.1 i (by omega)).2.2.1.2)
  have h2 : ∀ c, c ≤ 4 → 0 ≤ zx_mx y c ∧ zx_mx y c ≤ 16 := fun c hc => zx_mx_b (by decide) (fun i hi => (h.1 i (by omega)).2.2.2.2)
  have h3 : ∀ c, c ≤ 4 → 0 ≤ zx_mx (fun c => x c + y c) c ∧ zx_mx (fun c => x c + y c) c ≤ 32 := fun c hc => zx_mx_b (by decide) (fun i hi => by have := h.1 i (by omega); show x i + y i ≤ 32; omega)
  have htop : zx_top 1 x y l r = zx_mx x 4 + zx_mx y 4 - zx_mx (fun c => x c + y c) 4 := by unfold zx_top; rw [if_neg (by decide), if_pos rfl]
  generalize hQ : zq_p zk_K 242 (zk_P sh) (zf_set V 209 ((t / Nat.gcd t 1 : Nat) : Int) ((1 / Nat.gcd t 1 : Nat) : Int)) none = Q
  refine zg_enter 4 (by decide) (Nat.le_of_ble_eq_true rfl) rfl ?_
  refine zg_iconst zd_SplitSearch_measureMajorities_0 ?_
  refine zg_is1 zd_SplitSearch_measureMajorities_1 (fun w h => by cases h <;> rfl) (by decide) ?_
  refine zg_iconst zd_SplitSearch_measureMajorities_2 ?_
  refine zg_is2 zd_SplitSearch_measureMajorities_3 (fun w h => by cases h <;> rfl) (by decide) ?_
  refine zg_iconst zd_SplitSearch_measureMajorities_4 ?_
  refine zg_is3 zd_SplitSearch_measureMajorities_5 (fun w h => by cases h <;> rfl) (by decide) ?_
  refine zg_iconst zd_SplitSearch_measureMajorities_6 ?_
  refine zg_is4 zd_SplitSearch_measureMajorities_7 (fun w h => by cases h <;> rfl) (by decide) ?_
  have key : ∀ (j c : Nat) (hij : c + j = 4), zg_G Γ (fun _ => True) zm_SplitSearch_measureMajorities (zg_rm 2 0 0) (zg_Ω Γ (Q) 0 0) 0 0 9 [some (zg_r Γ (204)), some (zg_i (zx_mx x c)), some (zg_i (zx_mx y c)), some (zg_i (zx_mx (fun c => x c + y c) c)), some (zg_i ((c : Nat)))] [] zk_K 242 (zk_P sh) (V) := by
    intro j
    induction j with
    | zero =>
      intro c hij
      have e : c = 4 := by omega
      subst e
      have q1 := h1 4 (by omega)
      have q2 := h2 4 (by omega)
      have q3 := h3 4 (by omega)
      refine zg_il4 zd_SplitSearch_measureMajorities_9 ?_
      refine zg_iconst zd_SplitSearch_measureMajorities_11 ?_
      refine zg_icmp_ge (tgt := 65) zd_SplitSearch_measureMajorities_12 (by decide) (by omega) (by omega) (fun b12 => ?_) (fun b12 => ?_)
      · refine zg_al0 zd_SplitSearch_measureMajorities_65 ?_
        refine zg_getr zd_SplitSearch_measureMajorities_66 zf_204 (by omega) (by first | assumption | rfl) rfl (by first | assumption | rfl) ?_
        refine zg_il1 zd_SplitSearch_measureMajorities_69 ?_
        refine zg_il2 zd_SplitSearch_measureMajorities_70 ?_
        refine zg_iadd zd_SplitSearch_measureMajorities_71 ?_
        refine zg_il3 zd_SplitSearch_measureMajorities_72 ?_
        refine zg_isub zd_SplitSearch_measureMajorities_73 ?_
        refine zg_i2l zd_SplitSearch_measureMajorities_74 (by omega) ?_
        rw [← htop, ← ht]
        refine zg_lconst (z := ((1 : Nat) : Int)) zd_SplitSearch_measureMajorities_75 rfl ?_
        refine zg_cVq2 zd_SplitSearch_measureMajorities_76 zM_Fraction_set zw_405 zi_Fraction_set zs_Fraction_set (ct_fset (by decide) rfl (by omega) (by decide)) (by decide) (by decide) (by omega) (by first | assumption | rfl) (by decide) rfl (Nat.le_of_ble_eq_true rfl) ?_
        refine zg_return zd_SplitSearch_measureMajorities_79 rfl ?_
        subst hQ; exact ⟨rfl, rfl, rfl, rfl, rfl⟩
      · omega
    | succ j ih =>
      intro c hij
      have ih := ih (c + 1) (by omega)
      rw [zx_mx_s, zx_mx_s, zx_mx_s] at ih
      obtain ⟨hx, hy, hx2, hy2⟩ := h.1 c (by omega)
      have q1 := h1 c (by omega)
      have q2 := h2 c (by omega)
      have q3 := h3 c (by omega)
      refine zg_il4 zd_SplitSearch_measureMajorities_9 ?_
      refine zg_iconst zd_SplitSearch_measureMajorities_11 ?_
      refine zg_icmp_ge (tgt := 65) zd_SplitSearch_measureMajorities_12 (by decide) (by omega) (by omega) (fun b12 => ?_) (fun b12 => ?_)
      · omega
      · refine zg_il1 zd_SplitSearch_measureMajorities_15 ?_
        refine zg_al0 zd_SplitSearch_measureMajorities_16 ?_
        refine zg_getr zd_SplitSearch_measureMajorities_17 zf_200 (by omega) (by first | assumption | rfl) rfl (by first | assumption | rfl) ?_
        refine zg_il4 zd_SplitSearch_measureMajorities_20 ?_
        refine zg_iald zd_SplitSearch_measureMajorities_22 (by omega) (by first | assumption | rfl) rfl (by omega) (by decide) ?_
        rw [hx]
        refine zg_cSp2 zd_SplitSearch_measureMajorities_23 zM_Math_max zw_463 zi_Math_max (ct_max (by omega) (by omega)) (by decide) (by decide) (Nat.le_of_ble_eq_true rfl) ?_
        refine zg_is1 zd_SplitSearch_measureMajorities_26 (fun w h => by cases h <;> rfl) (by decide) ?_
        refine zg_il2 zd_SplitSearch_measureMajorities_27 ?_
        refine zg_al0 zd_SplitSearch_measureMajorities_28 ?_
        refine zg_getr zd_SplitSearch_measureMajorities_29 zf_201 (by omega) (by first | assumption | rfl) rfl (by first | assumption | rfl) ?_
        refine zg_il4 zd_SplitSearch_measureMajorities_32 ?_
        refine zg_iald zd_SplitSearch_measureMajorities_34 (by omega) (by first | assumption | rfl) rfl (by omega) (by decide) ?_
        rw [hy]
        refine zg_cSp2 zd_SplitSearch_measureMajorities_35 zM_Math_max zw_463 zi_Math_max (ct_max (by omega) (by omega)) (by decide) (by decide) (Nat.le_of_ble_eq_true rfl) ?_
        refine zg_is2 zd_SplitSearch_measureMajorities_38 (fun w h => by cases h <;> rfl) (by decide) ?_
        refine zg_il3 zd_SplitSearch_measureMajorities_39 ?_
        refine zg_al0 zd_SplitSearch_measureMajorities_40 ?_
        refine zg_getr zd_SplitSearch_measureMajorities_41 zf_200 (by omega) (by first | assumption | rfl) rfl (by first | assumption | rfl) ?_
        refine zg_il4 zd_SplitSearch_measureMajorities_44 ?_
        refine zg_iald zd_SplitSearch_measureMajorities_46 (by omega) (by first | assumption | rfl) rfl (by omega) (by decide) ?_
        refine zg_al0 zd_SplitSearch_measureMajorities_47 ?_
        refine zg_getr zd_SplitSearch_measureMajorities_48 zf_201 (by omega) (by first | assumption | rfl) rfl (by first | assumption | rfl) ?_
        refine zg_il4 zd_SplitSearch_measureMajorities_51 ?_
        refine zg_iald zd_SplitSearch_measureMajorities_53 (by omega) (by first | assumption | rfl) rfl (by omega) (by decide) ?_
        rw [hx, hy]
        refine zg_iadd zd_SplitSearch_measureMajorities_54 ?_
        refine zg_cSp2 zd_SplitSearch_measureMajorities_55 zM_Math_max zw_463 zi_Math_max (ct_max (by omega) (by omega)) (by decide) (by decide) (Nat.le_of_ble_eq_true rfl) ?_
        refine zg_is3 zd_SplitSearch_measureMajorities_58 (fun w h => by cases h <;> rfl) (by decide) ?_
        refine zg_inc4 zd_SplitSearch_measureMajorities_59 (fun w h => by cases h <;> rfl) (by decide) ?_
        refine zg_goto (tgt := 9) zd_SplitSearch_measureMajorities_62 (by decide) ?_
        exact ih
  exact key 4 0 (by omega)
theorem ct_mDist {x y : Nat → Int} {l r : Int} (h : zx_sd V x y l r) (hl : 1 ≤ l) (hr : 1 ≤ r) {t b : Nat} (ht : (t : Int) = zx_top 2 x y l r) (hb : (b : Int) = zx_bot 2 l r) : zg_S Γ zm_SplitSearch_measureDistance 2 0 0 [zg_r Γ 204] zk_K 242 (zk_P sh) V (zq_p zk_K 242 (zk_P sh) (zf_set V 209 ((t / Nat.gcd t b : Nat) : Int) ((b / Nat.gcd t b : Nat) : Int)) none) := by
  have htb : 0 ≤ zx_top 2 x y l r ∧ zx_top 2 x y l r ≤ 1048576 := zx_top_b (fun c hc => ⟨(h.1 c hc).2.2.1, (h.1 c hc).2.2.2⟩) h.2.2.2.1 h.2.2.2.2
  have hbb : 1 ≤ zx_bot 2 l r ∧ zx_bot 2 l r ≤ 8192 := zx_bot_b ⟨hl, h.2.2.2.1.2⟩ ⟨hr, h.2.2.2.2.2⟩
  have htop : zx_top 2 x y l r = zs_sum (fun c => zx_ab (x c * r - y c * l)) 4 * zs_sum (fun c => zx_ab (x c * r - y c * l)) 4 := by unfold zx_top; rw [if_neg (by decide), if_neg (by decide)]
  have hbot : zx_bot 2 l r = (l + r) * l * r := by unfold zx_bot; rw [if_neg (by decide), Int.mul_assoc]
  obtain ⟨hc, hl0, hr0, hlb, hrb⟩ := h
  have hd : ∀ c, c < 4 → -256 ≤ x c * r - y c * l ∧ x c * r - y c * l ≤ 256 := fun c q => zx_d_b (hc c q).2.2.1 (hc c q).2.2.2 hlb hrb
  generalize hQ : zq_p zk_K 242 (zk_P sh) (zf_set V 209 ((t / Nat.gcd t b : Nat) : Int) ((b / Nat.gcd t b : Nat) : Int)) none = Q
  refine zg_enter 4 (by decide) (Nat.le_of_ble_eq_true rfl) rfl ?_
  refine zg_lconst (z := 0) zd_SplitSearch_measureDistance_0 rfl ?_
  refine zg_ls1 zd_SplitSearch_measureDistance_1 (fun w h => by cases h <;> rfl) (by decide) ?_
  refine zg_iconst zd_SplitSearch_measureDistance_2 ?_
  refine zg_is3 zd_SplitSearch_measureDistance_3 (fun w h => by cases h <;> rfl) (by decide) ?_
  have key : ∀ (j c : Nat) (hij : c + j = 4), zg_G Γ (fun _ => True) zm_SplitSearch_measureDistance (zg_rm 2 0 0) (zg_Ω Γ (Q) 0 0) 0 0 4 [some (zg_r Γ (204)), some (zg_l (zs_sum (fun c => zx_ab (x c * r - y c * l)) c)), none, some (zg_i ((c : Nat))), none] [] zk_K 242 (zk_P sh) (V) := by
    intro j
    induction j with
    | zero =>
      intro c hij
      have e : c = 4 := by omega
      subst e
      refine zg_il3 zd_SplitSearch_measureDistance_4 ?_
      refine zg_iconst zd_SplitSearch_measureDistance_5 ?_
      refine zg_icmp_ge (tgt := 45) zd_SplitSearch_measureDistance_6 (by decide) (by omega) (by omega) (fun b6 => ?_) (fun b6 => ?_)
      · refine zg_al0 zd_SplitSearch_measureDistance_45 ?_
        refine zg_geti zd_SplitSearch_measureDistance_46 zf_202 (by omega) (by first | assumption | rfl) rfl ?_
        refine zg_al0 zd_SplitSearch_measureDistance_49 ?_
        refine zg_geti zd_SplitSearch_measureDistance_50 zf_203 (by omega) (by first | assumption | rfl) rfl ?_
        rw [hl0, hr0]
        refine zg_iadd zd_SplitSearch_measureDistance_53 ?_
        refine zg_i2l zd_SplitSearch_measureDistance_54 (by omega) ?_
        refine zg_ls3 zd_SplitSearch_measureDistance_55 (fun w h => by cases h <;> rfl) (by decide) ?_
        refine zg_al0 zd_SplitSearch_measureDistance_56 ?_
        refine zg_getr zd_SplitSearch_measureDistance_57 zf_204 (by omega) (by first | assumption | rfl) rfl (by first | assumption | rfl) ?_
        refine zg_ll1 zd_SplitSearch_measureDistance_60 ?_
        refine zg_ll1 zd_SplitSearch_measureDistance_61 ?_
        refine zg_lmul zd_SplitSearch_measureDistance_62 ?_
        refine zg_ll3 zd_SplitSearch_measureDistance_63 ?_
        refine zg_al0 zd_SplitSearch_measureDistance_64 ?_
        refine zg_geti zd_SplitSearch_measureDistance_65 zf_202 (by omega) (by first | assumption | rfl) rfl ?_
        rw [hl0]
        refine zg_i2l zd_SplitSearch_measureDistance_68 (by omega) ?_
        refine zg_lmul zd_SplitSearch_measureDistance_69 ?_
        refine zg_al0 zd_SplitSearch_measureDistance_70 ?_
        refine zg_geti zd_SplitSearch_measureDistance_71 zf_203 (by omega) (by first | assumption | rfl) rfl ?_
        rw [hr0]
        refine zg_i2l zd_SplitSearch_measureDistance_74 (by omega) ?_
        refine zg_lmul zd_SplitSearch_measureDistance_75 ?_
        rw [← htop, ← hbot, ← ht, ← hb]
        refine zg_cVq2 zd_SplitSearch_measureDistance_76 zM_Fraction_set zw_405 zi_Fraction_set zs_Fraction_set (ct_fset (by decide) rfl (by omega) (by omega)) (by decide) (by decide) (by omega) (by first | assumption | rfl) (by decide) rfl (Nat.le_of_ble_eq_true rfl) ?_
        refine zg_return zd_SplitSearch_measureDistance_79 rfl ?_
        subst hQ; exact ⟨rfl, rfl, rfl, rfl, rfl⟩
      · omega
    | succ j ih =>
      intro c hij
      have ih := ih (c + 1) (by omega)
      obtain ⟨hx, hy, hx2, hy2⟩ := hc c (by omega)
      have q1 := hd c (by omega)
      have q2 := zx_mul_b hx2 hrb
      have q3 := zx_mul_b hy2 hlb
      have q4 : -2147483648 ≤ (if 0 ≤ x c * r - y c * l then x c * r - y c * l else -(x c * r - y c * l)) ∧ (if 0 ≤ x c * r - y c * l then x c * r - y c * l else -(x c * r - y c * l)) < 2147483648 := by split <;> omega
      refine zg_il3 zd_SplitSearch_measureDistance_4 ?_
      refine zg_iconst zd_SplitSearch_measureDistance_5 ?_
      refine zg_icmp_ge (tgt := 45) zd_SplitSearch_measureDistance_6 (by decide) (by omega) (by omega) (fun b6 => ?_) (fun b6 => ?_)
      · omega
      · refine zg_ll1 zd_SplitSearch_measureDistance_9 ?_
        refine zg_al0 zd_SplitSearch_measureDistance_10 ?_
        refine zg_getr zd_SplitSearch_measureDistance_11 zf_200 (by omega) (by first | assumption | rfl) rfl (by first | assumption | rfl) ?_
        refine zg_il3 zd_SplitSearch_measureDistance_14 ?_
        refine zg_iald zd_SplitSearch_measureDistance_15 (by omega) (by first | assumption | rfl) rfl (by omega) (by decide) ?_
        refine zg_al0 zd_SplitSearch_measureDistance_16 ?_
        refine zg_geti zd_SplitSearch_measureDistance_17 zf_203 (by omega) (by first | assumption | rfl) rfl ?_
        rw [hx, hr0]
        refine zg_imul zd_SplitSearch_measureDistance_20 ?_
        refine zg_al0 zd_SplitSearch_measureDistance_21 ?_
        refine zg_getr zd_SplitSearch_measureDistance_22 zf_201 (by omega) (by first | assumption | rfl) rfl (by first | assumption | rfl) ?_
        refine zg_il3 zd_SplitSearch_measureDistance_25 ?_
        refine zg_iald zd_SplitSearch_measureDistance_26 (by omega) (by first | assumption | rfl) rfl (by omega) (by decide) ?_
        refine zg_al0 zd_SplitSearch_measureDistance_27 ?_
        refine zg_geti zd_SplitSearch_measureDistance_28 zf_202 (by omega) (by first | assumption | rfl) rfl ?_
        rw [hy, hl0]
        refine zg_imul zd_SplitSearch_measureDistance_31 ?_
        refine zg_isub zd_SplitSearch_measureDistance_32 ?_
        refine zg_cSp1 zd_SplitSearch_measureDistance_33 zM_Math_abs zw_468 zi_Math_abs (ct_abs (by omega)) (by decide) (by decide) (Nat.le_of_ble_eq_true rfl) ?_
        refine zg_i2l zd_SplitSearch_measureDistance_36 (by omega) ?_
        refine zg_ladd zd_SplitSearch_measureDistance_37 ?_
        refine zg_ls1 zd_SplitSearch_measureDistance_38 (fun w h => by cases h <;> rfl) (by decide) ?_
        refine zg_inc3 zd_SplitSearch_measureDistance_39 (fun w h => by cases h <;> rfl) (by decide) ?_
        refine zg_goto (tgt := 4) zd_SplitSearch_measureDistance_42 (by decide) ?_
        exact ih
  exact key 4 0 (by omega)
end ZT7

