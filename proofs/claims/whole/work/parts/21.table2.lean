/-! Table: writers; Ballot -/
def zv_fill (V : zg_V) (c n : Nat) (x : Int) : zg_V := fun a j => if a = c then if j < n then x else V a j else V a j
theorem zv_fill_0 (V : zg_V) (c : Nat) (x : Int) : zv_fill V c 0 x = V := by funext a j; simp [zv_fill]
theorem zv_fill_s (V : zg_V) (c n : Nat) (x : Int) : zg_u (zv_fill V c n x) c n x = zv_fill V c (n + 1) x := by
  funext a j
  unfold zg_u zv_fill
  by_cases h : a = c
  · simp only [h, if_true]
    by_cases h2 : j = n
    · simp [h2]
    · simp only [h2, if_false]
      by_cases h3 : j < n
      · rw [if_pos h3, if_pos (by omega)]
      · rw [if_neg h3, if_neg (by omega)]
  · simp [h]
theorem zv_fill_o (V : zg_V) (c n : Nat) (x : Int) {a : Nat} (h : a ≠ c) : zv_fill V c n x a = V a := by funext j; simp [zv_fill, h]
section ZT2
variable {Γ : zg_C} {K : zg_K} {N : Nat} {P : zg_P} {V : zg_V}
theorem ct_setWeights {sh n : Nat} {x : Int} (hn : V 1 3 = (n : Int)) (hn16 : n ≤ 16) : zg_S Γ zm_Table_setWeights 0 0 0 [zg_r Γ 1, zg_i x] zk_K 242 (zk_P sh) V (zq_p zk_K 242 (zk_P sh) (zv_fill V 20 n x) none) := by
  refine zg_enter 1 (by decide) (Nat.le_of_ble_eq_true rfl) rfl ?_
  refine zg_iconst zd_Table_setWeights_0 ?_
  refine zg_is2 zd_Table_setWeights_1 (fun w h => by cases h <;> rfl) (by decide) ?_
  have key : ∀ (j i : Nat) (hij : i + j = n), zg_G Γ (fun _ => True) zm_Table_setWeights (zg_rm 0 0 0) (zg_Ω Γ (zq_p zk_K 242 (zk_P sh) (zv_fill V 20 n x) none) 0 0) 0 0 2 [some (zg_r Γ (1)), some (zg_i (x)), some (zg_i ((i : Nat)))] [] zk_K 242 (zk_P sh) (zv_fill V 20 i x) := by
    intro j
    induction j with
    | zero =>
      intro i hij
      have e : i = n := by omega
      subst e
      refine zg_il2 zd_Table_setWeights_2 ?_
      refine zg_al0 zd_Table_setWeights_3 ?_
      refine zg_geti zd_Table_setWeights_4 zf_39 (by omega) (by first | assumption | rfl) rfl ?_
      rw [zv_fill_o _ _ _ _ (by decide), hn]
      refine zg_icmp_ge (tgt := 23) zd_Table_setWeights_7 (by decide) (by omega) (by omega) (fun b7 => ?_) (fun b7 => ?_)
      · refine zg_return zd_Table_setWeights_23 rfl ?_
        exact ⟨rfl, rfl, rfl, rfl, rfl⟩
      · omega
    | succ j ih =>
      intro i hij
      have ih := ih (i + 1) (by omega)
      rw [← zv_fill_s] at ih
      refine zg_il2 zd_Table_setWeights_2 ?_
      refine zg_al0 zd_Table_setWeights_3 ?_
      refine zg_geti zd_Table_setWeights_4 zf_39 (by omega) (by first | assumption | rfl) rfl ?_
      rw [zv_fill_o _ _ _ _ (by decide), hn]
      refine zg_icmp_ge (tgt := 23) zd_Table_setWeights_7 (by decide) (by omega) (by omega) (fun b7 => ?_) (fun b7 => ?_)
      · omega
      · refine zg_al0 zd_Table_setWeights_10 ?_
        refine zg_getr zd_Table_setWeights_11 zf_37 (by omega) (by first | assumption | rfl) rfl (by first | assumption | rfl) ?_
        refine zg_il2 zd_Table_setWeights_14 ?_
        refine zg_il1 zd_Table_setWeights_15 ?_
        refine zg_iast zd_Table_setWeights_16 (by omega) (by first | assumption | rfl) rfl (by omega) (by decide) ?_
        refine zg_inc2 zd_Table_setWeights_17 (fun w h => by cases h <;> rfl) (by decide) ?_
        refine zg_goto (tgt := 2) zd_Table_setWeights_20 (by decide) ?_
        exact ih
  have := key n 0 (by omega)
  rw [zv_fill_0] at this
  exact this
def zt_add (V : zg_V) (n : Nat) (a b c d : Int) : zg_V := zg_u (zg_u (zg_u (zg_u (zg_u V (3 + n) 0 a) (3 + n) 1 b) (3 + n) 2 c) 19 n d) 1 3 (n + 1 : Int)
theorem ct_append {sh n : Nat} {a b c d : Int} (hn : V 1 3 = (n : Int)) (hn16 : n < 16) : zg_S Γ zm_Table_append 0 0 0 [zg_r Γ 1, zg_i a, zg_i b, zg_i c, zg_i d] zk_K 242 (zk_P sh) V (zq_p zk_K 242 (zk_P sh) (zt_add V n a b c d) (some (zg_i n))) := by
  have hpi := zp_values (sh := sh) hn16
  have hki := (zk_row n hn16).1
  refine zg_enter 1 (by decide) (Nat.le_of_ble_eq_true rfl) rfl ?_
  refine zg_al0 zd_Table_append_0 ?_
  refine zg_geti zd_Table_append_1 zf_39 (by omega) (by first | assumption | rfl) rfl ?_
  rw [hn]
  refine zg_is5 zd_Table_append_4 (fun w h => by cases h <;> rfl) (by decide) ?_
  refine zg_al0 zd_Table_append_6 ?_
  refine zg_getr zd_Table_append_7 zf_31 (by omega) (by first | assumption | rfl) rfl (by first | assumption | rfl) ?_
  refine zg_il5 zd_Table_append_10 ?_
  refine zg_aald zd_Table_append_12 (by omega) (by first | assumption | rfl) rfl rfl rfl (by omega) (by decide) (by first | assumption | rfl) ?_
  refine zg_iconst zd_Table_append_13 ?_
  refine zg_il1 zd_Table_append_14 ?_
  refine zg_iast (j := 0) zd_Table_append_15 (by omega) (by assumption) rfl (by omega) (by decide) ?_
  refine zg_al0 zd_Table_append_16 ?_
  refine zg_getr zd_Table_append_17 zf_31 (by omega) (by first | assumption | rfl) rfl (by first | assumption | rfl) ?_
  refine zg_il5 zd_Table_append_20 ?_
  refine zg_aald zd_Table_append_22 (by omega) (by first | assumption | rfl) rfl rfl rfl (by omega) (by decide) (by first | assumption | rfl) ?_
  refine zg_iconst zd_Table_append_23 ?_
  refine zg_il2 zd_Table_append_24 ?_
  refine zg_iast (j := 1) zd_Table_append_25 (by omega) (by assumption) rfl (by omega) (by decide) ?_
  refine zg_al0 zd_Table_append_26 ?_
  refine zg_getr zd_Table_append_27 zf_31 (by omega) (by first | assumption | rfl) rfl (by first | assumption | rfl) ?_
  refine zg_il5 zd_Table_append_30 ?_
  refine zg_aald zd_Table_append_32 (by omega) (by first | assumption | rfl) rfl rfl rfl (by omega) (by decide) (by first | assumption | rfl) ?_
  refine zg_iconst zd_Table_append_33 ?_
  refine zg_il3 zd_Table_append_34 ?_
  refine zg_iast (j := 2) zd_Table_append_35 (by omega) (by assumption) rfl (by omega) (by decide) ?_
  refine zg_al0 zd_Table_append_36 ?_
  refine zg_getr zd_Table_append_37 zf_35 (by omega) (by first | assumption | rfl) rfl (by first | assumption | rfl) ?_
  refine zg_il5 zd_Table_append_40 ?_
  refine zg_il4 zd_Table_append_42 ?_
  refine zg_iast zd_Table_append_44 (by omega) (by first | assumption | rfl) rfl (by omega) (by decide) ?_
  refine zg_al0 zd_Table_append_45 ?_
  refine zg_dup zd_Table_append_46 rfl ?_
  refine zg_geti zd_Table_append_47 zf_39 (by omega) (by first | assumption | rfl) rfl ?_
  have e : zg_u (zg_u (zg_u (zg_u V (3 + n) 0 a) (3 + n) 1 b) (3 + n) 2 c) 19 n d 1 3 = (n : Int) := by
    rw [← hn]
    simp only [zg_u]
    rw [if_neg (by omega), if_neg (by omega), if_neg (by omega), if_neg (by omega)]
  rw [e]
  refine zg_iconst zd_Table_append_50 ?_
  refine zg_iadd zd_Table_append_51 ?_
  refine zg_puti zd_Table_append_52 zf_39 rfl (by omega) (by first | assumption | rfl) rfl ?_
  refine zg_il5 zd_Table_append_55 ?_
  refine zg_ireturn zd_Table_append_57 rfl ?_
  exact ⟨rfl, rfl, rfl, rfl, rfl⟩
/-- a draw: throws until one is fair, eight at most -/
def zt_in (n : Nat) : Nat → Int → Int → Int × Int
  | 0, s, r => (s, r)
  | j + 1, s, r => if r < 32 - 32 % (n : Int) then (s, r) else zt_in n j (s * 7391840562913847605 + 1027) (zb_top (s * 7391840562913847605 + 1027))
def zt_inc (w : Nat → Int) (k : Nat) : Nat → Int := fun x => if x = k then w x + 1 else w x
def zt_dr (n : Nat) : Nat → Int → (Nat → Int) → (Nat → Int)
  | 0, _, w => w
  | i + 1, s, w => zt_dr n i (zt_in n 8 s 32).1 (zt_inc w ((zt_in n 8 s 32).2 % (n : Int)).toNat)
def zv_row (V : zg_V) (c : Nat) (w : Nat → Int) : zg_V := fun a => if a = c then w else V a
theorem zv_row_i (V : zg_V) (c : Nat) (w : Nat → Int) : zv_row V c w c = w := by simp [zv_row]
theorem zv_row_o (V : zg_V) (c : Nat) (w : Nat → Int) {a : Nat} (h : a ≠ c) : zv_row V c w a = V a := by simp [zv_row, h]
theorem zv_row_inc (V : zg_V) (c k : Nat) (w : Nat → Int) : zg_u (zv_row V c w) c k (w k + 1) = zv_row V c (zt_inc w k) := by
  funext a j
  unfold zg_u zv_row zt_inc
  by_cases h : a = c
  · simp only [h, if_true]
    by_cases h2 : j = k
    · simp [h2]
    · simp [h2]
  · simp [h]
theorem zv_fill_row (V : zg_V) (c n : Nat) (x : Int) : zv_fill V c n x = zv_row V c (fun j => if j < n then x else V c j) := by
  funext a j
  unfold zv_fill zv_row
  by_cases h : a = c
  · simp [h]
  · simp [h]
theorem zt_in_b (n : Nat) : ∀ (j : Nat) (s r : Int), 0 ≤ r ∧ r ≤ 32 → 0 ≤ (zt_in n j s r).2 ∧ (zt_in n j s r).2 ≤ 32
  | 0, s, r, h => h
  | j + 1, s, r, h => by
    unfold zt_in
    split
    · exact h
    · have := zb_top_b (s * 7391840562913847605 + 1027)
      exact zt_in_b n j _ _ (by omega)
def zt_w0 (V : zg_V) (n : Nat) : Nat → Int := fun j => if j < n then 0 else V 20 j
theorem zt_in_s (n j : Nat) (s r : Int) : zt_in n (j + 1) s r = if r < 32 - 32 % (n : Int) then (s, r) else zt_in n j (s * 7391840562913847605 + 1027) (zb_top (s * 7391840562913847605 + 1027)) := rfl
theorem ct_isFair2 {Γ : zg_C} {V : zg_V} {sh n : Nat} {r : Int} (hr : 0 ≤ r ∧ r ≤ 32) (h0 : 0 < n) (hn16 : n ≤ 16) (hn : V 1 3 = (n : Int)) : zg_S Γ zm_Table_isFair 0 0 0 [zg_r Γ 1, zg_i r] zk_K 242 (zk_P sh) V (zq_p zk_K 242 (zk_P sh) V (some (zg_i (zg_b (decide (r < 32 - 32 % (n : Int))))))) := ct_isFair hr h0 hn16 hn
theorem ct_draw {sh n : Nat} {z : Int} (hn : V 1 3 = (n : Int)) (h0 : 0 < n) (hn16 : n ≤ 16) : zg_S Γ zm_Table_draw 1 0 0 [zg_r Γ 1, zg_l z] zk_K 242 (zk_P sh) V (zq_p zk_K 242 (zk_P sh) (zv_row V 20 (zt_dr n n z (zt_w0 V n))) none) := by
  refine zg_enter 5 (by decide) (Nat.le_of_ble_eq_true rfl) rfl ?_
  refine zg_al0 zd_Table_draw_0 ?_
  refine zg_iconst zd_Table_draw_1 ?_
  refine zg_cVq1 zd_Table_draw_2 zM_Table_setWeights zw_364 zi_Table_setWeights zs_Table_setWeights (ct_setWeights hn hn16) (by decide) (by decide) (by omega) (by first | assumption | rfl) (by decide) rfl (Nat.le_of_ble_eq_true rfl) ?_
  refine zg_ll1 zd_Table_draw_5 ?_
  refine zg_ls3 zd_Table_draw_6 (fun w h => by cases h <;> rfl) (by decide) ?_
  refine zg_iconst zd_Table_draw_7 ?_
  refine zg_is5 zd_Table_draw_8 (fun w h => by cases h <;> rfl) (by decide) ?_
  rw [show zv_fill V 20 n 0 = zv_row V 20 (zt_w0 V n) from zv_fill_row V 20 n 0]
  have key : ∀ (j i : Nat) (s : Int) (w : Nat → Int) (o6 o7 : Option Value) (hij : i + j = n) (hE : zt_dr n j s w = zt_dr n n z (zt_w0 V n)), zg_G Γ (fun _ => True) zm_Table_draw (zg_rm 1 0 0) (zg_Ω Γ (zq_p zk_K 242 (zk_P sh) (zv_row V 20 (zt_dr n n z (zt_w0 V n))) none) 0 0) 0 0 10 [some (zg_r Γ (1)), some (zg_l (z)), none, some (zg_l (s)), none, some (zg_i ((i : Nat))), o6, o7] [] zk_K 242 (zk_P sh) (zv_row V 20 w) := by
    intro j
    induction j with
    | zero =>
      intro i s w o6 o7 hij hE
      have e : i = n := by omega
      subst e
      refine zg_il5 zd_Table_draw_10 ?_
      refine zg_al0 zd_Table_draw_12 ?_
      refine zg_geti zd_Table_draw_13 zf_39 (by omega) (by first | assumption | rfl) rfl ?_
      rw [zv_row_o _ _ _ (by decide), hn]
      refine zg_icmp_ge (tgt := 87) zd_Table_draw_16 (by decide) (by omega) (by omega) (fun b16 => ?_) (fun b16 => ?_)
      · refine zg_return zd_Table_draw_87 rfl ?_
        exact ⟨rfl, rfl, rfl, rfl, by rw [← hE]; rfl⟩
      · omega
    | succ j ih =>
      intro i s w o6 o7 hij hE
      have hTn : zv_row V 20 w 1 3 = (n : Int) := by rw [zv_row_o _ _ _ (by decide), hn]
      have inner : ∀ (g a : Nat) (t r : Int), a + g = 8 → 0 ≤ r ∧ r ≤ 32 → zt_in n g t r = zt_in n 8 s 32 → zg_G Γ (fun _ => True) zm_Table_draw (zg_rm 1 0 0) (zg_Ω Γ (zq_p zk_K 242 (zk_P sh) (zv_row V 20 (zt_dr n n z (zt_w0 V n))) none) 0 0) 0 0 26 [some (zg_r Γ (1)), some (zg_l (z)), none, some (zg_l (t)), none, some (zg_i ((i : Nat))), some (zg_i (r)), some (zg_i ((a : Nat)))] [] zk_K 242 (zk_P sh) (zv_row V 20 w) := by
        have fin : ∀ (a : Nat) (t r : Int), 0 ≤ r ∧ r ≤ 32 → (t, r) = zt_in n 8 s 32 → zg_G Γ (fun _ => True) zm_Table_draw (zg_rm 1 0 0) (zg_Ω Γ (zq_p zk_K 242 (zk_P sh) (zv_row V 20 (zt_dr n n z (zt_w0 V n))) none) 0 0) 0 0 65 [some (zg_r Γ (1)), some (zg_l (z)), none, some (zg_l (t)), none, some (zg_i ((i : Nat))), some (zg_i (r)), some (zg_i ((a : Nat)))] [] zk_K 242 (zk_P sh) (zv_row V 20 w) := by
          intro a t r hr he
          have hm1 := Int.emod_nonneg r (show (n : Int) ≠ 0 by omega)
          have hm2 := Int.emod_lt_of_pos r (show (0 : Int) < n by omega)
          have hr' : (zt_in n 8 s 32).2 = r := by rw [← he]
          have ht' : (zt_in n 8 s 32).1 = t := by rw [← he]
          have ih := ih (i + 1) t (zt_inc w (r % (n : Int)).toNat) (some (zg_i r)) (some (zg_i a)) (by omega) (by rw [← hE]; show _ = zt_dr n j _ _; rw [hr', ht'])
          rw [← zv_row_inc] at ih
          refine zg_al0 zd_Table_draw_65 ?_
          refine zg_getr zd_Table_draw_66 zf_37 (by omega) (by first | assumption | rfl) rfl (by first | assumption | rfl) ?_
          refine zg_il6 zd_Table_draw_69 ?_
          refine zg_al0 zd_Table_draw_71 ?_
          refine zg_geti zd_Table_draw_72 zf_39 (by omega) (by first | assumption | rfl) rfl ?_
          rw [hTn]
          refine zg_irem (r % (n : Int)) zd_Table_draw_75 (by rw [zg_eq0 (by omega)]; omega) (zb_rem (by omega) (by omega) (by omega)) ?_
          refine zg_dup2 zd_Table_draw_76 rfl rfl ?_
          refine zg_iald (j := (r % (n : Int)).toNat) zd_Table_draw_77 (by omega) rfl (by omega) (by omega) (by decide) ?_
          refine zg_iconst zd_Table_draw_78 ?_
          refine zg_iadd zd_Table_draw_79 ?_
          refine zg_iast (j := (r % (n : Int)).toNat) zd_Table_draw_80 (by omega) rfl (by omega) (by omega) (by decide) ?_
          refine zg_inc5 zd_Table_draw_81 (fun w h => by cases h <;> rfl) (by decide) ?_
          refine zg_goto (tgt := 10) zd_Table_draw_84 (by decide) ?_
          rw [zv_row_i] at *; exact ih
        intro g
        induction g with
        | zero =>
          intro a t r hag hr he
          refine zg_il7 zd_Table_draw_26 ?_
          refine zg_bipush zd_Table_draw_28 (by decide) ?_
          refine zg_icmp_ge (tgt := 65) zd_Table_draw_30 (by decide) (by omega) (by omega) (fun b30 => ?_) (fun b30 => ?_)
          · exact fin a t r hr he
          · omega
        | succ g ihg =>
          intro a t r hag hr he
          rw [zt_in_s] at he
          have hb := zb_top_b (t * 7391840562913847605 + 1027)
          refine zg_il7 zd_Table_draw_26 ?_
          refine zg_bipush zd_Table_draw_28 (by decide) ?_
          refine zg_icmp_ge (tgt := 65) zd_Table_draw_30 (by decide) (by omega) (by omega) (fun b30 => ?_) (fun b30 => ?_)
          · first | omega | (rw [if_pos (by simpa using b39)] at he; exact fin a t r hr he)
          · refine zg_al0 zd_Table_draw_33 ?_
            refine zg_il6 zd_Table_draw_34 ?_
            refine zg_cVp1 zd_Table_draw_36 zM_Table_isFair zw_365 zi_Table_isFair zs_Table_isFair (ct_isFair2 hr h0 hn16 hTn) (by decide) (by decide) (by omega) (by first | assumption | rfl) (by decide) rfl (Nat.le_of_ble_eq_true rfl) ?_
            refine zg_if_neB (tgt := 65) zd_Table_draw_39 (by decide) (fun b39 => ?_) (fun b39 => ?_)
            · first | omega | (rw [if_pos (by simpa using b39)] at he; exact fin a t r hr he)
            · refine zg_ll3 zd_Table_draw_42 ?_
              refine zg_ldc2 (7391840562913847605) zd_Table_draw_43 zw_369 (by decide) ?_
              refine zg_lmul zd_Table_draw_46 ?_
              refine zg_ldc2 (1027) zd_Table_draw_47 zw_370 (by decide) ?_
              refine zg_ladd zd_Table_draw_50 ?_
              refine zg_ls3 zd_Table_draw_51 (fun w h => by cases h <;> rfl) (by decide) ?_
              refine zg_ll3 zd_Table_draw_52 ?_
              refine zg_bipush zd_Table_draw_53 (by decide) ?_
              refine zg_lushr (zb_top (t * 7391840562913847605 + 1027)) zd_Table_draw_55 (zb_lushr _) ?_
              refine zg_l2i zd_Table_draw_56 ?_
              refine zg_is6 zd_Table_draw_57 (fun w h => by cases h <;> rfl) (by decide) ?_
              refine zg_inc7 zd_Table_draw_59 (fun w h => by cases h <;> rfl) (by decide) ?_
              refine zg_goto (tgt := 26) zd_Table_draw_62 (by decide) ?_
              rw [if_neg (by simpa using b39)] at he; exact ihg (a + 1) _ _ (by omega) (by omega) he
      refine zg_il5 zd_Table_draw_10 ?_
      refine zg_al0 zd_Table_draw_12 ?_
      refine zg_geti zd_Table_draw_13 zf_39 (by omega) (by first | assumption | rfl) rfl ?_
      rw [hTn]
      refine zg_icmp_ge (tgt := 87) zd_Table_draw_16 (by decide) (by omega) (by omega) (fun b16 => ?_) (fun b16 => ?_)
      · omega
      · refine zg_bipush zd_Table_draw_19 (by decide) ?_
        refine zg_is6 zd_Table_draw_21 (fun w h => by cases h <;> rfl) (by decide) ?_
        refine zg_iconst zd_Table_draw_23 ?_
        refine zg_is7 zd_Table_draw_24 (fun w h => by cases h <;> rfl) (by decide) ?_
        exact inner 8 0 s 32 (by omega) (by omega) rfl
  have := key n 0 z (zt_w0 V n) none none (by omega) rfl
  exact this
theorem ct_add {sh r : Nat} {c : Nat} (hr : r < 16) (hc : c < 4) : zg_S Γ zm_Ballot_add 0 0 0 [zg_r Γ 21, zg_i r, zg_i c] zk_K 242 (zk_P sh) V (zq_p zk_K 242 (zk_P sh) (zg_u V (23 + r) c (V (23 + r) c + 1)) none) := by
  have hpi := zp_counts (sh := sh) hr
  have hki := (zk_row r hr).2
  refine zg_enter 0 (by decide) (Nat.le_of_ble_eq_true rfl) rfl ?_
  refine zg_al0 zd_Ballot_add_0 ?_
  refine zg_getr zd_Ballot_add_1 zf_60 (by omega) (by first | assumption | rfl) rfl (by first | assumption | rfl) ?_
  refine zg_il1 zd_Ballot_add_4 ?_
  refine zg_aald zd_Ballot_add_5 (by omega) (by first | assumption | rfl) rfl rfl rfl (by omega) (by decide) (by first | assumption | rfl) ?_
  refine zg_il2 zd_Ballot_add_6 ?_
  refine zg_dup2 zd_Ballot_add_7 rfl rfl ?_
  refine zg_iald zd_Ballot_add_8 (by omega) (by first | assumption | rfl) rfl (by omega) (by decide) ?_
  refine zg_iconst zd_Ballot_add_9 ?_
  refine zg_iadd zd_Ballot_add_10 ?_
  refine zg_iast zd_Ballot_add_11 (by omega) (by first | assumption | rfl) rfl (by omega) (by decide) ?_
  refine zg_return zd_Ballot_add_12 rfl ?_
  exact ⟨rfl, rfl, rfl, rfl, rfl⟩
/-- no votes -/
def zt_nv (V : zg_V) (n m : Nat) : zg_V := fun a j => if (23 ≤ a ∧ a < 23 + n ∧ j < 4) ∨ (a = 23 + n ∧ j < m) then 0 else V a j
theorem zt_nv_s (V : zg_V) {n m : Nat} (hm : m < 4) : zg_u (zt_nv V n m) (23 + n) m 0 = zt_nv V n (m + 1) := by
  funext a j
  unfold zg_u zt_nv
  by_cases h : a = 23 + n
  · subst h
    rw [if_pos rfl]
    by_cases h2 : j = m
    · subst h2; rw [if_pos rfl, if_pos (by omega)]
    · rw [if_neg h2]
      by_cases h3 : j < m
      · rw [if_pos (by omega), if_pos (by omega)]
      · rw [if_neg (by omega), if_neg (by omega)]
  · rw [if_neg h]
    by_cases h3 : 23 ≤ a ∧ a < 23 + n ∧ j < 4
    · rw [if_pos (by omega), if_pos (by omega)]
    · rw [if_neg (by omega), if_neg (by omega)]
theorem zt_nv_n (V : zg_V) (n : Nat) : zt_nv V n 4 = zt_nv V (n + 1) 0 := by
  funext a j
  unfold zt_nv
  by_cases h3 : 23 ≤ a ∧ a < 23 + n + 1 ∧ j < 4
  · rw [if_pos (by omega), if_pos (by omega)]
  · rw [if_neg (by omega), if_neg (by omega)]
theorem zt_nv_0 (V : zg_V) : zt_nv V 0 0 = V := by
  funext a j
  unfold zt_nv
  rw [if_neg (by omega)]
theorem ct_vclear {sh : Nat} : zg_S Γ zm_Ballot_clear 0 0 0 [zg_r Γ 21] zk_K 242 (zk_P sh) V (zq_p zk_K 242 (zk_P sh) (zt_nv V 16 0) none) := by
  generalize hQ : zq_p zk_K 242 (zk_P sh) (zt_nv V 16 0) none = Q
  refine zg_enter 2 (by decide) (Nat.le_of_ble_eq_true rfl) rfl ?_
  refine zg_iconst zd_Ballot_clear_0 ?_
  refine zg_is1 zd_Ballot_clear_1 (fun w h => by cases h <;> rfl) (by decide) ?_
  have key : ∀ (j i : Nat) (o2 : Option Value) (hij : i + j = 16), zg_G Γ (fun _ => True) zm_Ballot_clear (zg_rm 0 0 0) (zg_Ω Γ (Q) 0 0) 0 0 2 [some (zg_r Γ (21)), some (zg_i ((i : Nat))), o2] [] zk_K 242 (zk_P sh) (zt_nv V i 0) := by
    intro j
    induction j with
    | zero =>
      intro i o2 hij
      have e : i = 16 := by omega
      subst e
      refine zg_il1 zd_Ballot_clear_2 ?_
      refine zg_bipush zd_Ballot_clear_3 (by decide) ?_
      refine zg_icmp_ge (tgt := 36) zd_Ballot_clear_5 (by decide) (by omega) (by omega) (fun b5 => ?_) (fun b5 => ?_)
      · refine zg_return zd_Ballot_clear_36 rfl ?_
        subst hQ; exact ⟨rfl, rfl, rfl, rfl, rfl⟩
      · omega
    | succ j ih =>
      intro i o2 hij
      have hpi := zp_counts (sh := sh) (show i < 16 by omega)
      have hki := (zk_row i (show i < 16 by omega)).2
      have inner : ∀ (g m : Nat), m + g = 4 → zg_G Γ (fun _ => True) zm_Ballot_clear (zg_rm 0 0 0) (zg_Ω Γ (Q) 0 0) 0 0 10 [some (zg_r Γ (21)), some (zg_i ((i : Nat))), some (zg_i ((m : Nat)))] [] zk_K 242 (zk_P sh) (zt_nv V i m) := by
        intro g
        induction g with
        | zero =>
          intro m hm
          have e : m = 4 := by omega
          subst e
          have ih := ih (i + 1) (some (zg_i ((4 : Nat) : Int))) (by omega)
          rw [← zt_nv_n] at ih
          refine zg_il2 zd_Ballot_clear_10 ?_
          refine zg_iconst zd_Ballot_clear_11 ?_
          refine zg_icmp_ge (tgt := 30) zd_Ballot_clear_12 (by decide) (by omega) (by omega) (fun b12 => ?_) (fun b12 => ?_)
          · refine zg_inc1 zd_Ballot_clear_30 (fun w h => by cases h <;> rfl) (by decide) ?_
            refine zg_goto (tgt := 2) zd_Ballot_clear_33 (by decide) ?_
            exact ih
          · omega
        | succ g ihg =>
          intro m hm
          have ihg := ihg (m + 1) (by omega)
          rw [← zt_nv_s V (by omega)] at ihg
          refine zg_il2 zd_Ballot_clear_10 ?_
          refine zg_iconst zd_Ballot_clear_11 ?_
          refine zg_icmp_ge (tgt := 30) zd_Ballot_clear_12 (by decide) (by omega) (by omega) (fun b12 => ?_) (fun b12 => ?_)
          · omega
          · refine zg_al0 zd_Ballot_clear_15 ?_
            refine zg_getr zd_Ballot_clear_16 zf_60 (by omega) (by first | assumption | rfl) rfl (by first | assumption | rfl) ?_
            refine zg_il1 zd_Ballot_clear_19 ?_
            refine zg_aald zd_Ballot_clear_20 (by omega) (by first | assumption | rfl) rfl rfl rfl (by omega) (by decide) (by first | assumption | rfl) ?_
            refine zg_il2 zd_Ballot_clear_21 ?_
            refine zg_iconst zd_Ballot_clear_22 ?_
            refine zg_iast zd_Ballot_clear_23 (by omega) (by first | assumption | rfl) rfl (by omega) (by decide) ?_
            refine zg_inc2 zd_Ballot_clear_24 (fun w h => by cases h <;> rfl) (by decide) ?_
            refine zg_goto (tgt := 10) zd_Ballot_clear_27 (by decide) ?_
            exact ihg
      refine zg_il1 zd_Ballot_clear_2 ?_
      refine zg_bipush zd_Ballot_clear_3 (by decide) ?_
      refine zg_icmp_ge (tgt := 36) zd_Ballot_clear_5 (by decide) (by omega) (by omega) (fun b5 => ?_) (fun b5 => ?_)
      · omega
      · refine zg_iconst zd_Ballot_clear_8 ?_
        refine zg_is2 zd_Ballot_clear_9 (fun w h => by cases h <;> rfl) (by decide) ?_
        exact inner 4 0 (by omega)
  have := key 16 0 none (by omega)
  rw [zt_nv_0] at this
  exact this
/-- the least class of the most votes, -1 without votes -/
def zt_ch (v : Nat → Int) : Nat → Int × Int
  | 0 => (-1, 0)
  | c + 1 => if (zt_ch v c).2 < v c then ((c : Int), v c) else zt_ch v c
theorem zt_ch_s (v : Nat → Int) (c : Nat) : zt_ch v (c + 1) = if (zt_ch v c).2 < v c then ((c : Int), v c) else zt_ch v c := rfl
theorem ct_choice {sh r : Nat} (hr : r < 16) (hv : ∀ c, c < 4 → -2147483648 ≤ V (23 + r) c ∧ V (23 + r) c < 2147483648) : zg_S Γ zm_Ballot_choice 0 0 0 [zg_r Γ 21, zg_i r] zk_K 242 (zk_P sh) V (zq_p zk_K 242 (zk_P sh) V (some (zg_i (zt_ch (V (23 + r)) 4).1))) := by
  have hpi := zp_counts (sh := sh) hr
  have hki := (zk_row r hr).2
  generalize hQ : zq_p zk_K 242 (zk_P sh) V (some (zg_i (zt_ch (V (23 + r)) 4).1)) = Q
  refine zg_enter 3 (by decide) (Nat.le_of_ble_eq_true rfl) rfl ?_
  refine zg_iconst zd_Ballot_choice_0 ?_
  refine zg_is2 zd_Ballot_choice_1 (fun w h => by cases h <;> rfl) (by decide) ?_
  refine zg_iconst zd_Ballot_choice_2 ?_
  refine zg_is3 zd_Ballot_choice_3 (fun w h => by cases h <;> rfl) (by decide) ?_
  refine zg_iconst zd_Ballot_choice_4 ?_
  refine zg_is4 zd_Ballot_choice_5 (fun w h => by cases h <;> rfl) (by decide) ?_
  have hb : ∀ c, c ≤ 4 → -2147483648 ≤ (zt_ch (V (23 + r)) c).2 ∧ (zt_ch (V (23 + r)) c).2 < 2147483648 := by
    intro c
    induction c with
    | zero => intro _; exact ⟨by show (-2147483648 : Int) ≤ 0; decide, by show (0 : Int) < 2147483648; decide⟩
    | succ c ih =>
      intro h
      unfold zt_ch
      split
      · exact hv c (by omega)
      · exact ih (by omega)
  have key : ∀ (j i : Nat) (hij : i + j = 4), zg_G Γ (fun _ => True) zm_Ballot_choice (zg_rm 0 0 0) (zg_Ω Γ (Q) 0 0) 0 0 7 [some (zg_r Γ (21)), some (zg_i (r)), some (zg_i ((zt_ch (V (23 + r)) i).1)), some (zg_i ((zt_ch (V (23 + r)) i).2)), some (zg_i ((i : Nat)))] [] zk_K 242 (zk_P sh) (V) := by
    intro j
    induction j with
    | zero =>
      intro i hij
      have e : i = 4 := by omega
      subst e
      refine zg_il4 zd_Ballot_choice_7 ?_
      refine zg_iconst zd_Ballot_choice_9 ?_
      refine zg_icmp_ge (tgt := 45) zd_Ballot_choice_10 (by decide) (by omega) (by omega) (fun b10 => ?_) (fun b10 => ?_)
      · refine zg_il2 zd_Ballot_choice_45 ?_
        refine zg_ireturn zd_Ballot_choice_46 rfl ?_
        subst hQ; exact ⟨rfl, rfl, rfl, rfl, rfl⟩
      · omega
    | succ j ih =>
      intro i hij
      have ih := ih (i + 1) (by omega)
      have hvi := hv i (by omega)
      have hbi := hb i (by omega)
      rw [zt_ch_s] at ih
      refine zg_il4 zd_Ballot_choice_7 ?_
      refine zg_iconst zd_Ballot_choice_9 ?_
      refine zg_icmp_ge (tgt := 45) zd_Ballot_choice_10 (by decide) (by omega) (by omega) (fun b10 => ?_) (fun b10 => ?_)
      · omega
      · refine zg_al0 zd_Ballot_choice_13 ?_
        refine zg_getr zd_Ballot_choice_14 zf_60 (by omega) (by first | assumption | rfl) rfl (by first | assumption | rfl) ?_
        refine zg_il1 zd_Ballot_choice_17 ?_
        refine zg_aald zd_Ballot_choice_18 (by omega) (by first | assumption | rfl) rfl rfl rfl (by omega) (by decide) (by first | assumption | rfl) ?_
        refine zg_il4 zd_Ballot_choice_19 ?_
        refine zg_iald zd_Ballot_choice_21 (by omega) (by first | assumption | rfl) rfl (by omega) (by decide) ?_
        refine zg_il3 zd_Ballot_choice_22 ?_
        refine zg_icmp_le (tgt := 39) zd_Ballot_choice_23 (by decide) (by omega) (by omega) (fun b23 => ?_) (fun b23 => ?_)
        · refine zg_inc4 zd_Ballot_choice_39 (fun w h => by cases h <;> rfl) (by decide) ?_
          refine zg_goto (tgt := 7) zd_Ballot_choice_42 (by decide) ?_
          first | (rw [if_pos (by omega)] at ih; exact ih) | (rw [if_neg (by omega)] at ih; exact ih)
        · refine zg_al0 zd_Ballot_choice_26 ?_
          refine zg_getr zd_Ballot_choice_27 zf_60 (by omega) (by first | assumption | rfl) rfl (by first | assumption | rfl) ?_
          refine zg_il1 zd_Ballot_choice_30 ?_
          refine zg_aald zd_Ballot_choice_31 (by omega) (by first | assumption | rfl) rfl rfl rfl (by omega) (by decide) (by first | assumption | rfl) ?_
          refine zg_il4 zd_Ballot_choice_32 ?_
          refine zg_iald zd_Ballot_choice_34 (by omega) (by first | assumption | rfl) rfl (by omega) (by decide) ?_
          refine zg_is3 zd_Ballot_choice_35 (fun w h => by cases h <;> rfl) (by decide) ?_
          refine zg_il4 zd_Ballot_choice_36 ?_
          refine zg_is2 zd_Ballot_choice_38 (fun w h => by cases h <;> rfl) (by decide) ?_
          refine zg_inc4 zd_Ballot_choice_39 (fun w h => by cases h <;> rfl) (by decide) ?_
          refine zg_goto (tgt := 7) zd_Ballot_choice_42 (by decide) ?_
          first | (rw [if_pos (by omega)] at ih; exact ih) | (rw [if_neg (by omega)] at ih; exact ih)
  exact key 4 0 (by omega)
end ZT2

