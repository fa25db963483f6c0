/-! Table: readers -/
/-- the weight of the rows of s below n -/
def zt_w (w : Nat → Int) (s : Nat) (n : Nat) : Int := zs_sum (fun r => if s.testBit r then w r else 0) n
theorem zt_w_s (w : Nat → Int) (s i : Nat) : zt_w w s (i + 1) = zt_w w s i + (if s.testBit i then w i else 0) := rfl
theorem zs_mk_s (p : Nat → Bool) (i : Nat) : zs_mk p (i + 1) = if p i then zs_mk p i ||| 2 ^ i else zs_mk p i := rfl
theorem zs_mk_lt16 (p : Nat → Bool) {n : Nat} (h : n ≤ 16) : zs_mk p n < 65536 := Nat.lt_of_lt_of_le (zs_mk_lt p n) (Nat.pow_le_pow_right (by omega) h)
def zt_cls (cl : Nat → Int) (s : Nat) (c : Int) (n : Nat) : Nat := zs_mk (fun r => s.testBit r && decide (cl r = c)) n
def zt_pres (va : Nat → Nat → Int) (s f n : Nat) : Nat := zs_mk (fun r => s.testBit r && decide (va r f ≠ -2147483648)) n
def zt_upto (va : Nat → Nat → Int) (s f : Nat) (t : Int) (n : Nat) : Nat := zs_mk (fun r => s.testBit r && decide (va r f ≤ t)) n
def zt_pos (w : Nat → Int) (n : Nat) : Nat := zs_mk (fun r => decide (0 < w r)) n
abbrev zt_va (V : zg_V) : Nat → Nat → Int := fun r f => V (3 + r) f
/-- the table holds n rows, its numbers are in their bounds -/
def zt_T (V : zg_V) (n : Nat) : Prop := V 1 3 = (n : Int) ∧ n ≤ 16 ∧ (∀ r f, r < 16 → f < 3 → -2147483648 ≤ V (3 + r) f ∧ V (3 + r) f < 2147483648) ∧ (∀ r, r < 16 → 0 ≤ V 19 r ∧ V 19 r < 4) ∧ (∀ r, r < 16 → 0 ≤ V 20 r ∧ V 20 r ≤ 16) ∧ zs_sum (V 20) n ≤ 16
section ZT1
variable {Γ : zg_C} {K : zg_K} {N : Nat} {P : zg_P} {V : zg_V}
theorem ct_contains {s r : Nat} (hs : s < 65536) (hr : r < 16) : zg_S Γ zm_Table_contains 0 0 0 [zg_i s, zg_i r] K N P V (zq_p K N P V (some (zg_i (zg_b (s.testBit r))))) := by
  refine zg_enter 0 (by decide) (Nat.le_of_ble_eq_true rfl) rfl ?_
  refine zg_il0 zd_Table_contains_0 ?_
  refine zg_il1 zd_Table_contains_1 ?_
  refine zg_ishrR zd_Table_contains_2 ?_
  refine zg_iconst zd_Table_contains_3 ?_
  refine zg_iand (zg_b (s.testBit r)) zd_Table_contains_4 (by rw [zb_bit (by omega) (by omega)]; cases s.testBit r <;> rfl) ?_
  generalize s.testBit r = b
  refine zg_if_eqB (tgt := 12) zd_Table_contains_5 (by decide) (fun h => ?_) (fun h => ?_)
  · subst h
    refine zg_iconst zd_Table_contains_12 ?_
    refine zg_zreturn zd_Table_contains_13 rfl (by omega) ?_
    exact ⟨rfl, rfl, rfl, rfl, rfl⟩
  · subst h
    refine zg_iconst zd_Table_contains_8 ?_
    refine zg_goto (tgt := 13) zd_Table_contains_9 (by decide) ?_
    refine zg_zreturn zd_Table_contains_13 rfl (by omega) ?_
    exact ⟨rfl, rfl, rfl, rfl, rfl⟩
theorem ct_weightOf {sh s n : Nat} (hs : s < 65536) (hT : zt_T V n) : zg_S Γ zm_Table_weightOf 1 0 0 [zg_r Γ 1, zg_i s] zk_K 242 (zk_P sh) V (zq_p zk_K 242 (zk_P sh) V (some (zg_i (zt_w (V 20) s n)))) := by
  obtain ⟨hn, hn16, -⟩ := hT
  refine zg_enter 2 (by decide) (Nat.le_of_ble_eq_true rfl) rfl ?_
  refine zg_iconst zd_Table_weightOf_0 ?_
  refine zg_is2 zd_Table_weightOf_1 (fun w h => by cases h <;> rfl) (by decide) ?_
  refine zg_iconst zd_Table_weightOf_2 ?_
  refine zg_is3 zd_Table_weightOf_3 (fun w h => by cases h <;> rfl) (by decide) ?_
  have key : ∀ (j i : Nat) (hij : i + j = n), zg_G Γ (fun _ => True) zm_Table_weightOf (zg_rm 1 0 0) (zg_Ω Γ (zq_p zk_K 242 (zk_P sh) V (some (zg_i (zt_w (V 20) s n)))) 0 0) 0 0 4 [some (zg_r Γ (1)), some (zg_i (s)), some (zg_i (zt_w (V 20) s i)), some (zg_i ((i : Nat)))] [] zk_K 242 (zk_P sh) (V) := by
    intro j
    induction j with
    | zero =>
      intro i hij
      have e : i = n := by omega
      subst e
      refine zg_il3 zd_Table_weightOf_4 ?_
      refine zg_al0 zd_Table_weightOf_5 ?_
      refine zg_geti zd_Table_weightOf_6 zf_39 (by omega) (by first | assumption | rfl) rfl ?_
      rw [hn]
      refine zg_icmp_ge (tgt := 35) zd_Table_weightOf_9 (by decide) (by omega) (by omega) (fun b9 => ?_) (fun b9 => ?_)
      · refine zg_il2 zd_Table_weightOf_35 ?_
        refine zg_ireturn zd_Table_weightOf_36 rfl ?_
        exact ⟨rfl, rfl, rfl, rfl, rfl⟩
      · omega
    | succ j ih =>
      intro i hij
      have ih := ih (i + 1) (by omega)
      rw [zt_w_s] at ih
      refine zg_il3 zd_Table_weightOf_4 ?_
      refine zg_al0 zd_Table_weightOf_5 ?_
      refine zg_geti zd_Table_weightOf_6 zf_39 (by omega) (by first | assumption | rfl) rfl ?_
      rw [hn]
      refine zg_icmp_ge (tgt := 35) zd_Table_weightOf_9 (by decide) (by omega) (by omega) (fun b9 => ?_) (fun b9 => ?_)
      · omega
      · refine zg_il1 zd_Table_weightOf_12 ?_
        refine zg_il3 zd_Table_weightOf_13 ?_
        refine zg_cSp2 zd_Table_weightOf_14 zM_Table_contains zw_286 zi_Table_contains (ct_contains hs (by omega)) (by decide) (by decide) (Nat.le_of_ble_eq_true rfl) ?_
        refine zg_if_eqB (tgt := 29) zd_Table_weightOf_17 (by decide) (fun b17 => ?_) (fun b17 => ?_)
        · refine zg_inc3 zd_Table_weightOf_29 (fun w h => by cases h <;> rfl) (by decide) ?_
          refine zg_goto (tgt := 4) zd_Table_weightOf_32 (by decide) ?_
          first | (rw [if_pos b17] at ih; exact ih) | (rw [b17, if_neg (by decide), Int.add_zero] at ih; exact ih)
        · refine zg_il2 zd_Table_weightOf_20 ?_
          refine zg_al0 zd_Table_weightOf_21 ?_
          refine zg_getr zd_Table_weightOf_22 zf_37 (by omega) (by first | assumption | rfl) rfl (by first | assumption | rfl) ?_
          refine zg_il3 zd_Table_weightOf_25 ?_
          refine zg_iald zd_Table_weightOf_26 (by omega) (by first | assumption | rfl) rfl (by omega) (by decide) ?_
          refine zg_iadd zd_Table_weightOf_27 ?_
          refine zg_is2 zd_Table_weightOf_28 (fun w h => by cases h <;> rfl) (by decide) ?_
          refine zg_inc3 zd_Table_weightOf_29 (fun w h => by cases h <;> rfl) (by decide) ?_
          refine zg_goto (tgt := 4) zd_Table_weightOf_32 (by decide) ?_
          first | (rw [if_pos b17] at ih; exact ih) | (rw [b17, if_neg (by decide), Int.add_zero] at ih; exact ih)
  exact key n 0 (by omega)
theorem ct_weightyRows {sh n : Nat} (hT : zt_T V n) : zg_S Γ zm_Table_weightyRows 0 0 0 [zg_r Γ 1] zk_K 242 (zk_P sh) V (zq_p zk_K 242 (zk_P sh) V (some (zg_i (zt_pos (V 20) n)))) := by
  obtain ⟨hn, hn16, -, -, hw, -⟩ := hT
  refine zg_enter 2 (by decide) (Nat.le_of_ble_eq_true rfl) rfl ?_
  refine zg_iconst zd_Table_weightyRows_0 ?_
  refine zg_is1 zd_Table_weightyRows_1 (fun w h => by cases h <;> rfl) (by decide) ?_
  refine zg_iconst zd_Table_weightyRows_2 ?_
  refine zg_is2 zd_Table_weightyRows_3 (fun w h => by cases h <;> rfl) (by decide) ?_
  have key : ∀ (j i : Nat) (hij : i + j = n), zg_G Γ (fun _ => True) zm_Table_weightyRows (zg_rm 0 0 0) (zg_Ω Γ (zq_p zk_K 242 (zk_P sh) V (some (zg_i (zt_pos (V 20) n)))) 0 0) 0 0 4 [some (zg_r Γ (1)), some (zg_i ((zt_pos (V 20) i : Nat))), some (zg_i ((i : Nat)))] [] zk_K 242 (zk_P sh) (V) := by
    intro j
    induction j with
    | zero =>
      intro i hij
      have e : i = n := by omega
      subst e
      refine zg_il2 zd_Table_weightyRows_4 ?_
      refine zg_al0 zd_Table_weightyRows_5 ?_
      refine zg_geti zd_Table_weightyRows_6 zf_39 (by omega) (by first | assumption | rfl) rfl ?_
      rw [hn]
      refine zg_icmp_ge (tgt := 33) zd_Table_weightyRows_9 (by decide) (by omega) (by omega) (fun b9 => ?_) (fun b9 => ?_)
      · refine zg_il1 zd_Table_weightyRows_33 ?_
        refine zg_ireturn zd_Table_weightyRows_34 rfl ?_
        exact ⟨rfl, rfl, rfl, rfl, rfl⟩
      · omega
    | succ j ih =>
      intro i hij
      have ih := ih (i + 1) (by omega)
      have hwi := hw i (by omega)
      unfold zt_pos at ih ⊢
      rw [zs_mk_s] at ih
      refine zg_il2 zd_Table_weightyRows_4 ?_
      refine zg_al0 zd_Table_weightyRows_5 ?_
      refine zg_geti zd_Table_weightyRows_6 zf_39 (by omega) (by first | assumption | rfl) rfl ?_
      rw [hn]
      refine zg_icmp_ge (tgt := 33) zd_Table_weightyRows_9 (by decide) (by omega) (by omega) (fun b9 => ?_) (fun b9 => ?_)
      · omega
      · refine zg_al0 zd_Table_weightyRows_12 ?_
        refine zg_getr zd_Table_weightyRows_13 zf_37 (by omega) (by first | assumption | rfl) rfl (by first | assumption | rfl) ?_
        refine zg_il2 zd_Table_weightyRows_16 ?_
        refine zg_iald zd_Table_weightyRows_17 (by omega) (by first | assumption | rfl) rfl (by omega) (by decide) ?_
        refine zg_if_le (tgt := 27) zd_Table_weightyRows_18 (by decide) (by omega) (fun b18 => ?_) (fun b18 => ?_)
        · refine zg_inc2 zd_Table_weightyRows_27 (fun w h => by cases h <;> rfl) (by decide) ?_
          refine zg_goto (tgt := 4) zd_Table_weightyRows_30 (by decide) ?_
          first | (rw [if_pos (by simp [zt_va, *] <;> omega)] at ih; exact ih) | (rw [if_neg (by simp [zt_va, *] <;> omega)] at ih; exact ih)
        · refine zg_il1 zd_Table_weightyRows_21 ?_
          refine zg_iconst zd_Table_weightyRows_22 ?_
          refine zg_il2 zd_Table_weightyRows_23 ?_
          refine zg_ishl ((2 ^ i : Nat) : Int) zd_Table_weightyRows_24 (zb_shl i (by omega)) ?_
          refine zg_ior ((zs_mk (fun r => decide (0 < V 20 r)) i ||| 2 ^ i : Nat) : Int) zd_Table_weightyRows_25 (zb_or _ _) ?_
          refine zg_is1 zd_Table_weightyRows_26 (fun w h => by cases h <;> rfl) (by decide) ?_
          refine zg_inc2 zd_Table_weightyRows_27 (fun w h => by cases h <;> rfl) (by decide) ?_
          refine zg_goto (tgt := 4) zd_Table_weightyRows_30 (by decide) ?_
          first | (rw [if_pos (by simp [zt_va, *] <;> omega)] at ih; exact ih) | (rw [if_neg (by simp [zt_va, *] <;> omega)] at ih; exact ih)
  exact key n 0 (by omega)
theorem ct_rowsInClass {sh s n : Nat} {c : Int} (hs : s < 65536) (hc : 0 ≤ c ∧ c < 4) (hT : zt_T V n) : zg_S Γ zm_Table_rowsInClass 1 0 0 [zg_r Γ 1, zg_i s, zg_i c] zk_K 242 (zk_P sh) V (zq_p zk_K 242 (zk_P sh) V (some (zg_i (zt_cls (V 19) s c n)))) := by
  obtain ⟨hn, hn16, -, hcl, -⟩ := hT
  refine zg_enter 2 (by decide) (Nat.le_of_ble_eq_true rfl) rfl ?_
  refine zg_iconst zd_Table_rowsInClass_0 ?_
  refine zg_is3 zd_Table_rowsInClass_1 (fun w h => by cases h <;> rfl) (by decide) ?_
  refine zg_iconst zd_Table_rowsInClass_2 ?_
  refine zg_is4 zd_Table_rowsInClass_3 (fun w h => by cases h <;> rfl) (by decide) ?_
  have key : ∀ (j i : Nat) (hij : i + j = n), zg_G Γ (fun _ => True) zm_Table_rowsInClass (zg_rm 1 0 0) (zg_Ω Γ (zq_p zk_K 242 (zk_P sh) V (some (zg_i (zt_cls (V 19) s c n)))) 0 0) 0 0 5 [some (zg_r Γ (1)), some (zg_i (s)), some (zg_i (c)), some (zg_i ((zt_cls (V 19) s c i : Nat))), some (zg_i ((i : Nat)))] [] zk_K 242 (zk_P sh) (V) := by
    intro j
    induction j with
    | zero =>
      intro i hij
      have e : i = n := by omega
      subst e
      refine zg_il4 zd_Table_rowsInClass_5 ?_
      refine zg_al0 zd_Table_rowsInClass_7 ?_
      refine zg_geti zd_Table_rowsInClass_8 zf_39 (by omega) (by first | assumption | rfl) rfl ?_
      rw [hn]
      refine zg_icmp_ge (tgt := 47) zd_Table_rowsInClass_11 (by decide) (by omega) (by omega) (fun b11 => ?_) (fun b11 => ?_)
      · refine zg_il3 zd_Table_rowsInClass_47 ?_
        refine zg_ireturn zd_Table_rowsInClass_48 rfl ?_
        exact ⟨rfl, rfl, rfl, rfl, rfl⟩
      · omega
    | succ j ih =>
      intro i hij
      have ih := ih (i + 1) (by omega)
      have hci := hcl i (by omega)
      unfold zt_cls at ih ⊢
      rw [zs_mk_s] at ih
      refine zg_il4 zd_Table_rowsInClass_5 ?_
      refine zg_al0 zd_Table_rowsInClass_7 ?_
      refine zg_geti zd_Table_rowsInClass_8 zf_39 (by omega) (by first | assumption | rfl) rfl ?_
      rw [hn]
      refine zg_icmp_ge (tgt := 47) zd_Table_rowsInClass_11 (by decide) (by omega) (by omega) (fun b11 => ?_) (fun b11 => ?_)
      · omega
      · refine zg_il1 zd_Table_rowsInClass_14 ?_
        refine zg_il4 zd_Table_rowsInClass_15 ?_
        refine zg_cSp2 zd_Table_rowsInClass_17 zM_Table_contains zw_286 zi_Table_contains (ct_contains hs (by omega)) (by decide) (by decide) (Nat.le_of_ble_eq_true rfl) ?_
        refine zg_if_eqB (tgt := 41) zd_Table_rowsInClass_20 (by decide) (fun b20 => ?_) (fun b20 => ?_)
        · refine zg_inc4 zd_Table_rowsInClass_41 (fun w h => by cases h <;> rfl) (by decide) ?_
          refine zg_goto (tgt := 5) zd_Table_rowsInClass_44 (by decide) ?_
          first | (rw [if_pos (by simp [zt_va, *] <;> omega)] at ih; exact ih) | (rw [if_neg (by simp [zt_va, *] <;> omega)] at ih; exact ih)
        · refine zg_al0 zd_Table_rowsInClass_23 ?_
          refine zg_getr zd_Table_rowsInClass_24 zf_35 (by omega) (by first | assumption | rfl) rfl (by first | assumption | rfl) ?_
          refine zg_il4 zd_Table_rowsInClass_27 ?_
          refine zg_iald zd_Table_rowsInClass_29 (by omega) (by first | assumption | rfl) rfl (by omega) (by decide) ?_
          refine zg_il2 zd_Table_rowsInClass_30 ?_
          refine zg_icmp_ne (tgt := 41) zd_Table_rowsInClass_31 (by decide) (by omega) (by omega) (fun b31 => ?_) (fun b31 => ?_)
          · refine zg_inc4 zd_Table_rowsInClass_41 (fun w h => by cases h <;> rfl) (by decide) ?_
            refine zg_goto (tgt := 5) zd_Table_rowsInClass_44 (by decide) ?_
            first | (rw [if_pos (by simp [zt_va, *] <;> omega)] at ih; exact ih) | (rw [if_neg (by simp [zt_va, *] <;> omega)] at ih; exact ih)
          · refine zg_il3 zd_Table_rowsInClass_34 ?_
            refine zg_iconst zd_Table_rowsInClass_35 ?_
            refine zg_il4 zd_Table_rowsInClass_36 ?_
            refine zg_ishl ((2 ^ i : Nat) : Int) zd_Table_rowsInClass_38 (zb_shl i (by omega)) ?_
            refine zg_ior ((zs_mk (fun r => s.testBit r && decide (V 19 r = c)) i ||| 2 ^ i : Nat) : Int) zd_Table_rowsInClass_39 (zb_or _ _) ?_
            refine zg_is3 zd_Table_rowsInClass_40 (fun w h => by cases h <;> rfl) (by decide) ?_
            refine zg_inc4 zd_Table_rowsInClass_41 (fun w h => by cases h <;> rfl) (by decide) ?_
            refine zg_goto (tgt := 5) zd_Table_rowsInClass_44 (by decide) ?_
            first | (rw [if_pos (by simp [zt_va, *] <;> omega)] at ih; exact ih) | (rw [if_neg (by simp [zt_va, *] <;> omega)] at ih; exact ih)
  exact key n 0 (by omega)
theorem ct_rowsPresent {sh s f n : Nat} (hs : s < 65536) (hf : f < 3) (hT : zt_T V n) : zg_S Γ zm_Table_rowsPresent 1 0 0 [zg_r Γ 1, zg_i s, zg_i f] zk_K 242 (zk_P sh) V (zq_p zk_K 242 (zk_P sh) V (some (zg_i (zt_pres (zt_va V) s f n)))) := by
  obtain ⟨hn, hn16, hva, -, -⟩ := hT
  refine zg_enter 2 (by decide) (Nat.le_of_ble_eq_true rfl) rfl ?_
  refine zg_iconst zd_Table_rowsPresent_0 ?_
  refine zg_is3 zd_Table_rowsPresent_1 (fun w h => by cases h <;> rfl) (by decide) ?_
  refine zg_iconst zd_Table_rowsPresent_2 ?_
  refine zg_is4 zd_Table_rowsPresent_3 (fun w h => by cases h <;> rfl) (by decide) ?_
  have key : ∀ (j i : Nat) (hij : i + j = n), zg_G Γ (fun _ => True) zm_Table_rowsPresent (zg_rm 1 0 0) (zg_Ω Γ (zq_p zk_K 242 (zk_P sh) V (some (zg_i (zt_pres (zt_va V) s f n)))) 0 0) 0 0 5 [some (zg_r Γ (1)), some (zg_i (s)), some (zg_i (f)), some (zg_i ((zt_pres (zt_va V) s f i : Nat))), some (zg_i ((i : Nat)))] [] zk_K 242 (zk_P sh) (V) := by
    intro j
    induction j with
    | zero =>
      intro i hij
      have e : i = n := by omega
      subst e
      refine zg_il4 zd_Table_rowsPresent_5 ?_
      refine zg_al0 zd_Table_rowsPresent_7 ?_
      refine zg_geti zd_Table_rowsPresent_8 zf_39 (by omega) (by first | assumption | rfl) rfl ?_
      rw [hn]
      refine zg_icmp_ge (tgt := 50) zd_Table_rowsPresent_11 (by decide) (by omega) (by omega) (fun b11 => ?_) (fun b11 => ?_)
      · refine zg_il3 zd_Table_rowsPresent_50 ?_
        refine zg_ireturn zd_Table_rowsPresent_51 rfl ?_
        exact ⟨rfl, rfl, rfl, rfl, rfl⟩
      · omega
    | succ j ih =>
      intro i hij
      have ih := ih (i + 1) (by omega)
      have hvi := hva i f (by omega) hf
      have hpi := zp_values (sh := sh) (show i < 16 by omega)
      have hki := (zk_row i (by omega)).1
      unfold zt_pres at ih ⊢
      rw [zs_mk_s] at ih
      refine zg_il4 zd_Table_rowsPresent_5 ?_
      refine zg_al0 zd_Table_rowsPresent_7 ?_
      refine zg_geti zd_Table_rowsPresent_8 zf_39 (by omega) (by first | assumption | rfl) rfl ?_
      rw [hn]
      refine zg_icmp_ge (tgt := 50) zd_Table_rowsPresent_11 (by decide) (by omega) (by omega) (fun b11 => ?_) (fun b11 => ?_)
      · omega
      · refine zg_il1 zd_Table_rowsPresent_14 ?_
        refine zg_il4 zd_Table_rowsPresent_15 ?_
        refine zg_cSp2 zd_Table_rowsPresent_17 zM_Table_contains zw_286 zi_Table_contains (ct_contains hs (by omega)) (by decide) (by decide) (Nat.le_of_ble_eq_true rfl) ?_
        refine zg_if_eqB (tgt := 44) zd_Table_rowsPresent_20 (by decide) (fun b20 => ?_) (fun b20 => ?_)
        · refine zg_inc4 zd_Table_rowsPresent_44 (fun w h => by cases h <;> rfl) (by decide) ?_
          refine zg_goto (tgt := 5) zd_Table_rowsPresent_47 (by decide) ?_
          first | (rw [if_pos (by simp [zt_va, *] <;> omega)] at ih; exact ih) | (rw [if_neg (by simp [zt_va, *] <;> omega)] at ih; exact ih)
        · refine zg_al0 zd_Table_rowsPresent_23 ?_
          refine zg_getr zd_Table_rowsPresent_24 zf_31 (by omega) (by first | assumption | rfl) rfl (by first | assumption | rfl) ?_
          refine zg_il4 zd_Table_rowsPresent_27 ?_
          refine zg_aald zd_Table_rowsPresent_29 (by omega) (by first | assumption | rfl) rfl rfl rfl (by omega) (by decide) (by first | assumption | rfl) ?_
          refine zg_il2 zd_Table_rowsPresent_30 ?_
          refine zg_iald zd_Table_rowsPresent_31 (by omega) (by first | assumption | rfl) rfl (by omega) (by decide) ?_
          refine zg_ldc (-2147483648) zd_Table_rowsPresent_32 zw_416 (by decide) ?_
          refine zg_icmp_eq (tgt := 44) zd_Table_rowsPresent_34 (by decide) (by omega) (by omega) (fun b34 => ?_) (fun b34 => ?_)
          · refine zg_inc4 zd_Table_rowsPresent_44 (fun w h => by cases h <;> rfl) (by decide) ?_
            refine zg_goto (tgt := 5) zd_Table_rowsPresent_47 (by decide) ?_
            first | (rw [if_pos (by simp [zt_va, *] <;> omega)] at ih; exact ih) | (rw [if_neg (by simp [zt_va, *] <;> omega)] at ih; exact ih)
          · refine zg_il3 zd_Table_rowsPresent_37 ?_
            refine zg_iconst zd_Table_rowsPresent_38 ?_
            refine zg_il4 zd_Table_rowsPresent_39 ?_
            refine zg_ishl ((2 ^ i : Nat) : Int) zd_Table_rowsPresent_41 (zb_shl i (by omega)) ?_
            refine zg_ior ((zs_mk (fun r => s.testBit r && decide (zt_va V r f ≠ -2147483648)) i ||| 2 ^ i : Nat) : Int) zd_Table_rowsPresent_42 (zb_or _ _) ?_
            refine zg_is3 zd_Table_rowsPresent_43 (fun w h => by cases h <;> rfl) (by decide) ?_
            refine zg_inc4 zd_Table_rowsPresent_44 (fun w h => by cases h <;> rfl) (by decide) ?_
            refine zg_goto (tgt := 5) zd_Table_rowsPresent_47 (by decide) ?_
            first | (rw [if_pos (by simp [zt_va, *] <;> omega)] at ih; exact ih) | (rw [if_neg (by simp [zt_va, *] <;> omega)] at ih; exact ih)
  exact key n 0 (by omega)
theorem ct_rowsUpTo {sh s f n : Nat} {t : Int} (hs : s < 65536) (hf : f < 3) (ht : -2147483648 ≤ t ∧ t < 2147483648) (hT : zt_T V n) : zg_S Γ zm_Table_rowsUpTo 1 0 0 [zg_r Γ 1, zg_i s, zg_i f, zg_i t] zk_K 242 (zk_P sh) V (zq_p zk_K 242 (zk_P sh) V (some (zg_i (zt_upto (zt_va V) s f t n)))) := by
  obtain ⟨hn, hn16, hva, -, -⟩ := hT
  refine zg_enter 2 (by decide) (Nat.le_of_ble_eq_true rfl) rfl ?_
  refine zg_iconst zd_Table_rowsUpTo_0 ?_
  refine zg_is4 zd_Table_rowsUpTo_1 (fun w h => by cases h <;> rfl) (by decide) ?_
  refine zg_iconst zd_Table_rowsUpTo_3 ?_
  refine zg_is5 zd_Table_rowsUpTo_4 (fun w h => by cases h <;> rfl) (by decide) ?_
  have key : ∀ (j i : Nat) (hij : i + j = n), zg_G Γ (fun _ => True) zm_Table_rowsUpTo (zg_rm 1 0 0) (zg_Ω Γ (zq_p zk_K 242 (zk_P sh) V (some (zg_i (zt_upto (zt_va V) s f t n)))) 0 0) 0 0 6 [some (zg_r Γ (1)), some (zg_i (s)), some (zg_i (f)), some (zg_i (t)), some (zg_i ((zt_upto (zt_va V) s f t i : Nat))), some (zg_i ((i : Nat)))] [] zk_K 242 (zk_P sh) (V) := by
    intro j
    induction j with
    | zero =>
      intro i hij
      have e : i = n := by omega
      subst e
      refine zg_il5 zd_Table_rowsUpTo_6 ?_
      refine zg_al0 zd_Table_rowsUpTo_8 ?_
      refine zg_geti zd_Table_rowsUpTo_9 zf_39 (by omega) (by first | assumption | rfl) rfl ?_
      rw [hn]
      refine zg_icmp_ge (tgt := 52) zd_Table_rowsUpTo_12 (by decide) (by omega) (by omega) (fun b12 => ?_) (fun b12 => ?_)
      · refine zg_il4 zd_Table_rowsUpTo_52 ?_
        refine zg_ireturn zd_Table_rowsUpTo_54 rfl ?_
        exact ⟨rfl, rfl, rfl, rfl, rfl⟩
      · omega
    | succ j ih =>
      intro i hij
      have ih := ih (i + 1) (by omega)
      have hvi := hva i f (by omega) hf
      have hpi := zp_values (sh := sh) (show i < 16 by omega)
      have hki := (zk_row i (by omega)).1
      unfold zt_upto at ih ⊢
      rw [zs_mk_s] at ih
      refine zg_il5 zd_Table_rowsUpTo_6 ?_
      refine zg_al0 zd_Table_rowsUpTo_8 ?_
      refine zg_geti zd_Table_rowsUpTo_9 zf_39 (by omega) (by first | assumption | rfl) rfl ?_
      rw [hn]
      refine zg_icmp_ge (tgt := 52) zd_Table_rowsUpTo_12 (by decide) (by omega) (by omega) (fun b12 => ?_) (fun b12 => ?_)
      · omega
      · refine zg_il1 zd_Table_rowsUpTo_15 ?_
        refine zg_il5 zd_Table_rowsUpTo_16 ?_
        refine zg_cSp2 zd_Table_rowsUpTo_18 zM_Table_contains zw_286 zi_Table_contains (ct_contains hs (by omega)) (by decide) (by decide) (Nat.le_of_ble_eq_true rfl) ?_
        refine zg_if_eqB (tgt := 46) zd_Table_rowsUpTo_21 (by decide) (fun b21 => ?_) (fun b21 => ?_)
        · refine zg_inc5 zd_Table_rowsUpTo_46 (fun w h => by cases h <;> rfl) (by decide) ?_
          refine zg_goto (tgt := 6) zd_Table_rowsUpTo_49 (by decide) ?_
          first | (rw [if_pos (by simp [zt_va, *] <;> omega)] at ih; exact ih) | (rw [if_neg (by simp [zt_va, *] <;> omega)] at ih; exact ih)
        · refine zg_al0 zd_Table_rowsUpTo_24 ?_
          refine zg_getr zd_Table_rowsUpTo_25 zf_31 (by omega) (by first | assumption | rfl) rfl (by first | assumption | rfl) ?_
          refine zg_il5 zd_Table_rowsUpTo_28 ?_
          refine zg_aald zd_Table_rowsUpTo_30 (by omega) (by first | assumption | rfl) rfl rfl rfl (by omega) (by decide) (by first | assumption | rfl) ?_
          refine zg_il2 zd_Table_rowsUpTo_31 ?_
          refine zg_iald zd_Table_rowsUpTo_32 (by omega) (by first | assumption | rfl) rfl (by omega) (by decide) ?_
          refine zg_il3 zd_Table_rowsUpTo_33 ?_
          refine zg_icmp_gt (tgt := 46) zd_Table_rowsUpTo_34 (by decide) (by omega) (by omega) (fun b34 => ?_) (fun b34 => ?_)
          · refine zg_inc5 zd_Table_rowsUpTo_46 (fun w h => by cases h <;> rfl) (by decide) ?_
            refine zg_goto (tgt := 6) zd_Table_rowsUpTo_49 (by decide) ?_
            first | (rw [if_pos (by simp [zt_va, *] <;> omega)] at ih; exact ih) | (rw [if_neg (by simp [zt_va, *] <;> omega)] at ih; exact ih)
          · refine zg_il4 zd_Table_rowsUpTo_37 ?_
            refine zg_iconst zd_Table_rowsUpTo_39 ?_
            refine zg_il5 zd_Table_rowsUpTo_40 ?_
            refine zg_ishl ((2 ^ i : Nat) : Int) zd_Table_rowsUpTo_42 (zb_shl i (by omega)) ?_
            refine zg_ior ((zs_mk (fun r => s.testBit r && decide (zt_va V r f ≤ t)) i ||| 2 ^ i : Nat) : Int) zd_Table_rowsUpTo_43 (zb_or _ _) ?_
            refine zg_is4 zd_Table_rowsUpTo_44 (fun w h => by cases h <;> rfl) (by decide) ?_
            refine zg_inc5 zd_Table_rowsUpTo_46 (fun w h => by cases h <;> rfl) (by decide) ?_
            refine zg_goto (tgt := 6) zd_Table_rowsUpTo_49 (by decide) ?_
            first | (rw [if_pos (by simp [zt_va, *] <;> omega)] at ih; exact ih) | (rw [if_neg (by simp [zt_va, *] <;> omega)] at ih; exact ih)
  exact key n 0 (by omega)
theorem ct_has {sh n : Nat} {r : Int} (hr : -2147483648 ≤ r ∧ r < 2147483648) (hT : zt_T V n) : zg_S Γ zm_Table_has 0 0 0 [zg_r Γ 1, zg_i r] zk_K 242 (zk_P sh) V (zq_p zk_K 242 (zk_P sh) V (some (zg_i (zg_b (decide (0 ≤ r ∧ r < n)))))) := by
  obtain ⟨hn, hn16, -⟩ := hT
  refine zg_enter 0 (by decide) (Nat.le_of_ble_eq_true rfl) rfl ?_
  refine zg_il1 zd_Table_has_0 ?_
  refine zg_if_lt (tgt := 16) zd_Table_has_1 (by decide) (by omega) (fun b1 => ?_) (fun b1 => ?_)
  · refine zg_iconst zd_Table_has_16 ?_
    refine zg_zreturn zd_Table_has_17 rfl (by omega) ?_
    exact ⟨by rw [zg_b_eq]; simp; omega, rfl, rfl, rfl, rfl⟩
  · refine zg_il1 zd_Table_has_4 ?_
    refine zg_al0 zd_Table_has_5 ?_
    refine zg_geti zd_Table_has_6 zf_39 (by omega) (by first | assumption | rfl) rfl ?_
    rw [hn]
    refine zg_icmp_ge (tgt := 16) zd_Table_has_9 (by decide) (by omega) (by omega) (fun b9 => ?_) (fun b9 => ?_)
    · refine zg_iconst zd_Table_has_16 ?_
      refine zg_zreturn zd_Table_has_17 rfl (by omega) ?_
      exact ⟨by rw [zg_b_eq]; simp; omega, rfl, rfl, rfl, rfl⟩
    · refine zg_iconst zd_Table_has_12 ?_
      refine zg_goto (tgt := 17) zd_Table_has_13 (by decide) ?_
      refine zg_zreturn zd_Table_has_17 rfl (by omega) ?_
      exact ⟨by rw [zg_b_eq]; simp; omega, rfl, rfl, rfl, rfl⟩
theorem ct_isFair {sh n : Nat} {r : Int} (hr : 0 ≤ r ∧ r ≤ 32) (h0 : 0 < n) (hn16 : n ≤ 16) (hn : V 1 3 = (n : Int)) : zg_S Γ zm_Table_isFair 0 0 0 [zg_r Γ 1, zg_i r] zk_K 242 (zk_P sh) V (zq_p zk_K 242 (zk_P sh) V (some (zg_i (zg_b (decide (r < 32 - 32 % (n : Int))))))) := by
  have hm : 0 ≤ 32 % (n : Int) ∧ 32 % (n : Int) < 16 := ⟨Int.emod_nonneg _ (by omega), by have := Int.emod_lt_of_pos 32 (show (0 : Int) < n by omega); omega⟩
  refine zg_enter 0 (by decide) (Nat.le_of_ble_eq_true rfl) rfl ?_
  refine zg_il1 zd_Table_isFair_0 ?_
  refine zg_bipush zd_Table_isFair_1 (by decide) ?_
  refine zg_bipush zd_Table_isFair_3 (by decide) ?_
  refine zg_al0 zd_Table_isFair_5 ?_
  refine zg_geti zd_Table_isFair_6 zf_39 (by omega) (by first | assumption | rfl) rfl ?_
  rw [hn]
  refine zg_irem (32 % (n : Int)) zd_Table_isFair_9 (by rw [zg_eq0 (by omega)]; omega) (zb_rem (by omega) (by omega) (by omega)) ?_
  refine zg_isub zd_Table_isFair_10 ?_
  refine zg_icmp_ge (tgt := 18) zd_Table_isFair_11 (by decide) (by omega) (by omega) (fun b11 => ?_) (fun b11 => ?_)
  · refine zg_iconst zd_Table_isFair_18 ?_
    refine zg_zreturn zd_Table_isFair_19 rfl (by omega) ?_
    exact ⟨by rw [zg_b_eq]; simp; omega, rfl, rfl, rfl, rfl⟩
  · refine zg_iconst zd_Table_isFair_14 ?_
    refine zg_goto (tgt := 19) zd_Table_isFair_15 (by decide) ?_
    refine zg_zreturn zd_Table_isFair_19 rfl (by omega) ?_
    exact ⟨by rw [zg_b_eq]; simp; omega, rfl, rfl, rfl, rfl⟩
end ZT1

