/-! Table: readers -/
/-- the weight of the rows of s below n -/
def zt_w (w : Nat → Int) (s : Nat) (n : Nat) : Int := zs_sum (fun r => if s.testBit r then w r else 0) n
theorem zt_w_s (w : Nat → Int) (s i : Nat) : zt_w w s (i + 1) = zt_w w s i + (if s.testBit i then w i else 0) := rfl
theorem zs_mk_s (p : Nat → Bool) (i : Nat) : zs_mk p (i + 1) = if p i then zs_mk p i ||| 2 ^ i else zs_mk p i := rfl
theorem zs_mk_lt16 (p : Nat → Bool) {n : Nat} (h : n ≤ 16) : zs_mk p n < 65536 := Nat.lt_of_lt_of_le (zs_mk_lt p n) (Nat.pow_le_pow_right (by omega) h)
def zt_cls (cl : Nat → Int) (s : Nat) (c : Int) (n : Nat) : Nat := zs_mk (fun r => s.testBit r && decide (cl r = c)) n
def zt_pres (va : Nat → Nat → Int) (s f n : Nat) : Nat := zs_mk (fun r => s.testBit r && decide (va r f ≠ -2147483648)) n
def zt_upto (va : Nat → Nat → Int) (s f : Nat) (t : Int) (n : Nat) : Nat := zs_mk (fun r => s.testBit r && decide (va r f ≤ t)) n
def zt_pos (w : Nat → Int) (n : Nat) : Nat := zs_mk (fun r => decide (0 < w r)) n
abbrev zt_va (V : zg_V) : Nat → Nat → Int := fun r f => V (3 + r) f
/-- the table holds n rows, its numbers are in their bounds -/
def zt_T (V : zg_V) (n : Nat) : Prop := V 1 3 = (n : Int) ∧ n ≤ 16 ∧ (∀ r f, r < 16 → f < 3 → -2147483648 ≤ V (3 + r) f ∧ V (3 + r) f < 2147483648) ∧ (∀ r, r < 16 → 0 ≤ V 19 r ∧ V 19 r < 4) ∧ (∀ r, r < 16 → 0 ≤ V 20 r ∧ V 20 r ≤ 16)
section ZT1
variable {Γ : zg_C} {K : zg_K} {N : Nat} {P : zg_P} {V : zg_V}
theorem ct_contains {s r : Nat} (hs : s < 65536) (hr : r < 16) : zg_S Γ zm_Table_contains 0 0 0 [zg_i s, zg_i r] K N P V (zq_p K N P V (some (zg_i (zg_b (s.testBit r))))) := by
  refine zg_enter 0 (by decide) (Nat.le_of_ble_eq_true rfl) rfl ?_
  refine zg_il0 zd_Table_contains_0 ?_
  refine zg_il1 zd_Table_contains_1 ?_
  refine zg_ishrR zd_Table_contains_2 ?_
  refine zg_iconst zd_Table_contains_3 ?_
  refine zg_iand (zg_b (s.testBit r)) zd_Table_contains_4 (by rw [zb_bit (by omega) (by omega)]; cases s.testBit r <;> rfl) ?_
  generalize s.testBit r = b
  refine zg_if_eqB (tgt := 12) zd_Table_contains_5 (by decide) (fun h => ?_) (fun h => ?_)
  · subst h
    refine zg_iconst zd_Table_contains_12 ?_
    refine zg_zreturn zd_Table_contains_13 rfl (by omega) ?_
    exact ⟨rfl, rfl, rfl, rfl, rfl⟩
  · subst h
    refine zg_iconst zd_Table_contains_8 ?_
    refine zg_goto (tgt := 13) zd_Table_contains_9 (by decide) ?_
    refine zg_zreturn zd_Table_contains_13 rfl (by omega) ?_
    exact ⟨rfl, rfl, rfl, rfl, rfl⟩
theorem ct_weightOf {sh s n : Nat} (hs : s < 65536) (hT : zt_T V n) : zg_S Γ zm_Table_weightOf 1 0 0 [zg_r Γ 1, zg_i s] zk_K 242 (zk_P sh) V (zq_p zk_K 242 (zk_P sh) V (some (zg_i (zt_w (V 20) s n)))) := by
  obtain ⟨hn, hn16, -⟩ := hT
  refine zg_enter 2 (by decide) (Nat.le_of_ble_eq_true rfl) rfl ?_
  refine zg_iconst zd_Table_weightOf_0 ?_
  refine zg_is2 zd_Table_weightOf_1 (fun w h => by cases h <;> rfl) (by decide) ?_
  refine zg_iconst zd_Table_weightOf_2 ?_
  refine zg_is3 zd_Table_weightOf_3 (fun w h => by cases h <;> rfl) (by decide) ?_
  have key : ∀ (j i : Nat) (hij : i + j = n), zg_G Γ (fun _ => True) zm_Table_weightOf (zg_rm 1 0 0) (zg_Ω Γ (zq_p zk_K 242 (zk_P sh) V (some (zg_i (zt_w (V 20) s n)))) 0 0) 0 0 4 [some (zg_r Γ (1)), some (zg_i (s)), some (zg_i (zt_w (V 20) s i)), some (zg_i ((i : Nat)))] [] zk_K 242 (zk_P sh) (V) := by
    intro j
    induction j with
    | zero =>
      intro i hij
      have e : i = n := by omega
      subst e
      refine zg_il3 zd_Table_weightOf_4 ?_
      refine zg_al0 zd_Table_weightOf_5 ?_
      refine zg_geti zd_Table_weightOf_6 zf_39 (by omega) (by first | assumption | rfl) rfl ?_
      rw [hn]
      refine zg_icmp_ge (tgt := 35) zd_Table_weightOf_9 (by decide) (by omega) (by omega) (fun b9 => ?_) (fun b9 => ?_)
      · refine zg_il2 zd_Table_weightOf_35 ?_
        refine zg_ireturn zd_Table_weightOf_36 rfl ?_
        exact ⟨rfl, rfl, rfl, rfl, rfl⟩
      · omega
    | succ j ih =>
      intro i hij
      have ih := ih (i + 1) (by omega)
      rw [zt_w_s] at ih
      refine zg_il3 zd_Table_weightOf_4 ?_
      refine zg_al0 zd_Table_weightOf_5 ?_
      refine zg_geti zd_Table_weightOf_6 zf_39 (by omega) (by first | assumption | rfl) rfl ?_
      rw [hn]
      refine zg_icmp_ge (tgt := 35) zd_Table_weightOf_9 (by decide) (by omega) (by omega) (fun b9 => ?_) (fun b9 => ?_)
      · omega
      · refine zg_il1 zd_Table_weightOf_12 ?_
        refine zg_il3 zd_Table_weightOf_13 ?_
        refine zg_cSp2 zd_Table_weightOf_14 zM_Table_contains zw_286 zi_Table_contains (ct_contains hs (by omega)) (by decide) (by decide) (Nat.le_of_ble_eq_true rfl) ?_
        refine zg_if_eqB (tgt := 29) zd_Table_weightOf_17 (by decide) (fun b17 => ?_) (fun b17 => ?_)
        · refine zg_inc3 zd_Table_weightOf_29 (fun w h => by cases h <;> rfl) (by decide) ?_
          refine zg_goto (tgt := 4) zd_Table_weightOf_32 (by decide) ?_
          first | (rw [if_pos b17] at ih; exact ih) | (rw [b17, if_neg (by decide), Int.add_zero] at ih; exact ih)
        · refine zg_il2 zd_Table_weightOf_20 ?_
          refine zg_al0 zd_Table_weightOf_21 ?_
          refine zg_getr zd_Table_weightOf_22 zf_37 (by omega) (by first | assumption | rfl) rfl (by first | assumption | rfl) ?_
          refine zg_il3 zd_Table_weightOf_25 ?_
          refine zg_iald zd_Table_weightOf_26 (by omega) (by first | assumption | rfl) rfl (by omega) (by decide) ?_
          refine zg_iadd zd_Table_weightOf_27 ?_
          refine zg_is2 zd_Table_weightOf_28 (fun w h => by cases h <;> rfl) (by decide) ?_
          refine zg_inc3 zd_Table_weightOf_29 (fun w h => by cases h <;> rfl) (by decide) ?_
          refine zg_goto (tgt := 4) zd_Table_weightOf_32 (by decide) ?_
          first | (rw [if_pos b17] at ih; exact ih) | (rw [b17, if_neg (by decide), Int.add_zero] at ih; exact ih)
  exact key n 0 (by omega)
end ZT1

