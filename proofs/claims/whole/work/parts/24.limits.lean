/-! Limits -/
def zk_li (a : Nat) : Prop := a = 205 ∨ a = 211
theorem zk_lif {a : Nat} (h : zk_li a) : a + 1 < 242 ∧ zk_K a = (0, 8) ∧ zk_K (a + 1) = (1, 16) ∧ (∀ sh, zk_P sh a 0 = some (a + 1)) ∧ 200 ≤ a := by
  rcases h with rfl | rfl
  · exact ⟨by decide, rfl, rfl, fun _ => rfl, by decide⟩
  · exact ⟨by decide, rfl, rfl, fun _ => rfl, by decide⟩
/-- only cells of S have changed -/
def zv_on (S : Nat → Prop) (V V' : zg_V) : Prop := ∀ b, ¬ S b → V' b = V b
theorem zv_on_rf {S : Nat → Prop} {V : zg_V} : zv_on S V V := fun _ _ => rfl
theorem zv_on_tr {S : Nat → Prop} {V V' V'' : zg_V} (h : zv_on S V V') (h' : zv_on S V' V'') : zv_on S V V'' := fun b hb => (h' b hb).trans (h b hb)
theorem zv_on_u {S : Nat → Prop} {V V' : zg_V} {a j : Nat} {x : Int} (h : zv_on S V V') (ha : S a) : zv_on S V (zg_u V' a j x) := fun b hb => by
  rw [zg_u_out V' a j x (show b ≠ a from fun e => hb (by rw [e]; exact ha))]; exact h b hb
theorem zv_on_row {S : Nat → Prop} {V V' : zg_V} {a : Nat} {w : Nat → Int} (h : zv_on S V V') (ha : S a) : zv_on S V (zv_row V' a w) := fun b hb => by
  rw [zv_row_o V' a w (show b ≠ a from fun e => hb (by rw [e]; exact ha))]; exact h b hb
theorem zv_on_mono {S S' : Nat → Prop} {V V' : zg_V} (h : zv_on S V V') (hs : ∀ b, S b → S' b) : zv_on S' V V' := fun b hb => h b (fun q => hb (hs b q))
/-- strictly rising up to d, in the range of int -/
def zl_S (f : Nat → Int) (d : Nat) : Prop := (∀ i j, i < j → j < d → f i < f j) ∧ ∀ j, j < d → -2147483648 ≤ f j ∧ f j < 2147483648
def zl_in (f : Nat → Int) (d : Nat) (x : Int) : Prop := ∃ j, j < d ∧ f j = x
/-- f with v at p, the rest one on -/
def zl_ins (f : Nat → Int) (d p : Nat) (v : Int) : Nat → Int := fun j => if j < p then f j else if j = p then v else if j ≤ d then f (j - 1) else f j
def zl_sh (f : Nat → Int) (d i : Nat) : Nat → Int := fun j => if i < j ∧ j ≤ d then f (j - 1) else f j
theorem zl_ins_S {f : Nat → Int} {d p : Nat} {v : Int} (hS : zl_S f d) (hp : p ≤ d) (h1 : ∀ j, j < p → f j < v) (h2 : ∀ j, p ≤ j → j < d → v < f j) (hv : -2147483648 ≤ v ∧ v < 2147483648) : zl_S (zl_ins f d p v) (d + 1) := by
  obtain ⟨hS, hR⟩ := hS
  constructor
  · intro i j hij hj
    unfold zl_ins
    by_cases a1 : j < p
    · rw [if_pos (by omega), if_pos a1]; exact hS i j hij (by omega)
    · by_cases a2 : j = p
      · rw [if_pos (by omega), if_neg a1, if_pos a2]; exact h1 i (by omega)
      · rw [if_neg a1, if_neg a2, if_pos (show j ≤ d by omega)]
        by_cases a3 : i < p
        · rw [if_pos a3]; exact Int.lt_trans (h1 i a3) (h2 (j - 1) (by omega) (by omega))
        · by_cases a4 : i = p
          · rw [if_neg a3, if_pos a4]; exact h2 (j - 1) (by omega) (by omega)
          · rw [if_neg a3, if_neg a4, if_pos (show i ≤ d by omega)]; exact hS (i - 1) (j - 1) (by omega) (by omega)
  · intro j hj
    unfold zl_ins
    split
    · exact hR j (by omega)
    · split
      · exact hv
      · rw [if_pos (by omega)]; exact hR (j - 1) (by omega)
theorem zl_ins_in {f : Nat → Int} {d p : Nat} {v x : Int} (hp : p ≤ d) : zl_in (zl_ins f d p v) (d + 1) x ↔ x = v ∨ zl_in f d x := by
  constructor
  · rintro ⟨j, hj, he⟩
    unfold zl_ins at he
    split at he
    · exact Or.inr ⟨j, by omega, he⟩
    · split at he
      · exact Or.inl he.symm
      · rw [if_pos (by omega)] at he
        exact Or.inr ⟨j - 1, by omega, he⟩
  · rintro (rfl | ⟨j, hj, he⟩)
    · exact ⟨p, by omega, by simp [zl_ins]⟩
    · by_cases h : j < p
      · exact ⟨j, by omega, by unfold zl_ins; rw [if_pos h]; exact he⟩
      · exact ⟨j + 1, by omega, by unfold zl_ins; rw [if_neg (by omega), if_neg (by omega), if_pos (by omega)]; exact he⟩
section ZT5
variable {Γ : zg_C} {V : zg_V} {a sh : Nat}
theorem ct_linsert (h : zk_li a) {d : Nat} {v : Int} (hv : -2147483648 ≤ v ∧ v < 2147483648) (hd : V a 1 = (d : Int)) (hd15 : d ≤ 15) (hS : zl_S (V (a + 1)) d) : zg_S Γ zm_Limits_insert 0 0 0 [zg_r Γ a, zg_i v] zk_K 242 (zk_P sh) V (zq_r zk_K 242 (zk_P sh) (fun r V' => r = none ∧ zv_on (fun b => b = a ∨ b = a + 1) V V' ∧ ∃ d' : Nat, V' a 1 = (d' : Int) ∧ d' ≤ d + 1 ∧ zl_S (V' (a + 1)) d' ∧ ∀ x, zl_in (V' (a + 1)) d' x ↔ x = v ∨ zl_in (V (a + 1)) d x)) := by
  obtain ⟨h1, h2, h3, h4, h5⟩ := zk_lif h
  have h4 := h4 sh
  generalize hQ : zq_r zk_K 242 (zk_P sh) (fun r V' => r = none ∧ zv_on (fun b => b = a ∨ b = a + 1) V V' ∧ ∃ d' : Nat, V' a 1 = (d' : Int) ∧ d' ≤ d + 1 ∧ zl_S (V' (a + 1)) d' ∧ ∀ x, zl_in (V' (a + 1)) d' x ↔ x = v ∨ zl_in (V (a + 1)) d x) = Q
  refine zg_enter 2 (by decide) (Nat.le_of_ble_eq_true rfl) rfl ?_
  refine zg_iconst zd_Limits_insert_0 ?_
  refine zg_is2 zd_Limits_insert_1 (fun w h => by cases h <;> rfl) (by decide) ?_
  have fin : ∀ (p : Nat) (o3 : Option Value) (hp : p ≤ d) (g1 : ∀ j, j < p → V (a + 1) j < v) (g2 : ∀ j, p ≤ j → j < d → v < V (a + 1) j), zg_G Γ (fun _ => True) zm_Limits_insert (zg_rm 0 0 0) (zg_Ω Γ (Q) 0 0) 0 0 45 [some (zg_r Γ (a)), some (zg_i (v)), some (zg_i ((p : Nat))), o3] [] zk_K 242 (zk_P sh) (V) := by
    intro p o3 hp g1 g2
    have loop : ∀ (g i : Nat), i = p + g → i ≤ d → zg_G Γ (fun _ => True) zm_Limits_insert (zg_rm 0 0 0) (zg_Ω Γ (Q) 0 0) 0 0 50 [some (zg_r Γ (a)), some (zg_i (v)), some (zg_i ((p : Nat))), some (zg_i ((i : Nat)))] [] zk_K 242 (zk_P sh) (zv_row V (a + 1) (zl_sh (V (a + 1)) d i)) := by
      intro g
      induction g with
      | zero =>
        intro i hi hid
        have e : i = p := by omega
        subst e
        have hz : zg_u (zv_row V (a + 1) (zl_sh (V (a + 1)) d i)) (a + 1) i v = zv_row V (a + 1) (zl_ins (V (a + 1)) d i v) := by
          funext b k
          unfold zg_u zv_row
          by_cases hb : b = a + 1
          · simp only [hb, if_true]
            unfold zl_sh zl_ins
            by_cases q1 : k = i
            · rw [if_pos q1, if_neg (by omega), if_pos q1]
            · rw [if_neg q1]
              by_cases q2 : k < i
              · rw [if_neg (by omega), if_pos q2]
              · rw [if_neg q2, if_neg q1]
                by_cases q3 : k ≤ d
                · rw [if_pos (by omega), if_pos q3]
                · rw [if_neg (by omega), if_neg q3]
          · simp only [hb, if_false]
        have hd2 : zg_u (zv_row V (a + 1) (zl_sh (V (a + 1)) d i)) (a + 1) i v a 1 = (d : Int) := by rw [hz, zv_row_o _ _ _ (by omega), hd]
        refine zg_il3 zd_Limits_insert_50 ?_
        refine zg_il2 zd_Limits_insert_51 ?_
        refine zg_icmp_le (tgt := 75) zd_Limits_insert_52 (by decide) (by omega) (by omega) (fun b52 => ?_) (fun b52 => ?_)
        · refine zg_al0 zd_Limits_insert_75 ?_
          refine zg_getr zd_Limits_insert_76 zf_190 (by omega) (by first | assumption | rfl) rfl (by first | assumption | rfl) ?_
          refine zg_il2 zd_Limits_insert_79 ?_
          refine zg_il1 zd_Limits_insert_80 ?_
          refine zg_iast zd_Limits_insert_81 (by omega) (by first | assumption | rfl) rfl (by omega) (by decide) ?_
          refine zg_al0 zd_Limits_insert_82 ?_
          refine zg_dup zd_Limits_insert_83 rfl ?_
          refine zg_geti zd_Limits_insert_84 zf_191 (by omega) (by first | assumption | rfl) rfl ?_
          rw [hd2]
          refine zg_iconst zd_Limits_insert_87 ?_
          refine zg_iadd zd_Limits_insert_88 ?_
          refine zg_puti zd_Limits_insert_89 zf_191 rfl (by omega) (by first | assumption | rfl) rfl ?_
          refine zg_return zd_Limits_insert_92 rfl ?_
          subst hQ
          refine ⟨rfl, rfl, rfl, rfl, zv_on_u (zv_on_u (zv_on_row zv_on_rf (Or.inr rfl)) (Or.inr rfl)) (Or.inl rfl), d + 1, by rw [zg_u_in]; rfl, by omega, ?_, fun x => ?_⟩
          · rw [zg_u_out _ _ _ _ (by omega), hz, zv_row_i]
            exact zl_ins_S hS hp g1 g2 hv
          · rw [zg_u_out _ _ _ _ (by omega), hz, zv_row_i]
            exact zl_ins_in hp
        · omega
      | succ g ih =>
        intro i hi hid
        have ih := ih (i - 1) (by omega) (by omega)
        have hr : zv_row V (a + 1) (zl_sh (V (a + 1)) d i) (a + 1) (i - 1) = V (a + 1) (i - 1) := by
          rw [zv_row_i]
          unfold zl_sh
          rw [if_neg (by omega)]
        have hz : zg_u (zv_row V (a + 1) (zl_sh (V (a + 1)) d i)) (a + 1) i (V (a + 1) (i - 1)) = zv_row V (a + 1) (zl_sh (V (a + 1)) d (i - 1)) := by
          funext b k
          unfold zg_u zv_row
          by_cases hb : b = a + 1
          · simp only [hb, if_true]
            unfold zl_sh
            by_cases q1 : k = i
            · subst q1; rw [if_pos rfl, if_pos (by omega)]
            · rw [if_neg q1]
              by_cases q2 : i < k ∧ k ≤ d
              · rw [if_pos q2, if_pos (by omega)]
              · rw [if_neg q2, if_neg (by omega)]
          · simp only [hb, if_false]
        rw [← hz] at ih
        rw [show ((i - 1 : Nat) : Int) = (i : Int) + -1 by omega] at ih
        refine zg_il3 zd_Limits_insert_50 ?_
        refine zg_il2 zd_Limits_insert_51 ?_
        refine zg_icmp_le (tgt := 75) zd_Limits_insert_52 (by decide) (by omega) (by omega) (fun b52 => ?_) (fun b52 => ?_)
        · omega
        · refine zg_al0 zd_Limits_insert_55 ?_
          refine zg_getr zd_Limits_insert_56 zf_190 (by omega) (by first | assumption | rfl) rfl (by first | assumption | rfl) ?_
          refine zg_il3 zd_Limits_insert_59 ?_
          refine zg_al0 zd_Limits_insert_60 ?_
          refine zg_getr zd_Limits_insert_61 zf_190 (by omega) (by first | assumption | rfl) rfl (by first | assumption | rfl) ?_
          refine zg_il3 zd_Limits_insert_64 ?_
          refine zg_iconst zd_Limits_insert_65 ?_
          refine zg_isub zd_Limits_insert_66 ?_
          refine zg_iald (j := i - 1) zd_Limits_insert_67 (by omega) (by assumption) (by omega) (by omega) (by decide) ?_
          rw [hr]
          refine zg_iast zd_Limits_insert_68 (by omega) (by first | assumption | rfl) rfl (by omega) (by decide) ?_
          refine zg_inc3 zd_Limits_insert_69 (fun w h => by cases h <;> rfl) (by decide) ?_
          refine zg_goto (tgt := 50) zd_Limits_insert_72 (by decide) ?_
          exact ih
    have lp := loop (d - p) d (by omega) (Nat.le_refl d)
    rw [show zv_row V (a + 1) (zl_sh (V (a + 1)) d d) = V by
      funext b k
      unfold zv_row zl_sh
      by_cases hb : b = a + 1
      · simp only [hb, if_true]
        rw [if_neg (by omega)]
      · simp only [hb, if_false]] at lp
    refine zg_al0 zd_Limits_insert_45 ?_
    refine zg_geti zd_Limits_insert_46 zf_191 (by omega) (by first | assumption | rfl) rfl ?_
    rw [hd]
    refine zg_is3 zd_Limits_insert_49 (fun w h => by cases h <;> rfl) (by decide) ?_
    exact lp
  have key : ∀ (j i : Nat) (hij : i + j = d) (g1 : ∀ j, j < i → V (a + 1) j < v), zg_G Γ (fun _ => True) zm_Limits_insert (zg_rm 0 0 0) (zg_Ω Γ (Q) 0 0) 0 0 2 [some (zg_r Γ (a)), some (zg_i (v)), some (zg_i ((i : Nat))), none] [] zk_K 242 (zk_P sh) (V) := by
    intro j
    induction j with
    | zero =>
      intro i hij g1
      have e : i = d := by omega
      subst e
      refine zg_il2 zd_Limits_insert_2 ?_
      refine zg_al0 zd_Limits_insert_3 ?_
      refine zg_geti zd_Limits_insert_4 zf_191 (by omega) (by first | assumption | rfl) rfl ?_
      rw [hd]
      refine zg_icmp_ge (tgt := 26) zd_Limits_insert_7 (by decide) (by omega) (by omega) (fun b7 => ?_) (fun b7 => ?_)
      · refine zg_il2 zd_Limits_insert_26 ?_
        refine zg_al0 zd_Limits_insert_27 ?_
        refine zg_geti zd_Limits_insert_28 zf_191 (by omega) (by first | assumption | rfl) rfl ?_
        rw [hd]
        refine zg_icmp_ge (tgt := 45) zd_Limits_insert_31 (by decide) (by omega) (by omega) (fun b31 => ?_) (fun b31 => ?_)
        · exact fin i none (by omega) g1 (fun j h1 h2 => by omega)
        · omega
      · omega
    | succ j ih =>
      intro i hij g1
      have hfi := hS.2 i (by omega)
      refine zg_il2 zd_Limits_insert_2 ?_
      refine zg_al0 zd_Limits_insert_3 ?_
      refine zg_geti zd_Limits_insert_4 zf_191 (by omega) (by first | assumption | rfl) rfl ?_
      rw [hd]
      refine zg_icmp_ge (tgt := 26) zd_Limits_insert_7 (by decide) (by omega) (by omega) (fun b7 => ?_) (fun b7 => ?_)
      · refine zg_il2 zd_Limits_insert_26 ?_
        refine zg_al0 zd_Limits_insert_27 ?_
        refine zg_geti zd_Limits_insert_28 zf_191 (by omega) (by first | assumption | rfl) rfl ?_
        rw [hd]
        refine zg_icmp_ge (tgt := 45) zd_Limits_insert_31 (by decide) (by omega) (by omega) (fun b31 => ?_) (fun b31 => ?_)
        · first
          | omega
          | exact fin i none (by omega) g1 (fun j q1 q2 => by
              by_cases e : j = i
              · subst e; omega
              · have := hS.1 i j (by omega) q2
                omega)
        · refine zg_al0 zd_Limits_insert_34 ?_
          refine zg_getr zd_Limits_insert_35 zf_190 (by omega) (by first | assumption | rfl) rfl (by first | assumption | rfl) ?_
          refine zg_il2 zd_Limits_insert_38 ?_
          refine zg_iald zd_Limits_insert_39 (by omega) (by first | assumption | rfl) rfl (by omega) (by decide) ?_
          refine zg_il1 zd_Limits_insert_40 ?_
          refine zg_icmp_ne (tgt := 45) zd_Limits_insert_41 (by decide) (by omega) (by omega) (fun b41 => ?_) (fun b41 => ?_)
          · first
            | omega
            | exact fin i none (by omega) g1 (fun j q1 q2 => by
                by_cases e : j = i
                · subst e; omega
                · have := hS.1 i j (by omega) q2
                  omega)
          · refine zg_return zd_Limits_insert_44 rfl ?_
            first
            | omega
            | (subst hQ
               refine ⟨rfl, rfl, rfl, rfl, zv_on_rf, d, hd, by omega, hS, fun x => ⟨fun h => Or.inr h, ?_⟩⟩
               rintro (rfl | h)
               · exact ⟨i, by omega, by omega⟩
               · exact h)
      · refine zg_al0 zd_Limits_insert_10 ?_
        refine zg_getr zd_Limits_insert_11 zf_190 (by omega) (by first | assumption | rfl) rfl (by first | assumption | rfl) ?_
        refine zg_il2 zd_Limits_insert_14 ?_
        refine zg_iald zd_Limits_insert_15 (by omega) (by first | assumption | rfl) rfl (by omega) (by decide) ?_
        refine zg_il1 zd_Limits_insert_16 ?_
        refine zg_icmp_ge (tgt := 26) zd_Limits_insert_17 (by decide) (by omega) (by omega) (fun b17 => ?_) (fun b17 => ?_)
        · refine zg_il2 zd_Limits_insert_26 ?_
          refine zg_al0 zd_Limits_insert_27 ?_
          refine zg_geti zd_Limits_insert_28 zf_191 (by omega) (by first | assumption | rfl) rfl ?_
          rw [hd]
          refine zg_icmp_ge (tgt := 45) zd_Limits_insert_31 (by decide) (by omega) (by omega) (fun b31 => ?_) (fun b31 => ?_)
          · first
            | omega
            | exact fin i none (by omega) g1 (fun j q1 q2 => by
                by_cases e : j = i
                · subst e; omega
                · have := hS.1 i j (by omega) q2
                  omega)
          · refine zg_al0 zd_Limits_insert_34 ?_
            refine zg_getr zd_Limits_insert_35 zf_190 (by omega) (by first | assumption | rfl) rfl (by first | assumption | rfl) ?_
            refine zg_il2 zd_Limits_insert_38 ?_
            refine zg_iald zd_Limits_insert_39 (by omega) (by first | assumption | rfl) rfl (by omega) (by decide) ?_
            refine zg_il1 zd_Limits_insert_40 ?_
            refine zg_icmp_ne (tgt := 45) zd_Limits_insert_41 (by decide) (by omega) (by omega) (fun b41 => ?_) (fun b41 => ?_)
            · first
              | omega
              | exact fin i none (by omega) g1 (fun j q1 q2 => by
                  by_cases e : j = i
                  · subst e; omega
                  · have := hS.1 i j (by omega) q2
                    omega)
            · refine zg_return zd_Limits_insert_44 rfl ?_
              first
              | omega
              | (subst hQ
                 refine ⟨rfl, rfl, rfl, rfl, zv_on_rf, d, hd, by omega, hS, fun x => ⟨fun h => Or.inr h, ?_⟩⟩
                 rintro (rfl | h)
                 · exact ⟨i, by omega, by omega⟩
                 · exact h)
        · refine zg_inc2 zd_Limits_insert_20 (fun w h => by cases h <;> rfl) (by decide) ?_
          refine zg_goto (tgt := 2) zd_Limits_insert_23 (by decide) ?_
          exact ih (i + 1) (by omega) (fun j hj => by
            by_cases e : j = i
            · subst e; omega
            · exact g1 j (by omega))
  exact key d 0 (by omega) (fun j hj => by omega)
theorem ct_lcount (h : zk_li a) {d : Nat} (hd : V a 1 = (d : Int)) (hd16 : d ≤ 16) : zg_S Γ zm_Limits_count 1 0 0 [zg_r Γ a] zk_K 242 (zk_P sh) V (zq_p zk_K 242 (zk_P sh) V (some (zg_i ((d - 1 : Nat) : Int)))) := by
  obtain ⟨h1, h2, h3, h4, h5⟩ := zk_lif h
  refine zg_enter 0 (by decide) (Nat.le_of_ble_eq_true rfl) rfl ?_
  refine zg_iconst zd_Limits_count_0 ?_
  refine zg_al0 zd_Limits_count_1 ?_
  refine zg_geti zd_Limits_count_2 zf_191 (by omega) (by first | assumption | rfl) rfl ?_
  rw [hd]
  refine zg_iconst zd_Limits_count_5 ?_
  refine zg_isub zd_Limits_count_6 ?_
  refine zg_cSp2 zd_Limits_count_7 zM_Math_max zw_430 zi_Math_max (ct_max (by omega) (by omega)) (by decide) (by decide) (Nat.le_of_ble_eq_true rfl) ?_
  refine zg_ireturn zd_Limits_count_10 rfl ?_
  rw [show (if (0 : Int) < (d : Int) - 1 then (d : Int) - 1 else 0) = ((d - 1 : Nat) : Int) by split <;> omega]; exact ⟨rfl, rfl, rfl, rfl, rfl⟩
theorem ct_lat (h : zk_li a) {i : Nat} (hi : i + 1 < 16) (hr : -2147483648 ≤ V (a + 1) i ∧ V (a + 1) i < 2147483648) (hr2 : -2147483648 ≤ V (a + 1) (i + 1) ∧ V (a + 1) (i + 1) < 2147483648) : zg_S Γ zm_Limits_at 1 0 0 [zg_r Γ a, zg_i i] zk_K 242 (zk_P sh) V (zq_p zk_K 242 (zk_P sh) V (some (zg_i ((V (a + 1) i + V (a + 1) (i + 1)) / 2)))) := by
  obtain ⟨h1, h2, h3, h4, h5⟩ := zk_lif h
  have h4 := h4 sh
  refine zg_enter 0 (by decide) (Nat.le_of_ble_eq_true rfl) rfl ?_
  refine zg_al0 zd_Limits_at_0 ?_
  refine zg_getr zd_Limits_at_1 zf_190 (by omega) (by first | assumption | rfl) rfl (by first | assumption | rfl) ?_
  refine zg_il1 zd_Limits_at_4 ?_
  refine zg_iald zd_Limits_at_5 (by omega) (by first | assumption | rfl) rfl (by omega) (by decide) ?_
  refine zg_i2l zd_Limits_at_6 (by omega) ?_
  refine zg_al0 zd_Limits_at_7 ?_
  refine zg_getr zd_Limits_at_8 zf_190 (by omega) (by first | assumption | rfl) rfl (by first | assumption | rfl) ?_
  refine zg_il1 zd_Limits_at_11 ?_
  refine zg_iconst zd_Limits_at_12 ?_
  refine zg_iadd zd_Limits_at_13 ?_
  refine zg_iald (j := i + 1) zd_Limits_at_14 (by omega) (by assumption) (by omega) (by omega) (by decide) ?_
  refine zg_i2l zd_Limits_at_15 (by omega) ?_
  refine zg_ladd zd_Limits_at_16 ?_
  refine zg_ldc2 (2) zd_Limits_at_17 zw_437 (by decide) ?_
  refine zg_cSp2 zd_Limits_at_20 zM_Math_floorDiv zw_438 zi_Math_floorDiv (ct_floorDiv (by omega)) (by decide) (by decide) (Nat.le_of_ble_eq_true rfl) ?_
  refine zg_l2i zd_Limits_at_23 ?_
  refine zg_ireturn zd_Limits_at_24 rfl ?_
  exact ⟨rfl, rfl, rfl, rfl, rfl⟩
theorem ct_lcollect (h : zk_li a) {s f n : Nat} (hs : s < 65536) (hf : f < 3) (hT : zt_T V n) : zg_S Γ zm_Limits_collect 1 0 0 [zg_r Γ a, zg_r Γ 1, zg_i s, zg_i f] zk_K 242 (zk_P sh) V (zq_r zk_K 242 (zk_P sh) (fun r V' => r = none ∧ zv_on (fun b => b = a ∨ b = a + 1) V V' ∧ ∃ d' : Nat, V' a 1 = (d' : Int) ∧ d' ≤ n ∧ zl_S (V' (a + 1)) d' ∧ ∀ x, zl_in (V' (a + 1)) d' x ↔ ∃ r, r < n ∧ s.testBit r = true ∧ V (3 + r) f = x)) := by
  obtain ⟨h1, h2, h3, h4, h5⟩ := zk_lif h
  obtain ⟨hn, hn16, hva, -, -⟩ := hT
  generalize hQ : zq_r zk_K 242 (zk_P sh) (fun r V' => r = none ∧ zv_on (fun b => b = a ∨ b = a + 1) V V' ∧ ∃ d' : Nat, V' a 1 = (d' : Int) ∧ d' ≤ n ∧ zl_S (V' (a + 1)) d' ∧ ∀ x, zl_in (V' (a + 1)) d' x ↔ ∃ r, r < n ∧ s.testBit r = true ∧ V (3 + r) f = x) = Q
  refine zg_enter 1 (by decide) (Nat.le_of_ble_eq_true rfl) rfl ?_
  refine zg_al0 zd_Limits_collect_0 ?_
  refine zg_iconst zd_Limits_collect_1 ?_
  refine zg_puti zd_Limits_collect_2 zf_191 rfl (by omega) (by first | assumption | rfl) rfl ?_
  refine zg_iconst zd_Limits_collect_5 ?_
  refine zg_is4 zd_Limits_collect_6 (fun w h => by cases h <;> rfl) (by decide) ?_
  have key : ∀ (j i d : Nat) (W : zg_V) (hij : i + j = n) (hW : zv_on (fun b => b = a ∨ b = a + 1) V W) (hd : W a 1 = (d : Int)) (hdi : d ≤ i) (hS : zl_S (W (a + 1)) d) (hin : ∀ x, zl_in (W (a + 1)) d x ↔ ∃ r, r < i ∧ s.testBit r = true ∧ V (3 + r) f = x), zg_G Γ (fun _ => True) zm_Limits_collect (zg_rm 1 0 0) (zg_Ω Γ (Q) 0 0) 0 0 8 [some (zg_r Γ (a)), some (zg_r Γ (1)), some (zg_i (s)), some (zg_i (f)), some (zg_i ((i : Nat)))] [] zk_K 242 (zk_P sh) (W) := by
    intro j
    induction j with
    | zero =>
      intro i d W hij hW hd hdi hS hin
      have e : i = n := by omega
      subst e
      have hWn : W 1 3 = (i : Int) := by rw [hW 1 (by omega), hn]
      refine zg_il4 zd_Limits_collect_8 ?_
      refine zg_al1 zd_Limits_collect_10 ?_
      refine zg_geti zd_Limits_collect_11 zf_40 (by omega) (by first | assumption | rfl) rfl ?_
      rw [hWn]
      refine zg_icmp_ge (tgt := 45) zd_Limits_collect_14 (by decide) (by omega) (by omega) (fun b14 => ?_) (fun b14 => ?_)
      · refine zg_return zd_Limits_collect_45 rfl ?_
        subst hQ; exact ⟨rfl, rfl, rfl, rfl, hW, d, hd, hdi, hS, hin⟩
      · omega
    | succ j ih =>
      intro i d W hij hW hd hdi hS hin
      have hWn : W 1 3 = (n : Int) := by rw [hW 1 (by omega), hn]
      have hpi := zp_values (sh := sh) (show i < 16 by omega)
      have hki := (zk_row i (by omega)).1
      have hvi := hva i f (by omega) hf
      have hWv : W (3 + i) f = V (3 + i) f := by rw [hW (3 + i) (by omega)]
      have hadd : ∀ x, (∃ r, r < i + 1 ∧ s.testBit r = true ∧ V (3 + r) f = x) ↔ (s.testBit i = true ∧ V (3 + i) f = x) ∨ ∃ r, r < i ∧ s.testBit r = true ∧ V (3 + r) f = x := by
        intro x
        constructor
        · rintro ⟨r, q1, q2, q3⟩
          by_cases e : r = i
          · subst e; exact Or.inl ⟨q2, q3⟩
          · exact Or.inr ⟨r, by omega, q2, q3⟩
        · rintro (⟨q2, q3⟩ | ⟨r, q1, q2, q3⟩)
          · exact ⟨i, by omega, q2, q3⟩
          · exact ⟨r, by omega, q2, q3⟩
      refine zg_il4 zd_Limits_collect_8 ?_
      refine zg_al1 zd_Limits_collect_10 ?_
      refine zg_geti zd_Limits_collect_11 zf_40 (by omega) (by first | assumption | rfl) rfl ?_
      rw [hWn]
      refine zg_icmp_ge (tgt := 45) zd_Limits_collect_14 (by decide) (by omega) (by omega) (fun b14 => ?_) (fun b14 => ?_)
      · omega
      · refine zg_il2 zd_Limits_collect_17 ?_
        refine zg_il4 zd_Limits_collect_18 ?_
        refine zg_cSp2 zd_Limits_collect_20 zM_Table_contains zw_421 zi_Table_contains (ct_contains hs (by omega)) (by decide) (by decide) (Nat.le_of_ble_eq_true rfl) ?_
        refine zg_if_eqB (tgt := 39) zd_Limits_collect_23 (by decide) (fun b23 => ?_) (fun b23 => ?_)
        · refine zg_inc4 zd_Limits_collect_39 (fun w h => by cases h <;> rfl) (by decide) ?_
          refine zg_goto (tgt := 8) zd_Limits_collect_42 (by decide) ?_
          first
          | (refine ih (i + 1) d W (by omega) hW hd (by omega) hS (fun x => ?_)
             rw [hin x, hadd x]
             constructor
             · exact fun h => Or.inr h
             · rintro (⟨q, -⟩ | h)
               · rw [b23] at q; cases q
               · exact h)
          | (obtain ⟨rfl, hV', d', g1, g2, g3, g4⟩ := hq
             refine ih (i + 1) d' V' (by omega) (zv_on_tr hW hV') g1 (by omega) g3 (fun x => ?_)
             rw [g4 x, hin x, hadd x]
             constructor
             · rintro (rfl | h)
               · exact Or.inl ⟨b23, rfl⟩
               · exact Or.inr h
             · rintro (⟨-, h⟩ | h)
               · exact Or.inl h.symm
               · exact Or.inr h)
        · refine zg_al0 zd_Limits_collect_26 ?_
          refine zg_al1 zd_Limits_collect_27 ?_
          refine zg_getr zd_Limits_collect_28 zf_32 (by omega) (by first | assumption | rfl) rfl (by first | assumption | rfl) ?_
          refine zg_il4 zd_Limits_collect_31 ?_
          refine zg_aald zd_Limits_collect_33 (by omega) (by first | assumption | rfl) rfl rfl rfl (by omega) (by decide) (by first | assumption | rfl) ?_
          refine zg_il3 zd_Limits_collect_34 ?_
          refine zg_iald zd_Limits_collect_35 (by omega) (by first | assumption | rfl) rfl (by omega) (by decide) ?_
          rw [hWv]
          refine zg_cVr1 zd_Limits_collect_36 zM_Limits_insert zw_422 zi_Limits_insert zs_Limits_insert (ct_linsert h hvi hd (by omega) hS) (by decide) (by decide) (by omega) (by first | assumption | rfl) (by decide) rfl (Nat.le_of_ble_eq_true rfl) ?_
          intro r V' hq
          refine zg_inc4 zd_Limits_collect_39 (fun w h => by cases h <;> rfl) (by decide) ?_
          refine zg_goto (tgt := 8) zd_Limits_collect_42 (by decide) ?_
          first
          | (refine ih (i + 1) d W (by omega) hW hd (by omega) hS (fun x => ?_)
             rw [hin x, hadd x]
             constructor
             · exact fun h => Or.inr h
             · rintro (⟨q, -⟩ | h)
               · rw [b23] at q; cases q
               · exact h)
          | (obtain ⟨rfl, hV', d', g1, g2, g3, g4⟩ := hq
             refine ih (i + 1) d' V' (by omega) (zv_on_tr hW hV') g1 (by omega) g3 (fun x => ?_)
             rw [g4 x, hin x, hadd x]
             constructor
             · rintro (rfl | h)
               · exact Or.inl ⟨b23, rfl⟩
               · exact Or.inr h
             · rintro (⟨-, h⟩ | h)
               · exact Or.inl h.symm
               · exact Or.inr h)
  exact key n 0 0 _ (by omega) (zv_on_u zv_on_rf (Or.inl rfl)) (by rw [zg_u_in]; rfl) (by omega) ⟨fun i j _ h => by omega, fun j h => by omega⟩ (fun x => ⟨fun ⟨j, h, _⟩ => by omega, fun ⟨r, h, _⟩ => by omega⟩)
end ZT5

