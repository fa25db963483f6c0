/-! Shape -/
def zk_sh (a : Nat) : Prop := a = 200 ∨ a = 202 ∨ a = 216
theorem zk_shf {a : Nat} (h : zk_sh a) : a + 1 < 242 ∧ zk_K a = (0, 6) ∧ zk_K (a + 1) = (1, 32) ∧ ∀ sh, zk_P sh a 0 = some (a + 1) := by
  rcases h with rfl | rfl | rfl
  · exact ⟨by decide, rfl, rfl, fun _ => rfl⟩
  · exact ⟨by decide, rfl, rfl, fun _ => rfl⟩
  · exact ⟨by decide, rfl, rfl, fun _ => rfl⟩
/-- kinds are small numbers -/
def zt_kd (f : Nat → Int) : Prop := ∀ k, k < 32 → -1 ≤ f k ∧ f k ≤ 2
def zt_at (f : Nat → Int) (k : Int) : Int := if 1 ≤ k ∧ k < 32 then f k.toNat else -1
def zt_fw (f : Nat → Int) : Nat → Nat → Nat
  | 0, _ => 0
  | j + 1, i => if f i = 0 then i else zt_fw f j (i + 1)
theorem zt_fw_s (f : Nat → Int) (j i : Nat) : zt_fw f (j + 1) i = if f i = 0 then i else zt_fw f j (i + 1) := rfl
/-- how many of the nodes from i on are leaves -/
def zt_lv (f : Nat → Int) : Nat → Nat → Int
  | 0, _ => 0
  | j + 1, i => (if f i = 1 then 1 else 0) + zt_lv f j (i + 1)
theorem zt_lv_s (f : Nat → Int) (j i : Nat) : zt_lv f (j + 1) i = (if f i = 1 then 1 else 0) + zt_lv f j (i + 1) := rfl
theorem zt_lv_b (f : Nat → Int) : ∀ j i, 0 ≤ zt_lv f j i ∧ zt_lv f j i ≤ j
  | 0, i => by simp [zt_lv]
  | j + 1, i => by
    have := zt_lv_b f j (i + 1)
    rw [zt_lv_s]
    split <;> omega
def zt_do (f : Nat → Int) (k : Nat) : Int := if _h : k < 2 then f k else if zt_do f (k / 2) = 2 then f k else -1
termination_by k
theorem zt_do_1 (f : Nat → Int) {k : Nat} (h : k < 2) : zt_do f k = f k := by rw [zt_do, dif_pos h]
theorem zt_do_2 (f : Nat → Int) {k : Nat} (h : ¬ k < 2) (h2 : zt_do f (k / 2) = 2) : zt_do f k = f k := by rw [zt_do, dif_neg h, if_pos h2]
theorem zt_do_3 (f : Nat → Int) {k : Nat} (h : ¬ k < 2) (h2 : ¬ zt_do f (k / 2) = 2) : zt_do f k = -1 := by rw [zt_do, dif_neg h, if_neg h2]
theorem zt_do_b {f : Nat → Int} (hf : zt_kd f) : zt_kd (zt_do f) := by
  intro k hk
  by_cases h : k < 2
  · rw [zt_do_1 f h]; exact hf k hk
  · by_cases h2 : zt_do f (k / 2) = 2
    · rw [zt_do_2 f h h2]; exact hf k hk
    · rw [zt_do_3 f h h2]; omega
def zt_mx (f g : Nat → Int) (i : Nat) : Nat → Int := fun k => if k < i then f k else g k
section ZT4
variable {Γ : zg_C} {V : zg_V} {a sh : Nat}
theorem ct_hclear (h : zk_sh a) : zg_S Γ zm_Shape_clear 0 0 0 [zg_r Γ a] zk_K 242 (zk_P sh) V (zq_p zk_K 242 (zk_P sh) (zv_fill V (a + 1) 32 (-1)) none) := by
  obtain ⟨h1, h2, h3, h4⟩ := zk_shf h
  have h4 := h4 sh
  generalize hQ : zq_p zk_K 242 (zk_P sh) (zv_fill V (a + 1) 32 (-1)) none = Q
  refine zg_enter 1 (by decide) (Nat.le_of_ble_eq_true rfl) rfl ?_
  refine zg_iconst zd_Shape_clear_0 ?_
  refine zg_is1 zd_Shape_clear_1 (fun w h => by cases h <;> rfl) (by decide) ?_
  have key : ∀ (j i : Nat) (hij : i + j = 32), zg_G Γ (fun _ => True) zm_Shape_clear (zg_rm 0 0 0) (zg_Ω Γ (Q) 0 0) 0 0 2 [some (zg_r Γ (a)), some (zg_i ((i : Nat)))] [] zk_K 242 (zk_P sh) (zv_fill V (a + 1) i (-1)) := by
    intro j
    induction j with
    | zero =>
      intro i hij
      have e : i = 32 := by omega
      subst e
      refine zg_il1 zd_Shape_clear_2 ?_
      refine zg_bipush zd_Shape_clear_3 (by decide) ?_
      refine zg_icmp_ge (tgt := 21) zd_Shape_clear_5 (by decide) (by omega) (by omega) (fun b5 => ?_) (fun b5 => ?_)
      · refine zg_return zd_Shape_clear_21 rfl ?_
        subst hQ; exact ⟨rfl, rfl, rfl, rfl, rfl⟩
      · omega
    | succ j ih =>
      intro i hij
      have ih := ih (i + 1) (by omega)
      rw [← zv_fill_s] at ih
      refine zg_il1 zd_Shape_clear_2 ?_
      refine zg_bipush zd_Shape_clear_3 (by decide) ?_
      refine zg_icmp_ge (tgt := 21) zd_Shape_clear_5 (by decide) (by omega) (by omega) (fun b5 => ?_) (fun b5 => ?_)
      · omega
      · refine zg_al0 zd_Shape_clear_8 ?_
        refine zg_getr zd_Shape_clear_9 zf_172 (by omega) (by first | assumption | rfl) rfl (by first | assumption | rfl) ?_
        refine zg_il1 zd_Shape_clear_12 ?_
        refine zg_iconst zd_Shape_clear_13 ?_
        refine zg_iast zd_Shape_clear_14 (by omega) (by first | assumption | rfl) rfl (by omega) (by decide) ?_
        refine zg_inc1 zd_Shape_clear_15 (fun w h => by cases h <;> rfl) (by decide) ?_
        refine zg_goto (tgt := 2) zd_Shape_clear_18 (by decide) ?_
        exact ih
  have := key 32 0 (by omega)
  rw [zv_fill_0] at this
  exact this
theorem ct_hat (h : zk_sh a) {k : Int} (hk : -2147483648 ≤ k ∧ k < 2147483648) : zg_S Γ zm_Shape_at 0 0 0 [zg_r Γ a, zg_i k] zk_K 242 (zk_P sh) V (zq_p zk_K 242 (zk_P sh) V (some (zg_i (zt_at (V (a + 1)) k)))) := by
  obtain ⟨h1, h2, h3, h4⟩ := zk_shf h
  have h4 := h4 sh
  refine zg_enter 0 (by decide) (Nat.le_of_ble_eq_true rfl) rfl ?_
  refine zg_il1 zd_Shape_at_0 ?_
  refine zg_iconst zd_Shape_at_1 ?_
  refine zg_icmp_lt (tgt := 20) zd_Shape_at_2 (by decide) (by omega) (by omega) (fun b2 => ?_) (fun b2 => ?_)
  · refine zg_iconst zd_Shape_at_20 ?_
    refine zg_ireturn zd_Shape_at_21 rfl ?_
    unfold zt_at; first | (rw [if_pos (by omega)]; exact ⟨rfl, rfl, rfl, rfl, rfl⟩) | (rw [if_neg (by omega)]; exact ⟨rfl, rfl, rfl, rfl, rfl⟩)
  · refine zg_il1 zd_Shape_at_5 ?_
    refine zg_bipush zd_Shape_at_6 (by decide) ?_
    refine zg_icmp_ge (tgt := 20) zd_Shape_at_8 (by decide) (by omega) (by omega) (fun b8 => ?_) (fun b8 => ?_)
    · refine zg_iconst zd_Shape_at_20 ?_
      refine zg_ireturn zd_Shape_at_21 rfl ?_
      unfold zt_at; first | (rw [if_pos (by omega)]; exact ⟨rfl, rfl, rfl, rfl, rfl⟩) | (rw [if_neg (by omega)]; exact ⟨rfl, rfl, rfl, rfl, rfl⟩)
    · refine zg_al0 zd_Shape_at_11 ?_
      refine zg_getr zd_Shape_at_12 zf_172 (by omega) (by first | assumption | rfl) rfl (by first | assumption | rfl) ?_
      refine zg_il1 zd_Shape_at_15 ?_
      refine zg_iald (j := k.toNat) zd_Shape_at_16 (by omega) (by assumption) (by omega) (by omega) (by decide) ?_
      refine zg_goto (tgt := 21) zd_Shape_at_17 (by decide) ?_
      refine zg_ireturn zd_Shape_at_21 rfl ?_
      unfold zt_at; first | (rw [if_pos (by omega)]; exact ⟨rfl, rfl, rfl, rfl, rfl⟩) | (rw [if_neg (by omega)]; exact ⟨rfl, rfl, rfl, rfl, rfl⟩)
theorem ct_hfw (h : zk_sh a) (hf : zt_kd (V (a + 1))) : zg_S Γ zm_Shape_firstWaiting 0 0 0 [zg_r Γ a] zk_K 242 (zk_P sh) V (zq_p zk_K 242 (zk_P sh) V (some (zg_i (zt_fw (V (a + 1)) 31 1 : Nat)))) := by
  obtain ⟨h1, h2, h3, h4⟩ := zk_shf h
  have h4 := h4 sh
  generalize hg : zt_fw (V (a + 1)) 31 1 = g
  refine zg_enter 1 (by decide) (Nat.le_of_ble_eq_true rfl) rfl ?_
  refine zg_iconst zd_Shape_firstWaiting_0 ?_
  refine zg_is1 zd_Shape_firstWaiting_1 (fun w h => by cases h <;> rfl) (by decide) ?_
  have key : ∀ (j i : Nat) (hij : i + j = 32) (he : zt_fw (V (a + 1)) j i = g), zg_G Γ (fun _ => True) zm_Shape_firstWaiting (zg_rm 0 0 0) (zg_Ω Γ (zq_p zk_K 242 (zk_P sh) V (some (zg_i (g : Nat)))) 0 0) 0 0 2 [some (zg_r Γ (a)), some (zg_i ((i : Nat)))] [] zk_K 242 (zk_P sh) (V) := by
    intro j
    induction j with
    | zero =>
      intro i hij he
      have e : i = 32 := by omega
      subst e
      have he : 0 = g := he
      subst he
      refine zg_il1 zd_Shape_firstWaiting_2 ?_
      refine zg_bipush zd_Shape_firstWaiting_3 (by decide) ?_
      refine zg_icmp_ge (tgt := 25) zd_Shape_firstWaiting_5 (by decide) (by omega) (by omega) (fun b5 => ?_) (fun b5 => ?_)
      · refine zg_iconst zd_Shape_firstWaiting_25 ?_
        refine zg_ireturn zd_Shape_firstWaiting_26 rfl ?_
        exact ⟨rfl, rfl, rfl, rfl, rfl⟩
      · omega
    | succ j ih =>
      intro i hij he
      rw [zt_fw_s] at he
      have hfi := hf i (by omega)
      refine zg_il1 zd_Shape_firstWaiting_2 ?_
      refine zg_bipush zd_Shape_firstWaiting_3 (by decide) ?_
      refine zg_icmp_ge (tgt := 25) zd_Shape_firstWaiting_5 (by decide) (by omega) (by omega) (fun b5 => ?_) (fun b5 => ?_)
      · omega
      · refine zg_al0 zd_Shape_firstWaiting_8 ?_
        refine zg_getr zd_Shape_firstWaiting_9 zf_172 (by omega) (by first | assumption | rfl) rfl (by first | assumption | rfl) ?_
        refine zg_il1 zd_Shape_firstWaiting_12 ?_
        refine zg_iald zd_Shape_firstWaiting_13 (by omega) (by first | assumption | rfl) rfl (by omega) (by decide) ?_
        refine zg_if_ne (tgt := 19) zd_Shape_firstWaiting_14 (by decide) (by omega) (fun b14 => ?_) (fun b14 => ?_)
        · refine zg_inc1 zd_Shape_firstWaiting_19 (fun w h => by cases h <;> rfl) (by decide) ?_
          refine zg_goto (tgt := 2) zd_Shape_firstWaiting_22 (by decide) ?_
          rw [if_neg b14] at he; exact ih (i + 1) (by omega) he
        · refine zg_il1 zd_Shape_firstWaiting_17 ?_
          refine zg_ireturn zd_Shape_firstWaiting_18 rfl ?_
          rw [if_pos b14] at he; subst he; exact ⟨rfl, rfl, rfl, rfl, rfl⟩
  exact key 31 1 (by omega) hg
theorem ct_hlv (h : zk_sh a) (hf : zt_kd (V (a + 1))) : zg_S Γ zm_Shape_leaves 0 0 0 [zg_r Γ a] zk_K 242 (zk_P sh) V (zq_p zk_K 242 (zk_P sh) V (some (zg_i (zt_lv (V (a + 1)) 31 1)))) := by
  obtain ⟨h1, h2, h3, h4⟩ := zk_shf h
  have h4 := h4 sh
  generalize hg : zt_lv (V (a + 1)) 31 1 = g
  refine zg_enter 2 (by decide) (Nat.le_of_ble_eq_true rfl) rfl ?_
  refine zg_iconst zd_Shape_leaves_0 ?_
  refine zg_is1 zd_Shape_leaves_1 (fun w h => by cases h <;> rfl) (by decide) ?_
  refine zg_iconst zd_Shape_leaves_2 ?_
  refine zg_is2 zd_Shape_leaves_3 (fun w h => by cases h <;> rfl) (by decide) ?_
  have key : ∀ (j i : Nat) (c : Int) (hij : i + j = 32) (he : c + zt_lv (V (a + 1)) j i = g), zg_G Γ (fun _ => True) zm_Shape_leaves (zg_rm 0 0 0) (zg_Ω Γ (zq_p zk_K 242 (zk_P sh) V (some (zg_i g))) 0 0) 0 0 4 [some (zg_r Γ (a)), some (zg_i (c)), some (zg_i ((i : Nat)))] [] zk_K 242 (zk_P sh) (V) := by
    intro j
    induction j with
    | zero =>
      intro i c hij he
      have e : i = 32 := by omega
      subst e
      have he : c + 0 = g := he
      rw [Int.add_zero] at he
      subst he
      refine zg_il2 zd_Shape_leaves_4 ?_
      refine zg_bipush zd_Shape_leaves_5 (by decide) ?_
      refine zg_icmp_ge (tgt := 29) zd_Shape_leaves_7 (by decide) (by omega) (by omega) (fun b7 => ?_) (fun b7 => ?_)
      · refine zg_il1 zd_Shape_leaves_29 ?_
        refine zg_ireturn zd_Shape_leaves_30 rfl ?_
        exact ⟨rfl, rfl, rfl, rfl, rfl⟩
      · omega
    | succ j ih =>
      intro i c hij he
      rw [zt_lv_s] at he
      have hfi := hf i (by omega)
      refine zg_il2 zd_Shape_leaves_4 ?_
      refine zg_bipush zd_Shape_leaves_5 (by decide) ?_
      refine zg_icmp_ge (tgt := 29) zd_Shape_leaves_7 (by decide) (by omega) (by omega) (fun b7 => ?_) (fun b7 => ?_)
      · omega
      · refine zg_al0 zd_Shape_leaves_10 ?_
        refine zg_getr zd_Shape_leaves_11 zf_172 (by omega) (by first | assumption | rfl) rfl (by first | assumption | rfl) ?_
        refine zg_il2 zd_Shape_leaves_14 ?_
        refine zg_iald zd_Shape_leaves_15 (by omega) (by first | assumption | rfl) rfl (by omega) (by decide) ?_
        refine zg_iconst zd_Shape_leaves_16 ?_
        refine zg_icmp_ne (tgt := 23) zd_Shape_leaves_17 (by decide) (by omega) (by omega) (fun b17 => ?_) (fun b17 => ?_)
        · refine zg_inc2 zd_Shape_leaves_23 (fun w h => by cases h <;> rfl) (by decide) ?_
          refine zg_goto (tgt := 4) zd_Shape_leaves_26 (by decide) ?_
          first | (rw [if_pos b17] at he; exact ih (i + 1) (c + 1) (by omega) (by omega)) | (rw [if_neg b17] at he; exact ih (i + 1) c (by omega) (by omega))
        · refine zg_inc1 zd_Shape_leaves_20 (fun w h => by cases h <;> rfl) (by decide) ?_
          refine zg_inc2 zd_Shape_leaves_23 (fun w h => by cases h <;> rfl) (by decide) ?_
          refine zg_goto (tgt := 4) zd_Shape_leaves_26 (by decide) ?_
          first | (rw [if_pos b17] at he; exact ih (i + 1) (c + 1) (by omega) (by omega)) | (rw [if_neg b17] at he; exact ih (i + 1) c (by omega) (by omega))
  exact key 31 1 0 (by omega) (by omega)
theorem ct_hdrop (h : zk_sh a) (hf : zt_kd (V (a + 1))) : zg_S Γ zm_Shape_dropOrphans 0 0 0 [zg_r Γ a] zk_K 242 (zk_P sh) V (zq_p zk_K 242 (zk_P sh) (zv_row V (a + 1) (zt_mx (zt_do (V (a + 1))) (V (a + 1)) 32)) none) := by
  obtain ⟨h1, h2, h3, h4⟩ := zk_shf h
  have h4 := h4 sh
  have hb := zt_do_b hf
  generalize hQ : zq_p zk_K 242 (zk_P sh) (zv_row V (a + 1) (zt_mx (zt_do (V (a + 1))) (V (a + 1)) 32)) none = Q
  refine zg_enter 1 (by decide) (Nat.le_of_ble_eq_true rfl) rfl ?_
  refine zg_iconst zd_Shape_dropOrphans_0 ?_
  refine zg_is1 zd_Shape_dropOrphans_1 (fun w h => by cases h <;> rfl) (by decide) ?_
  have key : ∀ (j i : Nat) (hi : 2 ≤ i) (hij : i + j = 32), zg_G Γ (fun _ => True) zm_Shape_dropOrphans (zg_rm 0 0 0) (zg_Ω Γ (Q) 0 0) 0 0 2 [some (zg_r Γ (a)), some (zg_i ((i : Nat)))] [] zk_K 242 (zk_P sh) (zv_row V (a + 1) (zt_mx (zt_do (V (a + 1))) (V (a + 1)) i)) := by
    intro j
    induction j with
    | zero =>
      intro i hi hij
      have e : i = 32 := by omega
      subst e
      refine zg_il1 zd_Shape_dropOrphans_2 ?_
      refine zg_bipush zd_Shape_dropOrphans_3 (by decide) ?_
      refine zg_icmp_ge (tgt := 33) zd_Shape_dropOrphans_5 (by decide) (by omega) (by omega) (fun b5 => ?_) (fun b5 => ?_)
      · refine zg_return zd_Shape_dropOrphans_33 rfl ?_
        subst hQ; exact ⟨rfl, rfl, rfl, rfl, rfl⟩
      · omega
    | succ j ih =>
      intro i hi hij
      have ih := ih (i + 1) (by omega) (by omega)
      have hr : zv_row V (a + 1) (zt_mx (zt_do (V (a + 1))) (V (a + 1)) i) (a + 1) (i / 2) = zt_do (V (a + 1)) (i / 2) := by
        rw [zv_row_i]
        show (if i / 2 < i then _ else _) = _
        rw [if_pos (by omega)]
      have hbi := hb (i / 2) (by omega)
      have e1 : zt_do (V (a + 1)) (i / 2) = 2 → zv_row V (a + 1) (zt_mx (zt_do (V (a + 1))) (V (a + 1)) i) = zv_row V (a + 1) (zt_mx (zt_do (V (a + 1))) (V (a + 1)) (i + 1)) := by
        intro hc
        congr 1
        funext k
        unfold zt_mx
        by_cases h1 : k < i
        · rw [if_pos h1, if_pos (by omega)]
        · rw [if_neg h1]
          by_cases h2 : k < i + 1
          · have : k = i := by omega
            subst this
            rw [if_pos h2, zt_do_2 _ (by omega) hc]
          · rw [if_neg h2]
      have e2 : ¬ zt_do (V (a + 1)) (i / 2) = 2 → zg_u (zv_row V (a + 1) (zt_mx (zt_do (V (a + 1))) (V (a + 1)) i)) (a + 1) i (-1) = zv_row V (a + 1) (zt_mx (zt_do (V (a + 1))) (V (a + 1)) (i + 1)) := by
        intro hc
        funext b k
        unfold zg_u zv_row zt_mx
        by_cases hb : b = a + 1
        · simp only [hb, if_true]
          by_cases h0 : k = i
          · subst h0
            rw [if_pos rfl, if_pos (by omega), zt_do_3 _ (by omega) hc]
          · rw [if_neg h0]
            by_cases h1 : k < i
            · rw [if_pos h1, if_pos (by omega)]
            · rw [if_neg h1, if_neg (by omega)]
        · simp only [hb, if_false]
      refine zg_il1 zd_Shape_dropOrphans_2 ?_
      refine zg_bipush zd_Shape_dropOrphans_3 (by decide) ?_
      refine zg_icmp_ge (tgt := 33) zd_Shape_dropOrphans_5 (by decide) (by omega) (by omega) (fun b5 => ?_) (fun b5 => ?_)
      · omega
      · refine zg_al0 zd_Shape_dropOrphans_8 ?_
        refine zg_getr zd_Shape_dropOrphans_9 zf_172 (by omega) (by first | assumption | rfl) rfl (by first | assumption | rfl) ?_
        refine zg_il1 zd_Shape_dropOrphans_12 ?_
        refine zg_iconst zd_Shape_dropOrphans_13 ?_
        refine zg_idiv ((i / 2 : Nat) : Int) zd_Shape_dropOrphans_14 (by decide) (zb_div (by omega) (by omega) (by omega)) ?_
        refine zg_iald zd_Shape_dropOrphans_15 (by omega) (by first | assumption | rfl) rfl (by omega) (by decide) ?_
        refine zg_iconst zd_Shape_dropOrphans_16 ?_
        rw [hr]
        refine zg_icmp_eq (tgt := 27) zd_Shape_dropOrphans_17 (by decide) (by omega) (by omega) (fun b17 => ?_) (fun b17 => ?_)
        · refine zg_inc1 zd_Shape_dropOrphans_27 (fun w h => by cases h <;> rfl) (by decide) ?_
          refine zg_goto (tgt := 2) zd_Shape_dropOrphans_30 (by decide) ?_
          first | (rw [← e2 b17] at ih; exact ih) | (rw [← e1 b17] at ih; exact ih)
        · refine zg_al0 zd_Shape_dropOrphans_20 ?_
          refine zg_getr zd_Shape_dropOrphans_21 zf_172 (by omega) (by first | assumption | rfl) rfl (by first | assumption | rfl) ?_
          refine zg_il1 zd_Shape_dropOrphans_24 ?_
          refine zg_iconst zd_Shape_dropOrphans_25 ?_
          refine zg_iast zd_Shape_dropOrphans_26 (by omega) (by first | assumption | rfl) rfl (by omega) (by decide) ?_
          refine zg_inc1 zd_Shape_dropOrphans_27 (fun w h => by cases h <;> rfl) (by decide) ?_
          refine zg_goto (tgt := 2) zd_Shape_dropOrphans_30 (by decide) ?_
          first | (rw [← e2 b17] at ih; exact ih) | (rw [← e1 b17] at ih; exact ih)
  have := key 30 2 (by omega) (by omega)
  rw [show zv_row V (a + 1) (zt_mx (zt_do (V (a + 1))) (V (a + 1)) 2) = V by
    funext b k
    unfold zv_row zt_mx
    by_cases hb : b = a + 1
    · simp only [hb, if_true]
      by_cases h1 : k < 2
      · rw [if_pos h1, zt_do_1 _ h1]
      · rw [if_neg h1]
    · simp only [hb, if_false]] at this
  exact this
end ZT4

