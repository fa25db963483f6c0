/-! Cutter.trim -/
theorem zc_C_nn {e : Nat → Int} {S : Nat → Bool} {p q : Int} (he : ∀ k, 1 ≤ k → 0 ≤ e k) (hp : 0 ≤ p) (hq : 0 ≤ q) : ∀ k, 1 ≤ k → 0 ≤ zc_C e S p q k := by
  apply zc_ind
  intro k hk ih
  by_cases h : zc_k e S p q k
  · have := ih h.1.2
    rw [zc_C_k h]
    omega
  · rw [zc_C_n h]
    have := Int.mul_nonneg (he k hk) hq
    omega
def zc_kb (e : Nat → Int) (S : Nat → Bool) (p q : Int) (k : Nat) : Bool := decide (1 ≤ k ∧ k < 32) && (S k && decide (zc_C e S p q (2 * k) + zc_C e S p q (2 * k + 1) < e k * q + p))
theorem zc_kb_iff {e : Nat → Int} {S : Nat → Bool} {p q : Int} {k : Nat} : zc_kb e S p q k = true ↔ zc_k e S p q k := by
  unfold zc_kb zc_k
  simp only [Bool.and_eq_true, decide_eq_true_eq]
/-- the kinds behind the cut, orphans not yet dropped; kd: the kinds as grown -/
def zc_kk (e : Nat → Int) (S : Nat → Bool) (kd : Nat → Int) (p q : Int) (k : Nat) : Int := if zc_kb e S p q k then 2 else if kd k = 2 then 1 else kd k
def zc_sh (e : Nat → Int) (S : Nat → Bool) (kd : Nat → Int) (p q : Int) (k : Nat) : Int := zt_do (zc_kk e S kd p q) k
theorem zt_do_c {f g : Nat → Int} (h : ∀ j, 1 ≤ j → j < 32 → f j = g j) : ∀ k, 1 ≤ k → k < 32 → zt_do f k = zt_do g k := by
  have key : ∀ n k, k ≤ n → 1 ≤ k → k < 32 → zt_do f k = zt_do g k := by
    intro n
    induction n with
    | zero => intro k h1 h2; omega
    | succ n ih =>
      intro k h1 h2 h3
      by_cases q : k < 2
      · rw [zt_do_1 f q, zt_do_1 g q]; exact h k h2 h3
      · have e := ih (k / 2) (by omega) (by omega) (by omega)
        by_cases q2 : zt_do f (k / 2) = 2
        · rw [zt_do_2 f q q2, zt_do_2 g q (by rw [← e]; exact q2)]; exact h k h2 h3
        · rw [zt_do_3 f q q2, zt_do_3 g q (by rw [← e]; exact q2)]
  intro k h1 h2
  exact key k k (Nat.le_refl k) h1 h2
abbrev zt_er (V : zg_V) : Nat → Int := fun k => V (40 + 5 * k) 2
abbrev zt_sp (V : zg_V) : Nat → Bool := fun k => decide (V 201 k = 2)
/-- errors are small; kinds are kinds; nodes from 16 on are not split -/
def zc_W (V : zg_V) : Prop := (∀ k, k < 32 → 0 ≤ V (40 + 5 * k) 2 ∧ V (40 + 5 * k) 2 ≤ 16) ∧ zt_kd (V 201) ∧ ∀ k, k < 32 → V 201 k = 2 → k < 16
section ZT14
variable {Γ : zg_C} {V : zg_V} {sh : Nat}
theorem ct_trim {R : Nat} (hR : R = 202 ∨ R = 216) {p q : Int} (hp : 0 ≤ p ∧ p ≤ 16000) (hq : 0 ≤ q ∧ q ≤ 16000) (hW : zc_W V) (hk0 : zt_kd (V (R + 1))) : zg_S Γ zm_Cutter_trim 1 0 0 [zg_r Γ 214, zg_r Γ 200, zg_r Γ 39, zg_i p, zg_i q, zg_r Γ R] zk_K 242 (zk_P sh) V (zq_r zk_K 242 (zk_P sh) (fun rr V' => rr = none ∧ zv_on (fun a => a = 219 ∨ a = R + 1) V V' ∧ zt_kd (V' (R + 1)) ∧ V' (R + 1) 0 = V (R + 1) 0 ∧ ∀ k, 1 ≤ k → k < 32 → V' (R + 1) k = zc_sh (zt_er V) (zt_sp V) (V 201) p q k)) := by
  have hRs : zk_sh R := by rcases hR with rfl | rfl <;> simp [zk_sh]
  obtain ⟨r1, r2, r3, r4⟩ := zk_shf hRs
  have r4 := r4 sh
  have hR2 : R ≠ 200 ∧ R + 1 ≠ 201 ∧ R + 1 ≠ 219 ∧ 200 ≤ R := by omega
  obtain ⟨he, hkd, hs16⟩ := hW
  -- numbers stay small
  have hal : ∀ k, k < 32 → 0 ≤ V (40 + 5 * k) 2 * q + p ∧ V (40 + 5 * k) 2 * q + p ≤ 300000 := fun k hk => by
    have := zx_mul_b (he k hk) hq
    omega
  have hCb : ∀ k, 1 ≤ k → k < 32 → 0 ≤ zc_C (zt_er V) (zt_sp V) p q k ∧ zc_C (zt_er V) (zt_sp V) p q k ≤ 300000 := by
    intro k h1 h2
    have h3 : zc_C (zt_er V) (zt_sp V) p q k ≤ V (40 + 5 * k) 2 * q + p := zc_C_le
    have h4 := hal k h2
    refine ⟨?_, by omega⟩
    have key : ∀ k, 1 ≤ k → k < 32 → 0 ≤ zc_C (zt_er V) (zt_sp V) p q k := by
      intro k hk
      have := zc_ind (M := fun k => k < 32 → 0 ≤ zc_C (zt_er V) (zt_sp V) p q k) (fun k hk ih hk2 => by
        by_cases h : zc_k (zt_er V) (zt_sp V) p q k
        · have hk16 := hs16 k hk2 (of_decide_eq_true h.2.1)
          have := ih hk2
          have a1 := this.1 (by omega)
          have a2 := this.2 (by omega)
          rw [zc_C_k h]
          omega
        · rw [zc_C_n h]
          exact (hal k hk2).1) k hk
      exact this
    exact key k h1 h2
  generalize hQ : zq_r zk_K 242 (zk_P sh) (fun rr V' => rr = none ∧ zv_on (fun a => a = 219 ∨ a = R + 1) V V' ∧ zt_kd (V' (R + 1)) ∧ V' (R + 1) 0 = V (R + 1) 0 ∧ ∀ k, 1 ≤ k → k < 32 → V' (R + 1) k = zc_sh (zt_er V) (zt_sp V) (V 201) p q k) = Q
  refine zg_enter 3 (by decide) (Nat.le_of_ble_eq_true rfl) rfl ?_
  refine zg_bipush zd_Cutter_trim_0 (by decide) ?_
  refine zg_is6 zd_Cutter_trim_2 (fun w h => by cases h <;> rfl) (by decide) ?_
  have key : ∀ (k : Nat) (W : zg_V) (o7 o8 : Option Value) (hk : k ≤ 31) (hW : zv_on (fun a => a = 219 ∨ a = R + 1) V W) (hin : ∀ j, k < j → j < 32 → W 219 j = zc_C (zt_er V) (zt_sp V) p q j ∧ W (R + 1) j = zc_kk (zt_er V) (zt_sp V) (V 201) p q j) (h0 : ∀ j, j ≤ k → W (R + 1) j = V (R + 1) j) (ho7 : ∀ w, o7 = some w → w.category = 1), zg_G Γ (fun _ => True) zm_Cutter_trim (zg_rm 1 0 0) (zg_Ω Γ (Q) 0 0) 0 0 4 [some (zg_r Γ (214)), some (zg_r Γ (200)), some (zg_r Γ (39)), some (zg_i (p)), some (zg_i (q)), some (zg_r Γ (R)), some (zg_i ((k : Nat))), o7, o8] [] zk_K 242 (zk_P sh) (W) := by
    intro k
    induction k with
    | zero =>
      intro W o7 o8 hk hW hin h0 ho7
      have hkW : zt_kd (W (R + 1)) := by
        intro j hj
        by_cases e : j = 0
        · subst e; rw [h0 0 (by omega)]; exact hk0 0 hj
        · rw [(hin j (by omega) hj).2]
          have := hkd j hj
          unfold zc_kk
          split
          · omega
          · split <;> omega
      refine zg_il6 zd_Cutter_trim_4 ?_
      refine zg_iconst zd_Cutter_trim_6 ?_
      refine zg_icmp_lt (tgt := 120) zd_Cutter_trim_7 (by decide) (by omega) (by omega) (fun b7 => ?_) (fun b7 => ?_)
      · refine zg_al5 zd_Cutter_trim_120 ?_
        refine zg_cVq0 zd_Cutter_trim_122 zM_Shape_dropOrphans zw_586 zi_Shape_dropOrphans zs_Shape_dropOrphans (ct_hdrop hRs hkW) (by decide) (by decide) (by omega) (by first | assumption | rfl) (by decide) rfl (Nat.le_of_ble_eq_true rfl) ?_
        refine zg_return zd_Cutter_trim_125 rfl ?_
        subst hQ
        refine ⟨rfl, rfl, rfl, rfl, zv_on_row hW (Or.inr rfl), ?_, ?_, fun j j1 j2 => ?_⟩
        · rw [zv_row_i]
          intro j hj
          show _ ≤ (if j < 32 then _ else _) ∧ (if j < 32 then _ else _) ≤ _
          rw [if_pos hj]
          exact zt_do_b hkW j hj
        · rw [zv_row_i]
          show (if 0 < 32 then zt_do (W (R + 1)) 0 else _) = _
          rw [if_pos (by decide), zt_do_1 _ (by decide)]
          exact h0 0 (Nat.le_refl 0)
        · rw [zv_row_i]
          show (if j < 32 then _ else _) = _
          rw [if_pos j2]
          exact zt_do_c (fun i i1 i2 => (hin i (by omega) i2).2) j j1 j2
      · omega
    | succ k ih =>
      intro W o7 o8 hk hW hin h0 ho7
      generalize hm : k + 1 = m at *
      have hm1 : 1 ≤ m := by omega
      have hm2 : m < 32 := by omega
      have hkm := (zk_node m hm2).1
      have hpm := zp_nodes (sh := sh) hm2
      have hW201 : W 201 = V 201 := hW 201 (by omega)
      have hat : zt_at (W (200 + 1)) (m : Int) = V 201 m := by
        show (if 1 ≤ (m : Int) ∧ (m : Int) < 32 then W 201 (m : Int).toNat else -1) = _
        rw [if_pos (by omega), hW201]
        congr 1
      have hWm : W (40 + 5 * m) = V (40 + 5 * m) := hW _ (by omega)
      have hkb := hkd m hm2
      have hal := hal m hm2
      generalize hW1 : zg_u W 219 m (V (40 + 5 * m) 2 * q + p) = W1
      have hW1o : ∀ b, b ≠ 219 → W1 b = W b := fun b hb => by rw [← hW1, zg_u_out _ _ _ _ hb]
      have hW1m : W1 219 m = V (40 + 5 * m) 2 * q + p := by rw [← hW1, zg_u_in]
      have hW1j : ∀ j, j ≠ m → W1 219 j = W 219 j := fun j hj => by rw [← hW1, zg_u_off _ _ _ _ hj]
      have hW1V : zv_on (fun a => a = 219 ∨ a = R + 1) V W1 := by rw [← hW1]; exact zv_on_u hW (Or.inl rfl)
      -- what is written in the end
      have fin : ∀ (W2 : zg_V) (kx : Int) (o8 : Option Value), (∀ b, b ≠ 219 → W2 b = W b) → (∀ j, j ≠ m → W2 219 j = W 219 j) → W2 219 m = zc_C (zt_er V) (zt_sp V) p q m → kx = zc_kk (zt_er V) (zt_sp V) (V 201) p q m → zg_G Γ (fun _ => True) zm_Cutter_trim (zg_rm 1 0 0) (zg_Ω Γ (Q) 0 0) 0 0 104 [some (zg_r Γ (214)), some (zg_r Γ (200)), some (zg_r Γ (39)), some (zg_i (p)), some (zg_i (q)), some (zg_r Γ (R)), some (zg_i ((m : Nat))), some (zg_i (kx)), o8] [] zk_K 242 (zk_P sh) (W2) := by
        intro W2 kx o8 g1 g2 g3 g4
        have ih := ih (zg_u W2 (R + 1) m kx) (some (zg_i kx)) o8 (by omega) (by
            intro b hb
            rw [zg_u_out _ _ _ _ (by omega), g1 b (by omega)]
            exact hW b hb) (by
            intro j j1 j2
            rw [zg_u_out _ _ _ _ (by omega)]
            by_cases e : j = m
            · subst e
              rw [zg_u_in]
              exact ⟨g3, g4⟩
            · rw [zg_u_off _ _ _ _ e, g2 j e, g1 _ (by omega)]
              exact hin j (by omega) j2) (by
            intro j hj
            rw [zg_u_off _ _ _ _ (by omega), g1 _ (by omega)]
            exact h0 j (by omega)) (fun w hw => by cases hw; rfl)
        rw [show ((k : Nat) : Int) = (m : Int) + -1 by omega] at ih
        refine zg_al5 zd_Cutter_trim_104 ?_
        refine zg_getr zd_Cutter_trim_106 zf_173 (by omega) (by first | assumption | rfl) rfl (by first | assumption | rfl) ?_
        refine zg_il6 zd_Cutter_trim_109 ?_
        refine zg_il7 zd_Cutter_trim_111 ?_
        refine zg_iast zd_Cutter_trim_113 (by omega) (by first | assumption | rfl) rfl (by omega) (by decide) ?_
        refine zg_inc6 zd_Cutter_trim_114 (fun w h => by cases h <;> rfl) (by decide) ?_
        refine zg_goto (tgt := 4) zd_Cutter_trim_117 (by decide) ?_
        exact ih
      refine zg_il6 zd_Cutter_trim_4 ?_
      refine zg_iconst zd_Cutter_trim_6 ?_
      refine zg_icmp_lt (tgt := 120) zd_Cutter_trim_7 (by decide) (by omega) (by omega) (fun b7 => ?_) (fun b7 => ?_)
      · omega
      · refine zg_al1 zd_Cutter_trim_10 ?_
        refine zg_il6 zd_Cutter_trim_11 ?_
        refine zg_cVp1 zd_Cutter_trim_13 zM_Shape_at zw_585 zi_Shape_at zs_Shape_at (ct_hat (Or.inl rfl) (by omega)) (by decide) (by decide) (by omega) (by first | assumption | rfl) (by decide) rfl (Nat.le_of_ble_eq_true rfl) ?_
        rw [hat]
        refine zg_is7 zd_Cutter_trim_16 (fun w h => by cases h <;> rfl) (by decide) ?_
        refine zg_al0 zd_Cutter_trim_18 ?_
        refine zg_getr zd_Cutter_trim_19 zf_249 (by omega) (by first | assumption | rfl) rfl (by first | assumption | rfl) ?_
        refine zg_il6 zd_Cutter_trim_22 ?_
        refine zg_al2 zd_Cutter_trim_24 ?_
        refine zg_il6 zd_Cutter_trim_25 ?_
        refine zg_aald zd_Cutter_trim_27 (by omega) (by first | assumption | rfl) rfl rfl rfl (by omega) (by decide) (by first | assumption | rfl) ?_
        refine zg_geti zd_Cutter_trim_28 zf_123 (by omega) (by first | assumption | rfl) rfl ?_
        refine zg_il4 zd_Cutter_trim_31 ?_
        rw [hWm]
        refine zg_imul zd_Cutter_trim_33 ?_
        refine zg_il3 zd_Cutter_trim_34 ?_
        refine zg_iadd zd_Cutter_trim_35 ?_
        refine zg_iast zd_Cutter_trim_36 (by omega) (by first | assumption | rfl) rfl (by omega) (by decide) ?_
        rw [hW1]
        refine zg_il7 zd_Cutter_trim_37 ?_
        refine zg_iconst zd_Cutter_trim_39 ?_
        refine zg_icmp_ne (tgt := 104) zd_Cutter_trim_40 (by decide) (by omega) (by omega) (fun b40 => ?_) (fun b40 => ?_)
        · first
          | (have hno : ¬ zc_k (zt_er V) (zt_sp V) p q m := fun h => b40 (of_decide_eq_true h.2.1)
             refine fin W1 _ _ hW1o hW1j (by rw [hW1m, zc_C_n hno]) ?_
             unfold zc_kk
             rw [if_neg (fun h => hno (zc_kb_iff.mp h)), if_neg b40])
          | (exfalso; have := hs16 m hm2 b40; omega)
          | (have hyes : zc_k (zt_er V) (zt_sp V) p q m := ⟨⟨hm1, hm2⟩, decide_eq_true b40, by show _ < V (40 + 5 * m) 2 * q + p; omega⟩
             refine fin _ _ _ (fun b hb => by rw [zg_u_out _ _ _ _ hb]; exact hW1o b hb) (fun j hj => by rw [zg_u_off _ _ _ _ hj]; exact hW1j j hj) (by rw [zg_u_in, zc_C_k hyes]) ?_
             unfold zc_kk
             rw [if_pos (zc_kb_iff.mpr hyes), b40])
          | (have hno : ¬ zc_k (zt_er V) (zt_sp V) p q m := fun h => by
               have h3 : _ < V (40 + 5 * m) 2 * q + p := h.2.2
               omega
             refine fin W1 _ _ hW1o hW1j (by rw [hW1m, zc_C_n hno]) ?_
             unfold zc_kk
             rw [if_neg (fun h => hno (zc_kb_iff.mp h)), if_pos b40])
        · refine zg_iconst zd_Cutter_trim_43 ?_
          refine zg_il6 zd_Cutter_trim_44 ?_
          refine zg_imul zd_Cutter_trim_46 ?_
          refine zg_iconst zd_Cutter_trim_47 ?_
          refine zg_iadd zd_Cutter_trim_48 ?_
          refine zg_bipush zd_Cutter_trim_49 (by decide) ?_
          refine zg_icmp_ge (tgt := 104) zd_Cutter_trim_51 (by decide) (by omega) (by omega) (fun b51 => ?_) (fun b51 => ?_)
          · first
            | (have hno : ¬ zc_k (zt_er V) (zt_sp V) p q m := fun h => b40 (of_decide_eq_true h.2.1)
               refine fin W1 _ _ hW1o hW1j (by rw [hW1m, zc_C_n hno]) ?_
               unfold zc_kk
               rw [if_neg (fun h => hno (zc_kb_iff.mp h)), if_neg b40])
            | (exfalso; have := hs16 m hm2 b40; omega)
            | (have hyes : zc_k (zt_er V) (zt_sp V) p q m := ⟨⟨hm1, hm2⟩, decide_eq_true b40, by show _ < V (40 + 5 * m) 2 * q + p; omega⟩
               refine fin _ _ _ (fun b hb => by rw [zg_u_out _ _ _ _ hb]; exact hW1o b hb) (fun j hj => by rw [zg_u_off _ _ _ _ hj]; exact hW1j j hj) (by rw [zg_u_in, zc_C_k hyes]) ?_
               unfold zc_kk
               rw [if_pos (zc_kb_iff.mpr hyes), b40])
            | (have hno : ¬ zc_k (zt_er V) (zt_sp V) p q m := fun h => by
                 have h3 : _ < V (40 + 5 * m) 2 * q + p := h.2.2
                 omega
               refine fin W1 _ _ hW1o hW1j (by rw [hW1m, zc_C_n hno]) ?_
               unfold zc_kk
               rw [if_neg (fun h => hno (zc_kb_iff.mp h)), if_pos b40])
          · refine zg_al0 zd_Cutter_trim_54 ?_
            refine zg_getr zd_Cutter_trim_55 zf_249 (by omega) (by first | assumption | rfl) rfl (by first | assumption | rfl) ?_
            refine zg_iconst zd_Cutter_trim_58 ?_
            refine zg_il6 zd_Cutter_trim_59 ?_
            refine zg_imul zd_Cutter_trim_61 ?_
            skip
            refine zg_iald (j := 2 * m) zd_Cutter_trim_62 (by omega) rfl (by omega) (by omega) (by decide) ?_
            refine zg_al0 zd_Cutter_trim_63 ?_
            refine zg_getr zd_Cutter_trim_64 zf_249 (by omega) (by first | assumption | rfl) rfl (by first | assumption | rfl) ?_
            refine zg_iconst zd_Cutter_trim_67 ?_
            refine zg_il6 zd_Cutter_trim_68 ?_
            refine zg_imul zd_Cutter_trim_70 ?_
            refine zg_iconst zd_Cutter_trim_71 ?_
            refine zg_iadd zd_Cutter_trim_72 ?_
            refine zg_iald (j := 2 * m + 1) zd_Cutter_trim_73 (by omega) rfl (by omega) (by omega) (by decide) ?_
            rw [hW1j (2 * m) (by omega), hW1j (2 * m + 1) (by omega), (hin (2 * m) (by omega) (by omega)).1, (hin (2 * m + 1) (by omega) (by omega)).1]
            have hc1 := hCb (2 * m) (by omega) (by omega)
            have hc2 := hCb (2 * m + 1) (by omega) (by omega)
            refine zg_iadd zd_Cutter_trim_74 ?_
            refine zg_is8 zd_Cutter_trim_75 (fun w h => by cases h <;> rfl) (by decide) ?_
            refine zg_il8 zd_Cutter_trim_77 ?_
            refine zg_al0 zd_Cutter_trim_79 ?_
            refine zg_getr zd_Cutter_trim_80 zf_249 (by omega) (by first | assumption | rfl) rfl (by first | assumption | rfl) ?_
            refine zg_il6 zd_Cutter_trim_83 ?_
            refine zg_iald zd_Cutter_trim_85 (by omega) (by first | assumption | rfl) rfl (by omega) (by decide) ?_
            rw [hW1m]
            refine zg_icmp_ge (tgt := 101) zd_Cutter_trim_86 (by decide) (by omega) (by omega) (fun b86 => ?_) (fun b86 => ?_)
            · refine zg_iconst zd_Cutter_trim_101 ?_
              refine zg_is7 zd_Cutter_trim_102 (fun w h => by cases h <;> rfl) (by decide) ?_
              first
              | (have hno : ¬ zc_k (zt_er V) (zt_sp V) p q m := fun h => b40 (of_decide_eq_true h.2.1)
                 refine fin W1 _ _ hW1o hW1j (by rw [hW1m, zc_C_n hno]) ?_
                 unfold zc_kk
                 rw [if_neg (fun h => hno (zc_kb_iff.mp h)), if_neg b40])
              | (exfalso; have := hs16 m hm2 b40; omega)
              | (have hyes : zc_k (zt_er V) (zt_sp V) p q m := ⟨⟨hm1, hm2⟩, decide_eq_true b40, by show _ < V (40 + 5 * m) 2 * q + p; omega⟩
                 refine fin _ _ _ (fun b hb => by rw [zg_u_out _ _ _ _ hb]; exact hW1o b hb) (fun j hj => by rw [zg_u_off _ _ _ _ hj]; exact hW1j j hj) (by rw [zg_u_in, zc_C_k hyes]) ?_
                 unfold zc_kk
                 rw [if_pos (zc_kb_iff.mpr hyes), b40])
              | (have hno : ¬ zc_k (zt_er V) (zt_sp V) p q m := fun h => by
                   have h3 : _ < V (40 + 5 * m) 2 * q + p := h.2.2
                   omega
                 refine fin W1 _ _ hW1o hW1j (by rw [hW1m, zc_C_n hno]) ?_
                 unfold zc_kk
                 rw [if_neg (fun h => hno (zc_kb_iff.mp h)), if_pos b40])
            · refine zg_al0 zd_Cutter_trim_89 ?_
              refine zg_getr zd_Cutter_trim_90 zf_249 (by omega) (by first | assumption | rfl) rfl (by first | assumption | rfl) ?_
              refine zg_il6 zd_Cutter_trim_93 ?_
              refine zg_il8 zd_Cutter_trim_95 ?_
              refine zg_iast zd_Cutter_trim_97 (by omega) (by first | assumption | rfl) rfl (by omega) (by decide) ?_
              refine zg_goto (tgt := 104) zd_Cutter_trim_98 (by decide) ?_
              first
              | (have hno : ¬ zc_k (zt_er V) (zt_sp V) p q m := fun h => b40 (of_decide_eq_true h.2.1)
                 refine fin W1 _ _ hW1o hW1j (by rw [hW1m, zc_C_n hno]) ?_
                 unfold zc_kk
                 rw [if_neg (fun h => hno (zc_kb_iff.mp h)), if_neg b40])
              | (exfalso; have := hs16 m hm2 b40; omega)
              | (have hyes : zc_k (zt_er V) (zt_sp V) p q m := ⟨⟨hm1, hm2⟩, decide_eq_true b40, by show _ < V (40 + 5 * m) 2 * q + p; omega⟩
                 refine fin _ _ _ (fun b hb => by rw [zg_u_out _ _ _ _ hb]; exact hW1o b hb) (fun j hj => by rw [zg_u_off _ _ _ _ hj]; exact hW1j j hj) (by rw [zg_u_in, zc_C_k hyes]) ?_
                 unfold zc_kk
                 rw [if_pos (zc_kb_iff.mpr hyes), b40])
              | (have hno : ¬ zc_k (zt_er V) (zt_sp V) p q m := fun h => by
                   have h3 : _ < V (40 + 5 * m) 2 * q + p := h.2.2
                   omega
                 refine fin W1 _ _ hW1o hW1j (by rw [hW1m, zc_C_n hno]) ?_
                 unfold zc_kk
                 rw [if_neg (fun h => hno (zc_kb_iff.mp h)), if_pos b40])
  exact key 31 V none none (by omega) zv_on_rf (fun j h1 h2 => by omega) (fun j _ => rfl) (fun w h => by cases h)
end ZT14

