/-! SplitSearch: squares, measure, offer -/
theorem zx_id (x y l r : Int) : (x * r - y * l) * (x * r - y * l) = (x * x * r + y * y * l) * (l + r) - (x + y) * (x + y) * (l * r) := by
  simp only [Int.mul_add, Int.add_mul, Int.sub_mul, Int.mul_sub, Int.mul_assoc, Int.mul_comm, Int.mul_left_comm]
  omega
theorem zx_id4 (x y : Nat → Int) (l r : Int) : (zs_sum (fun c => x c * x c) 4 * r + zs_sum (fun c => y c * y c) 4 * l) * (l + r) - zs_sum (fun c => (x c + y c) * (x c + y c)) 4 * (l * r) = zs_sum (fun c => (x c * r - y c * l) * (x c * r - y c * l)) 4 := by
  rw [zs_sum4, zs_sum4, zs_sum4, zs_sum4, zx_id, zx_id, zx_id, zx_id]
  generalize x 0 * x 0 = a0
  generalize x 1 * x 1 = a1
  generalize x 2 * x 2 = a2
  generalize x 3 * x 3 = a3
  generalize y 0 * y 0 = b0
  generalize y 1 * y 1 = b1
  generalize y 2 * y 2 = b2
  generalize y 3 * y 3 = b3
  generalize (x 0 + y 0) * (x 0 + y 0) = c0
  generalize (x 1 + y 1) * (x 1 + y 1) = c1
  generalize (x 2 + y 2) * (x 2 + y 2) = c2
  generalize (x 3 + y 3) * (x 3 + y 3) = c3
  generalize l * r = m
  simp only [Int.add_mul, Int.mul_add]
  omega
section ZT8
variable {Γ : zg_C} {V : zg_V} {k sh : Nat}
theorem ct_mSq {x y : Nat → Int} {l r : Int} (h : zx_sd V x y l r) (hl : 1 ≤ l) (hr : 1 ≤ r) {t b : Nat} (ht : (t : Int) = zx_top 0 x y l r) (hb : (b : Int) = zx_bot 0 l r) : zg_S Γ zm_SplitSearch_measureSquares 2 0 0 [zg_r Γ 204] zk_K 242 (zk_P sh) V (zq_p zk_K 242 (zk_P sh) (zf_set V 209 ((t / Nat.gcd t b : Nat) : Int) ((b / Nat.gcd t b : Nat) : Int)) none) := by
  have htb : 0 ≤ zx_top 0 x y l r ∧ zx_top 0 x y l r ≤ 1048576 := zx_top_b (fun c hc => ⟨(h.1 c hc).2.2.1, (h.1 c hc).2.2.2⟩) h.2.2.2.1 h.2.2.2.2
  have hbb : 1 ≤ zx_bot 0 l r ∧ zx_bot 0 l r ≤ 8192 := zx_bot_b ⟨hl, h.2.2.2.1.2⟩ ⟨hr, h.2.2.2.2.2⟩
  have htop : zx_top 0 x y l r = (zs_sum (fun c => x c * x c) 4 * r + zs_sum (fun c => y c * y c) 4 * l) * (l + r) - zs_sum (fun c => (x c + y c) * (x c + y c)) 4 * (l * r) := by unfold zx_top; rw [if_pos rfl, zx_id4]
  have hbot : zx_bot 0 l r = l * r * (l + r) := by unfold zx_bot; rw [if_neg (by decide), Int.mul_comm]
  obtain ⟨hc, hl0, hr0, hlb, hrb⟩ := h
  have hlr := zx_mul_b hlb hrb
  generalize hQ : zq_p zk_K 242 (zk_P sh) (zf_set V 209 ((t / Nat.gcd t b : Nat) : Int) ((b / Nat.gcd t b : Nat) : Int)) none = Q
  refine zg_enter 12 (by decide) (Nat.le_of_ble_eq_true rfl) rfl ?_
  refine zg_lconst (z := 0) zd_SplitSearch_measureSquares_0 rfl ?_
  refine zg_ls1 zd_SplitSearch_measureSquares_1 (fun w h => by cases h <;> rfl) (by decide) ?_
  refine zg_lconst (z := 0) zd_SplitSearch_measureSquares_2 rfl ?_
  refine zg_ls3 zd_SplitSearch_measureSquares_3 (fun w h => by cases h <;> rfl) (by decide) ?_
  refine zg_lconst (z := 0) zd_SplitSearch_measureSquares_4 rfl ?_
  refine zg_ls5 zd_SplitSearch_measureSquares_5 (fun w h => by cases h <;> rfl) (by decide) ?_
  refine zg_iconst zd_SplitSearch_measureSquares_7 ?_
  refine zg_is7 zd_SplitSearch_measureSquares_8 (fun w h => by cases h <;> rfl) (by decide) ?_
  have key : ∀ (j c : Nat) (o8 : Option Value) (ho8 : ∀ w, o8 = some w → w.category = 1) (hij : c + j = 4), zg_G Γ (fun _ => True) zm_SplitSearch_measureSquares (zg_rm 2 0 0) (zg_Ω Γ (Q) 0 0) 0 0 10 [some (zg_r Γ (204)), some (zg_l (zs_sum (fun c => x c * x c) c)), none, some (zg_l (zs_sum (fun c => y c * y c) c)), none, some (zg_l (zs_sum (fun c => (x c + y c) * (x c + y c)) c)), none, some (zg_i ((c : Nat))), o8, none, none, none, none] [] zk_K 242 (zk_P sh) (V) := by
    intro j
    induction j with
    | zero =>
      intro c o8 ho8 hij
      have e : c = 4 := by omega
      subst e
      refine zg_il7 zd_SplitSearch_measureSquares_10 ?_
      refine zg_iconst zd_SplitSearch_measureSquares_12 ?_
      refine zg_icmp_ge (tgt := 88) zd_SplitSearch_measureSquares_13 (by decide) (by omega) (by omega) (fun b13 => ?_) (fun b13 => ?_)
      · refine zg_al0 zd_SplitSearch_measureSquares_88 ?_
        refine zg_geti zd_SplitSearch_measureSquares_89 zf_202 (by omega) (by first | assumption | rfl) rfl ?_
        refine zg_al0 zd_SplitSearch_measureSquares_92 ?_
        refine zg_geti zd_SplitSearch_measureSquares_93 zf_203 (by omega) (by first | assumption | rfl) rfl ?_
        rw [hl0, hr0]
        refine zg_iadd zd_SplitSearch_measureSquares_96 ?_
        refine zg_i2l zd_SplitSearch_measureSquares_97 (by omega) ?_
        refine zg_ls7 zd_SplitSearch_measureSquares_98 (fun w h => by cases h <;> rfl) (by decide) ?_
        refine zg_al0 zd_SplitSearch_measureSquares_100 ?_
        refine zg_geti zd_SplitSearch_measureSquares_101 zf_202 (by omega) (by first | assumption | rfl) rfl ?_
        refine zg_al0 zd_SplitSearch_measureSquares_104 ?_
        refine zg_geti zd_SplitSearch_measureSquares_105 zf_203 (by omega) (by first | assumption | rfl) rfl ?_
        rw [hl0, hr0]
        refine zg_imul zd_SplitSearch_measureSquares_108 ?_
        refine zg_i2l zd_SplitSearch_measureSquares_109 (by omega) ?_
        refine zg_ls9 zd_SplitSearch_measureSquares_110 (fun w h => by cases h <;> rfl) (by decide) ?_
        refine zg_ll1 zd_SplitSearch_measureSquares_112 ?_
        refine zg_al0 zd_SplitSearch_measureSquares_113 ?_
        refine zg_geti zd_SplitSearch_measureSquares_114 zf_203 (by omega) (by first | assumption | rfl) rfl ?_
        rw [hr0]
        refine zg_i2l zd_SplitSearch_measureSquares_117 (by omega) ?_
        refine zg_lmul zd_SplitSearch_measureSquares_118 ?_
        refine zg_ll3 zd_SplitSearch_measureSquares_119 ?_
        refine zg_al0 zd_SplitSearch_measureSquares_120 ?_
        refine zg_geti zd_SplitSearch_measureSquares_121 zf_202 (by omega) (by first | assumption | rfl) rfl ?_
        rw [hl0]
        refine zg_i2l zd_SplitSearch_measureSquares_124 (by omega) ?_
        refine zg_lmul zd_SplitSearch_measureSquares_125 ?_
        refine zg_ladd zd_SplitSearch_measureSquares_126 ?_
        refine zg_ll7 zd_SplitSearch_measureSquares_127 ?_
        refine zg_lmul zd_SplitSearch_measureSquares_129 ?_
        refine zg_ll5 zd_SplitSearch_measureSquares_130 ?_
        refine zg_ll9 zd_SplitSearch_measureSquares_132 ?_
        refine zg_lmul zd_SplitSearch_measureSquares_134 ?_
        refine zg_lsub zd_SplitSearch_measureSquares_135 ?_
        refine zg_ls11 zd_SplitSearch_measureSquares_136 (fun w h => by cases h <;> rfl) (by decide) ?_
        refine zg_al0 zd_SplitSearch_measureSquares_138 ?_
        refine zg_getr zd_SplitSearch_measureSquares_139 zf_204 (by omega) (by first | assumption | rfl) rfl (by first | assumption | rfl) ?_
        refine zg_ll11 zd_SplitSearch_measureSquares_142 ?_
        refine zg_ll9 zd_SplitSearch_measureSquares_144 ?_
        refine zg_ll7 zd_SplitSearch_measureSquares_146 ?_
        refine zg_lmul zd_SplitSearch_measureSquares_148 ?_
        rw [← htop, ← hbot, ← ht, ← hb]
        refine zg_cVq2 zd_SplitSearch_measureSquares_149 zM_Fraction_set zw_405 zi_Fraction_set zs_Fraction_set (ct_fset (by decide) rfl (by omega) (by omega)) (by decide) (by decide) (by omega) (by first | assumption | rfl) (by decide) rfl (Nat.le_of_ble_eq_true rfl) ?_
        refine zg_return zd_SplitSearch_measureSquares_152 rfl ?_
        subst hQ; exact ⟨rfl, rfl, rfl, rfl, rfl⟩
      · omega
    | succ j ih =>
      intro c o8 ho8 hij
      obtain ⟨hx, hy, hx2, hy2⟩ := hc c (by omega)
      have ih := ih (c + 1) (some (zg_i (x c + y c))) (fun w hw => by cases hw; rfl) (by omega)
      have q1 := zx_mul_b hx2 hx2
      have q2 := zx_mul_b hy2 hy2
      have q3 := zx_mul_b (a := x c + y c) (b := x c + y c) (A := 32) (B := 32) (by omega) (by omega)
      refine zg_il7 zd_SplitSearch_measureSquares_10 ?_
      refine zg_iconst zd_SplitSearch_measureSquares_12 ?_
      refine zg_icmp_ge (tgt := 88) zd_SplitSearch_measureSquares_13 (by decide) (by omega) (by omega) (fun b13 => ?_) (fun b13 => ?_)
      · omega
      · refine zg_al0 zd_SplitSearch_measureSquares_16 ?_
        refine zg_getr zd_SplitSearch_measureSquares_17 zf_200 (by omega) (by first | assumption | rfl) rfl (by first | assumption | rfl) ?_
        refine zg_il7 zd_SplitSearch_measureSquares_20 ?_
        refine zg_iald zd_SplitSearch_measureSquares_22 (by omega) (by first | assumption | rfl) rfl (by omega) (by decide) ?_
        refine zg_al0 zd_SplitSearch_measureSquares_23 ?_
        refine zg_getr zd_SplitSearch_measureSquares_24 zf_201 (by omega) (by first | assumption | rfl) rfl (by first | assumption | rfl) ?_
        refine zg_il7 zd_SplitSearch_measureSquares_27 ?_
        refine zg_iald zd_SplitSearch_measureSquares_29 (by omega) (by first | assumption | rfl) rfl (by omega) (by decide) ?_
        rw [hx, hy]
        refine zg_iadd zd_SplitSearch_measureSquares_30 ?_
        refine zg_is8 zd_SplitSearch_measureSquares_31 (fun w h => by cases h <;> rfl) (by decide) ?_
        refine zg_ll1 zd_SplitSearch_measureSquares_33 ?_
        refine zg_al0 zd_SplitSearch_measureSquares_34 ?_
        refine zg_getr zd_SplitSearch_measureSquares_35 zf_200 (by omega) (by first | assumption | rfl) rfl (by first | assumption | rfl) ?_
        refine zg_il7 zd_SplitSearch_measureSquares_38 ?_
        refine zg_iald zd_SplitSearch_measureSquares_40 (by omega) (by first | assumption | rfl) rfl (by omega) (by decide) ?_
        refine zg_al0 zd_SplitSearch_measureSquares_41 ?_
        refine zg_getr zd_SplitSearch_measureSquares_42 zf_200 (by omega) (by first | assumption | rfl) rfl (by first | assumption | rfl) ?_
        refine zg_il7 zd_SplitSearch_measureSquares_45 ?_
        refine zg_iald zd_SplitSearch_measureSquares_47 (by omega) (by first | assumption | rfl) rfl (by omega) (by decide) ?_
        rw [hx]
        refine zg_imul zd_SplitSearch_measureSquares_48 ?_
        refine zg_i2l zd_SplitSearch_measureSquares_49 (by omega) ?_
        refine zg_ladd zd_SplitSearch_measureSquares_50 ?_
        refine zg_ls1 zd_SplitSearch_measureSquares_51 (fun w h => by cases h <;> rfl) (by decide) ?_
        refine zg_ll3 zd_SplitSearch_measureSquares_52 ?_
        refine zg_al0 zd_SplitSearch_measureSquares_53 ?_
        refine zg_getr zd_SplitSearch_measureSquares_54 zf_201 (by omega) (by first | assumption | rfl) rfl (by first | assumption | rfl) ?_
        refine zg_il7 zd_SplitSearch_measureSquares_57 ?_
        refine zg_iald zd_SplitSearch_measureSquares_59 (by omega) (by first | assumption | rfl) rfl (by omega) (by decide) ?_
        refine zg_al0 zd_SplitSearch_measureSquares_60 ?_
        refine zg_getr zd_SplitSearch_measureSquares_61 zf_201 (by omega) (by first | assumption | rfl) rfl (by first | assumption | rfl) ?_
        refine zg_il7 zd_SplitSearch_measureSquares_64 ?_
        refine zg_iald zd_SplitSearch_measureSquares_66 (by omega) (by first | assumption | rfl) rfl (by omega) (by decide) ?_
        rw [hy]
        refine zg_imul zd_SplitSearch_measureSquares_67 ?_
        refine zg_i2l zd_SplitSearch_measureSquares_68 (by omega) ?_
        refine zg_ladd zd_SplitSearch_measureSquares_69 ?_
        refine zg_ls3 zd_SplitSearch_measureSquares_70 (fun w h => by cases h <;> rfl) (by decide) ?_
        refine zg_ll5 zd_SplitSearch_measureSquares_71 ?_
        refine zg_il8 zd_SplitSearch_measureSquares_73 ?_
        refine zg_il8 zd_SplitSearch_measureSquares_75 ?_
        refine zg_imul zd_SplitSearch_measureSquares_77 ?_
        refine zg_i2l zd_SplitSearch_measureSquares_78 (by omega) ?_
        refine zg_ladd zd_SplitSearch_measureSquares_79 ?_
        refine zg_ls5 zd_SplitSearch_measureSquares_80 (fun w h => by cases h <;> rfl) (by decide) ?_
        refine zg_inc7 zd_SplitSearch_measureSquares_82 (fun w h => by cases h <;> rfl) (by decide) ?_
        refine zg_goto (tgt := 10) zd_SplitSearch_measureSquares_85 (by decide) ?_
        exact ih
  exact key 4 0 none (fun w hw => by cases hw) (by omega)
theorem ct_measure {x y : Nat → Int} {l r cr : Int} (h : zx_sd V x y l r) (hl : 1 ≤ l) (hr : 1 ≤ r) (hcr : 0 ≤ cr ∧ cr ≤ 2) {t b : Nat} (ht : (t : Int) = zx_top cr x y l r) (hb : (b : Int) = zx_bot cr l r) : zg_S Γ zm_SplitSearch_measure 3 0 0 [zg_r Γ 204, zg_i cr] zk_K 242 (zk_P sh) V (zq_p zk_K 242 (zk_P sh) (zf_set V 209 ((t / Nat.gcd t b : Nat) : Int) ((b / Nat.gcd t b : Nat) : Int)) none) := by
  rcases (show cr = 0 ∨ cr = 1 ∨ cr = 2 by omega) with rfl | rfl | rfl
  · skip
    refine zg_enter 0 (by decide) (Nat.le_of_ble_eq_true rfl) rfl ?_
    refine zg_il1 zd_SplitSearch_measure_0 ?_
    refine zg_if_ne (tgt := 11) zd_SplitSearch_measure_1 (by decide) (by omega) (fun b1 => ?_) (fun b1 => ?_)
    · omega
    · refine zg_al0 zd_SplitSearch_measure_4 ?_
      refine zg_cVq0 zd_SplitSearch_measure_5 zM_SplitSearch_measureSquares zw_455 zi_SplitSearch_measureSquares zs_SplitSearch_measureSquares (ct_mSq h hl hr ht hb) (by decide) (by decide) (by omega) (by first | assumption | rfl) (by decide) rfl (Nat.le_of_ble_eq_true rfl) ?_
      refine zg_goto (tgt := 27) zd_SplitSearch_measure_8 (by decide) ?_
      refine zg_return zd_SplitSearch_measure_27 rfl ?_
      exact ⟨rfl, rfl, rfl, rfl, rfl⟩
  · have hb1 : b = 1 := by have : zx_bot 1 l r = 1 := by unfold zx_bot; rw [if_pos rfl]
                           omega
    subst hb1
    refine zg_enter 0 (by decide) (Nat.le_of_ble_eq_true rfl) rfl ?_
    refine zg_il1 zd_SplitSearch_measure_0 ?_
    refine zg_if_ne (tgt := 11) zd_SplitSearch_measure_1 (by decide) (by omega) (fun b1 => ?_) (fun b1 => ?_)
    · refine zg_il1 zd_SplitSearch_measure_11 ?_
      refine zg_iconst zd_SplitSearch_measure_12 ?_
      refine zg_icmp_ne (tgt := 23) zd_SplitSearch_measure_13 (by decide) (by omega) (by omega) (fun b13 => ?_) (fun b13 => ?_)
      · omega
      · refine zg_al0 zd_SplitSearch_measure_16 ?_
        refine zg_cVq0 zd_SplitSearch_measure_17 zM_SplitSearch_measureMajorities zw_459 zi_SplitSearch_measureMajorities zs_SplitSearch_measureMajorities (ct_mMaj h ht) (by decide) (by decide) (by omega) (by first | assumption | rfl) (by decide) rfl (Nat.le_of_ble_eq_true rfl) ?_
        refine zg_goto (tgt := 27) zd_SplitSearch_measure_20 (by decide) ?_
        refine zg_return zd_SplitSearch_measure_27 rfl ?_
        exact ⟨rfl, rfl, rfl, rfl, rfl⟩
    · omega
  · skip
    refine zg_enter 0 (by decide) (Nat.le_of_ble_eq_true rfl) rfl ?_
    refine zg_il1 zd_SplitSearch_measure_0 ?_
    refine zg_if_ne (tgt := 11) zd_SplitSearch_measure_1 (by decide) (by omega) (fun b1 => ?_) (fun b1 => ?_)
    · refine zg_il1 zd_SplitSearch_measure_11 ?_
      refine zg_iconst zd_SplitSearch_measure_12 ?_
      refine zg_icmp_ne (tgt := 23) zd_SplitSearch_measure_13 (by decide) (by omega) (by omega) (fun b13 => ?_) (fun b13 => ?_)
      · refine zg_al0 zd_SplitSearch_measure_23 ?_
        refine zg_cVq0 zd_SplitSearch_measure_24 zM_SplitSearch_measureDistance zw_464 zi_SplitSearch_measureDistance zs_SplitSearch_measureDistance (ct_mDist h hl hr ht hb) (by decide) (by decide) (by omega) (by first | assumption | rfl) (by decide) rfl (Nat.le_of_ble_eq_true rfl) ?_
        refine zg_return zd_SplitSearch_measure_27 rfl ?_
        exact ⟨rfl, rfl, rfl, rfl, rfl⟩
      · omega
    · omega
/-- the node at b takes what was measured -/
def zx_of (V : zg_V) (b f : Nat) (lim : Int) : zg_V := zg_u (zg_u (zg_u (zf_set V (b + 1) (V 209 0) (V 209 1)) b 3 (f : Int)) b 4 lim) b 6 (zg_b (decide (V 204 4 ≤ V 204 3)))
theorem ct_offer (hk : k < 32) {f : Nat} {lim : Int} (hlim : -2147483648 ≤ lim ∧ lim < 2147483648) (h1 : 0 ≤ V 209 0 ∧ V 209 0 ≤ 1048576) (h2 : 0 ≤ V 209 1 ∧ V 209 1 ≤ 1048576) (h3 : 0 ≤ V (41 + 5 * k) 0 ∧ V (41 + 5 * k) 0 ≤ 1048576) (h4 : 0 ≤ V (41 + 5 * k) 1 ∧ V (41 + 5 * k) 1 ≤ 1048576) (h5 : 0 ≤ V 204 3 ∧ V 204 3 ≤ 16) (h6 : 0 ≤ V 204 4 ∧ V 204 4 ≤ 16) : zg_S Γ zm_SplitSearch_offer 1 0 0 [zg_r Γ 204, zg_r Γ (40 + 5 * k), zg_i f, zg_i lim] zk_K 242 (zk_P sh) V (zq_p zk_K 242 (zk_P sh) (if V (41 + 5 * k) 0 * V 209 1 < V 209 0 * V (41 + 5 * k) 1 then zx_of V (40 + 5 * k) f lim else V) none) := by
  obtain ⟨hkn, hkw, -⟩ := zk_node k hk
  obtain ⟨hp5, -⟩ := zp_node (sh := sh) hk
  have q1 := zx_mul_b h1 h4
  have q2 := zx_mul_b h3 h2
  have hj : ∀ j, zg_u (zg_u (zf_set V (41 + 5 * k) (V 209 0) (V 209 1)) (40 + 5 * k) 3 (f : Int)) (40 + 5 * k) 4 lim 204 j = V 204 j := fun j => by unfold zf_set; rw [zg_u_out _ _ _ _ (by omega), zg_u_out _ _ _ _ (by omega), zg_u_out _ _ _ _ (by omega), zg_u_out _ _ _ _ (by omega)]
  refine zg_enter 0 (by decide) (Nat.le_of_ble_eq_true rfl) rfl ?_
  refine zg_al0 zd_SplitSearch_offer_0 ?_
  refine zg_getr zd_SplitSearch_offer_1 zf_204 (by omega) (by first | assumption | rfl) rfl (by first | assumption | rfl) ?_
  refine zg_al1 zd_SplitSearch_offer_4 ?_
  refine zg_getr zd_SplitSearch_offer_5 zf_135 (by omega) (by first | assumption | rfl) rfl (by first | assumption | rfl) ?_
  refine zg_cVp1 zd_SplitSearch_offer_8 zM_Fraction_isMoreThan zw_475 zi_Fraction_isMoreThan zs_Fraction_isMoreThan (ct_fmore (by omega) (by omega) rfl hkw (by omega) (by omega)) (by decide) (by decide) (by omega) (by first | assumption | rfl) (by decide) rfl (Nat.le_of_ble_eq_true rfl) ?_
  refine zg_if_eqB (tgt := 55) zd_SplitSearch_offer_11 (by decide) (fun b11 => ?_) (fun b11 => ?_)
  · refine zg_return zd_SplitSearch_offer_55 rfl ?_
    first
    | (rw [if_neg (by simpa using b11)]; exact ⟨rfl, rfl, rfl, rfl, rfl⟩)
    | (rw [if_pos (by simpa using b11)]
       refine ⟨rfl, rfl, rfl, rfl, ?_⟩
       unfold zx_of
       rw [show 40 + 5 * k + 1 = 41 + 5 * k by omega, show zg_b (decide (V 204 4 ≤ V 204 3)) = 1 from zg_b_eq (Or.inl ⟨decide_eq_true (by omega), rfl⟩)])
    | (rw [if_pos (by simpa using b11)]
       refine ⟨rfl, rfl, rfl, rfl, ?_⟩
       unfold zx_of
       rw [show 40 + 5 * k + 1 = 41 + 5 * k by omega, show zg_b (decide (V 204 4 ≤ V 204 3)) = 0 from zg_b_eq (Or.inr ⟨decide_eq_false (by omega), rfl⟩)])
  · refine zg_al1 zd_SplitSearch_offer_14 ?_
    refine zg_getr zd_SplitSearch_offer_15 zf_135 (by omega) (by first | assumption | rfl) rfl (by first | assumption | rfl) ?_
    refine zg_al0 zd_SplitSearch_offer_18 ?_
    refine zg_getr zd_SplitSearch_offer_19 zf_204 (by omega) (by first | assumption | rfl) rfl (by first | assumption | rfl) ?_
    refine zg_cVq1 zd_SplitSearch_offer_22 zM_Fraction_copyFrom zw_479 zi_Fraction_copyFrom zs_Fraction_copyFrom (ct_fcopy (by omega) (by omega) hkw rfl) (by decide) (by decide) (by omega) (by first | assumption | rfl) (by decide) rfl (Nat.le_of_ble_eq_true rfl) ?_
    refine zg_al1 zd_SplitSearch_offer_25 ?_
    refine zg_il2 zd_SplitSearch_offer_26 ?_
    refine zg_puti zd_SplitSearch_offer_27 zf_127 rfl (by omega) (by first | assumption | rfl) rfl ?_
    refine zg_al1 zd_SplitSearch_offer_30 ?_
    refine zg_il3 zd_SplitSearch_offer_31 ?_
    refine zg_puti zd_SplitSearch_offer_32 zf_131 rfl (by omega) (by first | assumption | rfl) rfl ?_
    refine zg_al1 zd_SplitSearch_offer_35 ?_
    refine zg_al0 zd_SplitSearch_offer_36 ?_
    refine zg_geti zd_SplitSearch_offer_37 zf_202 (by omega) (by first | assumption | rfl) rfl ?_
    refine zg_al0 zd_SplitSearch_offer_40 ?_
    refine zg_geti zd_SplitSearch_offer_41 zf_203 (by omega) (by first | assumption | rfl) rfl ?_
    rw [hj 3, hj 4]
    refine zg_icmp_lt (tgt := 51) zd_SplitSearch_offer_44 (by decide) (by omega) (by omega) (fun b44 => ?_) (fun b44 => ?_)
    · refine zg_iconst zd_SplitSearch_offer_51 ?_
      refine zg_putz zd_SplitSearch_offer_52 zf_137 rfl (by omega) (by first | assumption | rfl) rfl (by omega) ?_
      refine zg_return zd_SplitSearch_offer_55 rfl ?_
      first
      | (rw [if_neg (by simpa using b11)]; exact ⟨rfl, rfl, rfl, rfl, rfl⟩)
      | (rw [if_pos (by simpa using b11)]
         refine ⟨rfl, rfl, rfl, rfl, ?_⟩
         unfold zx_of
         rw [show 40 + 5 * k + 1 = 41 + 5 * k by omega, show zg_b (decide (V 204 4 ≤ V 204 3)) = 1 from zg_b_eq (Or.inl ⟨decide_eq_true (by omega), rfl⟩)])
      | (rw [if_pos (by simpa using b11)]
         refine ⟨rfl, rfl, rfl, rfl, ?_⟩
         unfold zx_of
         rw [show 40 + 5 * k + 1 = 41 + 5 * k by omega, show zg_b (decide (V 204 4 ≤ V 204 3)) = 0 from zg_b_eq (Or.inr ⟨decide_eq_false (by omega), rfl⟩)])
    · refine zg_iconst zd_SplitSearch_offer_47 ?_
      refine zg_goto (tgt := 52) zd_SplitSearch_offer_48 (by decide) ?_
      refine zg_putz zd_SplitSearch_offer_52 zf_137 rfl (by omega) (by first | assumption | rfl) rfl (by omega) ?_
      refine zg_return zd_SplitSearch_offer_55 rfl ?_
      first
      | (rw [if_neg (by simpa using b11)]; exact ⟨rfl, rfl, rfl, rfl, rfl⟩)
      | (rw [if_pos (by simpa using b11)]
         refine ⟨rfl, rfl, rfl, rfl, ?_⟩
         unfold zx_of
         rw [show 40 + 5 * k + 1 = 41 + 5 * k by omega, show zg_b (decide (V 204 4 ≤ V 204 3)) = 1 from zg_b_eq (Or.inl ⟨decide_eq_true (by omega), rfl⟩)])
      | (rw [if_pos (by simpa using b11)]
         refine ⟨rfl, rfl, rfl, rfl, ?_⟩
         unfold zx_of
         rw [show 40 + 5 * k + 1 = 41 + 5 * k by omega, show zg_b (decide (V 204 4 ≤ V 204 3)) = 0 from zg_b_eq (Or.inr ⟨decide_eq_false (by omega), rfl⟩)])
end ZT8

