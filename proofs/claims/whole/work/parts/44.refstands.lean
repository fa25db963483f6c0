/-! the reference: the stand-ins of a node -/
def zr_si (V : zg_V) (i : Nat) (e : zw_E) : Prop := V 232 i = (e.1 : Int) ∧ e.1 < 3 ∧ V 233 i = e.2.1 ∧ (-2147483648 ≤ e.2.1 ∧ e.2.1 < 2147483648) ∧ V 234 i = zg_b e.2.2.1 ∧ V 235 i = e.2.2.2 ∧ (0 ≤ e.2.2.2 ∧ e.2.2.2 ≤ 16)
def zr_ls (V : zg_V) (L : List zw_E) : Prop := V 223 19 = (L.length : Int) ∧ L.length ≤ 2 ∧ ∀ (i : Nat) (e : zw_E), L[i]? = some e → zr_si V i e
def zr_shf (U : zg_V) : zg_V := zg_u (zg_u (zg_u (zg_u U 232 1 (U 232 0)) 233 1 (U 233 0)) 234 1 (U 234 0)) 235 1 (U 235 0)
def zr_wr (U : zg_V) (c : Nat) (g : Int) : zg_V := zg_u (zg_u (zg_u (zg_u (zg_u U 232 c g) 233 c (U 223 24)) 234 c (U 223 25)) 235 c (U 223 26)) 223 19 (U 223 19 + 1)
theorem zr_shf_1 (U : zg_V) : zr_shf U 232 1 = U 232 0 ∧ zr_shf U 233 1 = U 233 0 ∧ zr_shf U 234 1 = U 234 0 ∧ zr_shf U 235 1 = U 235 0 := by simp [zr_shf, zg_u]
theorem zr_shf_o (U : zg_V) {b : Nat} (h : ¬ (232 ≤ b ∧ b ≤ 235)) : zr_shf U b = U b := by
  unfold zr_shf
  rw [zg_u_out _ _ _ _ (by omega), zg_u_out _ _ _ _ (by omega), zg_u_out _ _ _ _ (by omega), zg_u_out _ _ _ _ (by omega)]
theorem zr_wr_in (U : zg_V) (c : Nat) (g : Int) : zr_wr U c g 232 c = g ∧ zr_wr U c g 233 c = U 223 24 ∧ zr_wr U c g 234 c = U 223 25 ∧ zr_wr U c g 235 c = U 223 26 ∧ zr_wr U c g 223 19 = U 223 19 + 1 := by simp [zr_wr, zg_u]
theorem zr_wr_off (U : zg_V) {c d : Nat} (g : Int) (h : d ≠ c) : zr_wr U c g 232 d = U 232 d ∧ zr_wr U c g 233 d = U 233 d ∧ zr_wr U c g 234 d = U 234 d ∧ zr_wr U c g 235 d = U 235 d := by simp [zr_wr, zg_u, h]
theorem zr_wr_f (U : zg_V) (c : Nat) (g : Int) {j : Nat} (h : j ≠ 19) : zr_wr U c g 223 j = U 223 j := by simp [zr_wr, zg_u, h]
theorem zr_wr_o (U : zg_V) (c : Nat) (g : Int) {b : Nat} (h : ¬ (b = 223 ∨ (232 ≤ b ∧ b ≤ 235))) : zr_wr U c g b = U b := by
  unfold zr_wr
  rw [zg_u_out _ _ _ _ (by omega), zg_u_out _ _ _ _ (by omega), zg_u_out _ _ _ _ (by omega), zg_u_out _ _ _ _ (by omega), zg_u_out _ _ _ _ (by omega)]
def zr_zi (V U : zg_V) : Prop := zv_on (fun b => b = 223 ∨ (232 ≤ b ∧ b ≤ 235)) V U ∧ (∀ j, j < 19 ∨ (19 < j ∧ j < 24) ∨ 26 < j → U 223 j = V 223 j) ∧ (-2147483648 ≤ U 223 24 ∧ U 223 24 < 2147483648) ∧ (0 ≤ U 223 25 ∧ U 223 25 ≤ 1)
theorem zr_zi_wr {V U U' : zg_V} {c : Nat} {g : Int} (h : zr_zi V U) (h1 : ∀ b, ¬ (232 ≤ b ∧ b ≤ 235) → U' b = U b) : zr_zi V (zr_wr U' c g) := by
  refine ⟨fun b hb => by rw [zr_wr_o _ _ _ hb, h1 b (by omega)]; exact h.1 b hb, fun j hj => by rw [zr_wr_f _ _ _ (by omega), h1 223 (by omega)]; exact h.2.1 j hj, ?_, ?_⟩
  · rw [zr_wr_f _ _ _ (by omega), h1 223 (by omega)]; exact h.2.2.1
  · rw [zr_wr_f _ _ _ (by omega), h1 223 (by omega)]; exact h.2.2.2
/-- the new entry stands at c -/
theorem zr_si_wr {U U' : zg_V} {c g : Nat} {e : zw_E} (h1 : ∀ b, ¬ (232 ≤ b ∧ b ≤ 235) → U' b = U b) (he : e.1 = g) (hg : g < 3) (h24 : U 223 24 = e.2.1) (hb : -2147483648 ≤ e.2.1 ∧ e.2.1 < 2147483648) (h25 : U 223 25 = zg_b e.2.2.1) (h26 : U 223 26 = e.2.2.2) (hb2 : 0 ≤ e.2.2.2 ∧ e.2.2.2 ≤ 16) : zr_si (zr_wr U' c g) c e := by
  obtain ⟨a1, a2, a3, a4, -⟩ := zr_wr_in U' c g
  refine ⟨by rw [a1, he], by omega, by rw [a2, h1 223 (by omega), h24], hb, by rw [a3, h1 223 (by omega), h25], by rw [a4, h1 223 (by omega), h26], hb2⟩
section ZT24
variable {Γ : zg_C} {V : zg_V} {sh : Nat}
theorem cr_standIns {k s n f0 : Nat} {l0 : Int} (hk : k < 32) (hs : s < 65536) (hs0 : V 229 k = (s : Int)) (hf0 : V 230 k = (f0 : Int)) (hf03 : f0 < 3) (hl0 : V 231 k = l0) (hl0b : -2147483648 ≤ l0 ∧ l0 < 2147483648) (h24 : -2147483648 ≤ V 223 24 ∧ V 223 24 < 2147483648) (h25 : 0 ≤ V 223 25 ∧ V 223 25 ≤ 1) (hT : zr_T V n) : zg_S Γ zm_Ref_standIns 3 0 0 [zg_r Γ 223, zg_i k] zk_K 242 (zk_P sh) V (zq_r zk_K 242 (zk_P sh) (fun rr V' => rr = none ∧ zr_zi V V' ∧ ∃ L, zr_ls V' L ∧ zy_Ls (zr_τ V n) s f0 l0 3 L)) := by
  have hn16 := hT.2.1
  generalize hQ : zq_r zk_K 242 (zk_P sh) (fun rr V' => rr = none ∧ zr_zi V V' ∧ ∃ L, zr_ls V' L ∧ zy_Ls (zr_τ V n) s f0 l0 3 L) = Q
  refine zg_enter 2 (by decide) (Nat.le_of_ble_eq_true rfl) rfl ?_
  refine zg_al0 zd_Ref_standIns_0 ?_
  refine zg_iconst zd_Ref_standIns_1 ?_
  refine zg_puti zd_Ref_standIns_2 zf_660 rfl (by omega) (by first | assumption | rfl) rfl ?_
  refine zg_iconst zd_Ref_standIns_5 ?_
  refine zg_is2 zd_Ref_standIns_6 (fun w h => by cases h <;> rfl) (by decide) ?_
  have key : ∀ (j g : Nat) (W : zg_V) (L : List zw_E) (o3 : Option Value) (hij : g + j = 3) (hW : zr_zi V W) (hL : zr_ls W L) (hLs : zy_Ls (zr_τ V n) s f0 l0 g L) (hlen : L.length + (if f0 < g then 1 else 0) ≤ g), zg_G Γ (fun _ => True) zm_Ref_standIns (zg_rm 3 0 0) (zg_Ω Γ (Q) 0 0) 0 0 7 [some (zg_r Γ (223)), some (zg_i (k)), some (zg_i ((g : Nat))), o3] [] zk_K 242 (zk_P sh) (W) := by
    intro j
    induction j with
    | zero =>
      intro g W L o3 hij hW hL hLs hlen
      have e : g = 3 := by omega
      subst e
      refine zg_il2 zd_Ref_standIns_7 ?_
      refine zg_iconst zd_Ref_standIns_8 ?_
      refine zg_icmp_ge (tgt := 166) zd_Ref_standIns_9 (by decide) (by omega) (by omega) (fun b9 => ?_) (fun b9 => ?_)
      · refine zg_return zd_Ref_standIns_166 rfl ?_
        subst hQ; exact ⟨rfl, rfl, rfl, rfl, hW, L, hL, hLs⟩
      · omega
    | succ j ih =>
      intro g W L o3 hij hW hL hLs hlen
      have hx : ∀ b, b ≠ 223 → b < 232 → W b = V b := fun b h1 h2 => hW.1 b (by omega)
      have hTW : zr_T W n := zr_T_fr (fun b h1 h2 => hx b h1 (by omega)) (hW.2.1 0 (by omega)) hT
      have hva : zr_va W = zr_va V := by unfold zr_va; rw [hx 224 (by decide) (by decide)]
      have hτ : zr_τ W n = zr_τ V n := by
        show (zr_va W, W 225, W 226, n) = (zr_va V, V 225, V 226, n)
        rw [hva, hx 225 (by decide) (by decide), hx 226 (by decide) (by decide)]
      have ws0 : W 229 k = (s : Int) := by rw [hx 229 (by decide) (by decide)]; exact hs0
      have wf0 : W 230 k = (f0 : Int) := by rw [hx 230 (by decide) (by decide)]; exact hf0
      have wl0 : W 231 k = l0 := by rw [hx 231 (by decide) (by decide)]; exact hl0
      have w24 := hW.2.2.1
      have w25 := hW.2.2.2
      -- behind the search, found
      have add : ∀ (U : zg_V) (e : zw_E), g ≠ f0 → zr_zi V U → zr_ls U L → zy_is (zr_τ V n) s f0 l0 g (some e) → U 223 24 = e.2.1 → (-2147483648 ≤ e.2.1 ∧ e.2.1 < 2147483648) → U 223 25 = zg_b e.2.2.1 → U 223 26 = e.2.2.2 → (0 ≤ e.2.2.2 ∧ e.2.2.2 ≤ 16) → zg_G Γ (fun _ => True) zm_Ref_standIns (zg_rm 3 0 0) (zg_Ω Γ (Q) 0 0) 0 0 31 [some (zg_r Γ (223)), some (zg_i (k)), some (zg_i ((g : Nat))), o3] [] zk_K 242 (zk_P sh) (U) := by
        intro U e hne hU hLU his q24 q24b q25 q26 q26b
        have hl1 : L.length ≤ 1 := by
          by_cases q : f0 < g
          · rw [if_pos q] at hlen; omega
          · rw [if_neg q] at hlen; omega
        have hc := hLU.1
        have fin : ∀ M : zg_V, zr_zi V M → zr_ls M (zy_in L e) → ∀ o3, zg_G Γ (fun _ => True) zm_Ref_standIns (zg_rm 3 0 0) (zg_Ω Γ (Q) 0 0) 0 0 7 [some (zg_r Γ (223)), some (zg_i (k)), some (zg_i (((g : Nat) : Int) + 1)), o3] [] zk_K 242 (zk_P sh) (M) := fun M h1 h2 o3 => by
          refine ih (g + 1) M (zy_in L e) o3 (by omega) h1 h2 (zy_Ls_s (x := some e) hLs (fun q => absurd q hne) (fun _ => his)) ?_
          rw [zy_in_len hl1]
          by_cases q : f0 < g
          · rw [if_pos q] at hlen; rw [if_pos (by omega)]; omega
          · rw [if_neg q] at hlen; rw [if_neg (by omega)]; omega
        have w113 : ∀ (M : zg_V) (c : Nat), c < 2 → zr_zi V (zr_wr M c g) → zr_ls (zr_wr M c g) (zy_in L e) → zg_G Γ (fun _ => True) zm_Ref_standIns (zg_rm 3 0 0) (zg_Ω Γ (Q) 0 0) 0 0 113 [some (zg_r Γ (223)), some (zg_i (k)), some (zg_i ((g : Nat))), some (zg_i ((c : Nat)))] [] zk_K 242 (zk_P sh) (M) := by
          intro M c hc2 m1 m2
          have fin := fin _ m1 m2 (some (zg_i (c : Nat)))
          refine zg_al0 zd_Ref_standIns_113 ?_
          refine zg_getr zd_Ref_standIns_114 zf_661 (by omega) (by first | assumption | rfl) rfl (by first | assumption | rfl) ?_
          refine zg_il3 zd_Ref_standIns_117 ?_
          refine zg_il2 zd_Ref_standIns_118 ?_
          refine zg_iast zd_Ref_standIns_119 (by omega) (by first | assumption | rfl) rfl (by omega) (by decide) ?_
          refine zg_al0 zd_Ref_standIns_120 ?_
          refine zg_getr zd_Ref_standIns_121 zf_662 (by omega) (by first | assumption | rfl) rfl (by first | assumption | rfl) ?_
          refine zg_il3 zd_Ref_standIns_124 ?_
          refine zg_al0 zd_Ref_standIns_125 ?_
          refine zg_geti zd_Ref_standIns_126 zf_665 (by omega) (by first | assumption | rfl) rfl ?_
          rw [zg_u_out _ _ _ _ (show (223 : Nat) ≠ 232 by decide)]
          refine zg_iast zd_Ref_standIns_129 (by omega) (by first | assumption | rfl) rfl (by omega) (by decide) ?_
          refine zg_al0 zd_Ref_standIns_130 ?_
          refine zg_getr zd_Ref_standIns_131 zf_663 (by omega) (by first | assumption | rfl) rfl (by first | assumption | rfl) ?_
          refine zg_il3 zd_Ref_standIns_134 ?_
          refine zg_al0 zd_Ref_standIns_135 ?_
          refine zg_geti zd_Ref_standIns_136 zf_666 (by omega) (by first | assumption | rfl) rfl ?_
          rw [zg_u_out _ _ _ _ (show (223 : Nat) ≠ 233 by decide), zg_u_out _ _ _ _ (show (223 : Nat) ≠ 232 by decide)]
          refine zg_iast zd_Ref_standIns_139 (by omega) (by first | assumption | rfl) rfl (by omega) (by decide) ?_
          refine zg_al0 zd_Ref_standIns_140 ?_
          refine zg_getr zd_Ref_standIns_141 zf_664 (by omega) (by first | assumption | rfl) rfl (by first | assumption | rfl) ?_
          refine zg_il3 zd_Ref_standIns_144 ?_
          refine zg_al0 zd_Ref_standIns_145 ?_
          refine zg_geti zd_Ref_standIns_146 zf_667 (by omega) (by first | assumption | rfl) rfl ?_
          rw [zg_u_out _ _ _ _ (show (223 : Nat) ≠ 234 by decide), zg_u_out _ _ _ _ (show (223 : Nat) ≠ 233 by decide), zg_u_out _ _ _ _ (show (223 : Nat) ≠ 232 by decide)]
          refine zg_iast zd_Ref_standIns_149 (by omega) (by first | assumption | rfl) rfl (by omega) (by decide) ?_
          refine zg_al0 zd_Ref_standIns_150 ?_
          refine zg_dup zd_Ref_standIns_151 rfl ?_
          refine zg_geti zd_Ref_standIns_152 zf_660 (by omega) (by first | assumption | rfl) rfl ?_
          rw [zg_u_out _ _ _ _ (show (223 : Nat) ≠ 235 by decide), zg_u_out _ _ _ _ (show (223 : Nat) ≠ 234 by decide), zg_u_out _ _ _ _ (show (223 : Nat) ≠ 233 by decide), zg_u_out _ _ _ _ (show (223 : Nat) ≠ 232 by decide)]
          refine zg_iconst zd_Ref_standIns_155 ?_
          refine zg_iadd zd_Ref_standIns_156 ?_
          refine zg_puti zd_Ref_standIns_157 zf_660 rfl (by omega) (by first | assumption | rfl) rfl ?_
          refine zg_inc2 zd_Ref_standIns_160 (fun w h => by cases h <;> rfl) (by decide) ?_
          refine zg_goto (tgt := 7) zd_Ref_standIns_163 (by decide) ?_
          exact fin
        have w61 : zr_zi V (zr_wr (zr_shf U) 0 g) → zr_ls (zr_wr (zr_shf U) 0 g) (zy_in L e) → zg_G Γ (fun _ => True) zm_Ref_standIns (zg_rm 3 0 0) (zg_Ω Γ (Q) 0 0) 0 0 61 [some (zg_r Γ (223)), some (zg_i (k)), some (zg_i ((g : Nat))), some (zg_i ((0 : Nat)))] [] zk_K 242 (zk_P sh) (U) := by
          intro m1 m2
          have w := w113 (zr_shf U) 0 (by decide) m1 m2
          refine zg_il3 zd_Ref_standIns_61 ?_
          refine zg_if_ne (tgt := 113) zd_Ref_standIns_62 (by decide) (by omega) (fun b62 => ?_) (fun b62 => ?_)
          · first
            | (exfalso; omega)
            | exact w
          · refine zg_al0 zd_Ref_standIns_65 ?_
            refine zg_getr zd_Ref_standIns_66 zf_661 (by omega) (by first | assumption | rfl) rfl (by first | assumption | rfl) ?_
            refine zg_iconst zd_Ref_standIns_69 ?_
            refine zg_al0 zd_Ref_standIns_70 ?_
            refine zg_getr zd_Ref_standIns_71 zf_661 (by omega) (by first | assumption | rfl) rfl (by first | assumption | rfl) ?_
            refine zg_iconst zd_Ref_standIns_74 ?_
            refine zg_iald (j := 0) zd_Ref_standIns_75 (by omega) rfl rfl (by decide) (by decide) ?_
            refine zg_iast (j := 1) zd_Ref_standIns_76 (by omega) rfl rfl (by decide) (by decide) ?_
            refine zg_al0 zd_Ref_standIns_77 ?_
            refine zg_getr zd_Ref_standIns_78 zf_662 (by omega) (by first | assumption | rfl) rfl (by first | assumption | rfl) ?_
            refine zg_iconst zd_Ref_standIns_81 ?_
            refine zg_al0 zd_Ref_standIns_82 ?_
            refine zg_getr zd_Ref_standIns_83 zf_662 (by omega) (by first | assumption | rfl) rfl (by first | assumption | rfl) ?_
            refine zg_iconst zd_Ref_standIns_86 ?_
            refine zg_iald (j := 0) zd_Ref_standIns_87 (by omega) rfl rfl (by decide) (by decide) ?_
            rw [zg_u_out _ _ _ _ (show (233 : Nat) ≠ 232 by decide)]
            refine zg_iast (j := 1) zd_Ref_standIns_88 (by omega) rfl rfl (by decide) (by decide) ?_
            refine zg_al0 zd_Ref_standIns_89 ?_
            refine zg_getr zd_Ref_standIns_90 zf_663 (by omega) (by first | assumption | rfl) rfl (by first | assumption | rfl) ?_
            refine zg_iconst zd_Ref_standIns_93 ?_
            refine zg_al0 zd_Ref_standIns_94 ?_
            refine zg_getr zd_Ref_standIns_95 zf_663 (by omega) (by first | assumption | rfl) rfl (by first | assumption | rfl) ?_
            refine zg_iconst zd_Ref_standIns_98 ?_
            refine zg_iald (j := 0) zd_Ref_standIns_99 (by omega) rfl rfl (by decide) (by decide) ?_
            rw [zg_u_out _ _ _ _ (show (234 : Nat) ≠ 233 by decide), zg_u_out _ _ _ _ (show (234 : Nat) ≠ 232 by decide)]
            refine zg_iast (j := 1) zd_Ref_standIns_100 (by omega) rfl rfl (by decide) (by decide) ?_
            refine zg_al0 zd_Ref_standIns_101 ?_
            refine zg_getr zd_Ref_standIns_102 zf_664 (by omega) (by first | assumption | rfl) rfl (by first | assumption | rfl) ?_
            refine zg_iconst zd_Ref_standIns_105 ?_
            refine zg_al0 zd_Ref_standIns_106 ?_
            refine zg_getr zd_Ref_standIns_107 zf_664 (by omega) (by first | assumption | rfl) rfl (by first | assumption | rfl) ?_
            refine zg_iconst zd_Ref_standIns_110 ?_
            refine zg_iald (j := 0) zd_Ref_standIns_111 (by omega) rfl rfl (by decide) (by decide) ?_
            rw [zg_u_out _ _ _ _ (show (235 : Nat) ≠ 234 by decide), zg_u_out _ _ _ _ (show (235 : Nat) ≠ 233 by decide), zg_u_out _ _ _ _ (show (235 : Nat) ≠ 232 by decide)]
            refine zg_iast (j := 1) zd_Ref_standIns_112 (by omega) rfl rfl (by decide) (by decide) ?_
            first
            | (exfalso; omega)
            | exact w
        have hso : ∀ b, ¬ (232 ≤ b ∧ b ≤ 235) → zr_shf U b = U b := fun b h => zr_shf_o U h
        have he1 : e.1 = g := his.1
        match L, hL, hLU, hl1, hc, w61, w113 with
        | [], hL, hLU, hl1, hc, w61, w113 =>
          have hc0 : U 223 19 = ((0 : Nat) : Int) := hc
          have w := w61 (zr_zi_wr hU hso) ⟨by
              rw [(zr_wr_in _ 0 _).2.2.2.2, hso 223 (by omega), hc0]
              rfl, by show 1 ≤ 2; decide, fun i x hx => by
            match i, hx with
            | 0, hx =>
              have : e = x := by simpa [zy_in] using hx
              subst this
              exact zr_si_wr hso he1 (by omega) q24 q24b q25 q26 q26b
            | i + 1, hx => simp [zy_in] at hx⟩
          refine zg_al0 zd_Ref_standIns_31 ?_
          refine zg_geti zd_Ref_standIns_32 zf_660 (by omega) (by first | assumption | rfl) rfl ?_
          refine zg_iconst zd_Ref_standIns_35 ?_
          rw [hc0]
          refine zg_icmp_ne (tgt := 56) zd_Ref_standIns_36 (by decide) (by omega) (by omega) (fun b36 => ?_) (fun b36 => ?_)
          · refine zg_al0 zd_Ref_standIns_56 ?_
            refine zg_geti zd_Ref_standIns_57 zf_660 (by omega) (by first | assumption | rfl) rfl ?_
            rw [hc0]
            refine zg_is3 zd_Ref_standIns_60 (fun w h => by cases h <;> rfl) (by decide) ?_
            exact w
          · omega
        | [x], hL, hLU, hl1, hc, w61, w113 =>
          have hc0 : U 223 19 = ((1 : Nat) : Int) := hc
          have hx := hLU.2.2 0 x rfl
          have x5 := hx.2.2.2.2.2.1
          have x6 := hx.2.2.2.2.2.2
          obtain ⟨y1, y2, y3, y4⟩ := zr_shf_1 U
          have wA : x.2.2.2 < e.2.2.2 → zg_G Γ (fun _ => True) zm_Ref_standIns (zg_rm 3 0 0) (zg_Ω Γ (Q) 0 0) 0 0 61 [some (zg_r Γ (223)), some (zg_i (k)), some (zg_i ((g : Nat))), some (zg_i ((0 : Nat)))] [] zk_K 242 (zk_P sh) (U) := fun hlt => by
            have hin : zy_in [x] e = [e, x] := by show (if x.2.2.2 < e.2.2.2 then _ else _) = _; rw [if_pos hlt]
            refine w61 (zr_zi_wr hU hso) ⟨by
              rw [(zr_wr_in _ 0 _).2.2.2.2, hso 223 (by omega), hc0, hin]
              rfl, by rw [hin]; show 2 ≤ 2; decide, fun i z hz => ?_⟩
            rw [hin] at hz
            match i, hz with
            | 0, hz =>
              have : e = z := by simpa using hz
              subst this
              exact zr_si_wr hso he1 (by omega) q24 q24b q25 q26 q26b
            | 1, hz =>
              have : x = z := by simpa using hz
              subst this
              obtain ⟨z1, z2, z3, z4⟩ := zr_wr_off (zr_shf U) (c := 0) (d := 1) g (by decide)
              unfold zr_si
              rw [z1, z2, z3, z4, y1, y2, y3, y4]
              exact hx
            | i + 2, hz => simp at hz
          have wB : ¬ x.2.2.2 < e.2.2.2 → zg_G Γ (fun _ => True) zm_Ref_standIns (zg_rm 3 0 0) (zg_Ω Γ (Q) 0 0) 0 0 113 [some (zg_r Γ (223)), some (zg_i (k)), some (zg_i ((g : Nat))), some (zg_i ((1 : Nat)))] [] zk_K 242 (zk_P sh) (U) := fun hlt => by
            have hin : zy_in [x] e = [x, e] := by show (if x.2.2.2 < e.2.2.2 then _ else _) = _; rw [if_neg hlt]
            refine w113 U 1 (by decide) (zr_zi_wr hU (fun b _ => rfl)) ⟨by
              rw [(zr_wr_in _ 1 _).2.2.2.2, hc0, hin]
              rfl, by rw [hin]; show 2 ≤ 2; decide, fun i z hz => ?_⟩
            rw [hin] at hz
            match i, hz with
            | 0, hz =>
              have : x = z := by simpa using hz
              subst this
              obtain ⟨z1, z2, z3, z4⟩ := zr_wr_off U (c := 1) (d := 0) g (by decide)
              unfold zr_si
              rw [z1, z2, z3, z4]
              exact hx
            | 1, hz =>
              have : e = z := by simpa using hz
              subst this
              exact zr_si_wr (fun b _ => rfl) he1 (by omega) q24 q24b q25 q26 q26b
            | i + 2, hz => simp at hz
          have wB61 : ¬ x.2.2.2 < e.2.2.2 → zg_G Γ (fun _ => True) zm_Ref_standIns (zg_rm 3 0 0) (zg_Ω Γ (Q) 0 0) 0 0 61 [some (zg_r Γ (223)), some (zg_i (k)), some (zg_i ((g : Nat))), some (zg_i ((1 : Nat)))] [] zk_K 242 (zk_P sh) (U) := fun hlt => by
            have wB := wB hlt
            refine zg_il3 zd_Ref_standIns_61 ?_
            refine zg_if_ne (tgt := 113) zd_Ref_standIns_62 (by decide) (by omega) (fun b62 => ?_) (fun b62 => ?_)
            · exact wB
            · omega
          refine zg_al0 zd_Ref_standIns_31 ?_
          refine zg_geti zd_Ref_standIns_32 zf_660 (by omega) (by first | assumption | rfl) rfl ?_
          refine zg_iconst zd_Ref_standIns_35 ?_
          rw [hc0]
          refine zg_icmp_ne (tgt := 56) zd_Ref_standIns_36 (by decide) (by omega) (by omega) (fun b36 => ?_) (fun b36 => ?_)
          · refine zg_al0 zd_Ref_standIns_56 ?_
            refine zg_geti zd_Ref_standIns_57 zf_660 (by omega) (by first | assumption | rfl) rfl ?_
            first
            | rw [hc0]
            | skip
            refine zg_is3 zd_Ref_standIns_60 (fun w h => by cases h <;> rfl) (by decide) ?_
            first
            | (exfalso; omega)
            | exact wA (by omega)
            | exact wB61 (by omega)
          · refine zg_al0 zd_Ref_standIns_39 ?_
            refine zg_geti zd_Ref_standIns_40 zf_667 (by omega) (by first | assumption | rfl) rfl ?_
            rw [q26]
            refine zg_al0 zd_Ref_standIns_43 ?_
            refine zg_getr zd_Ref_standIns_44 zf_664 (by omega) (by first | assumption | rfl) rfl (by first | assumption | rfl) ?_
            refine zg_iconst zd_Ref_standIns_47 ?_
            refine zg_iald (j := 0) zd_Ref_standIns_48 (by omega) rfl rfl (by decide) (by decide) ?_
            rw [x5]
            refine zg_icmp_le (tgt := 56) zd_Ref_standIns_49 (by decide) (by omega) (by omega) (fun b49 => ?_) (fun b49 => ?_)
            · refine zg_al0 zd_Ref_standIns_56 ?_
              refine zg_geti zd_Ref_standIns_57 zf_660 (by omega) (by first | assumption | rfl) rfl ?_
              first
              | rw [hc0]
              | skip
              refine zg_is3 zd_Ref_standIns_60 (fun w h => by cases h <;> rfl) (by decide) ?_
              first
              | (exfalso; omega)
              | exact wA (by omega)
              | exact wB61 (by omega)
            · refine zg_iconst zd_Ref_standIns_52 ?_
              refine zg_goto (tgt := 60) zd_Ref_standIns_53 (by decide) ?_
              first
              | rw [hc0]
              | skip
              refine zg_is3 zd_Ref_standIns_60 (fun w h => by cases h <;> rfl) (by decide) ?_
              first
              | (exfalso; omega)
              | exact wA (by omega)
              | exact wB61 (by omega)
      refine zg_il2 zd_Ref_standIns_7 ?_
      refine zg_iconst zd_Ref_standIns_8 ?_
      refine zg_icmp_ge (tgt := 166) zd_Ref_standIns_9 (by decide) (by omega) (by omega) (fun b9 => ?_) (fun b9 => ?_)
      · omega
      · refine zg_il2 zd_Ref_standIns_12 ?_
        refine zg_al0 zd_Ref_standIns_13 ?_
        refine zg_getr zd_Ref_standIns_14 zf_651 (by omega) (by first | assumption | rfl) rfl (by first | assumption | rfl) ?_
        refine zg_il1 zd_Ref_standIns_17 ?_
        refine zg_iald zd_Ref_standIns_18 (by omega) (by first | assumption | rfl) rfl (by omega) (by decide) ?_
        rw [wf0]
        refine zg_icmp_eq (tgt := 160) zd_Ref_standIns_19 (by decide) (by omega) (by omega) (fun b19 => ?_) (fun b19 => ?_)
        · refine zg_inc2 zd_Ref_standIns_160 (fun w h => by cases h <;> rfl) (by decide) ?_
          refine zg_goto (tgt := 7) zd_Ref_standIns_163 (by decide) ?_
          first
          | (refine ih (g + 1) V1 L o3 (by omega) hV1 hL1 (zy_Ls_s (x := none) hLs (fun _ => rfl) (fun _ t u ht => ?_)) ?_
             · have hlt : ¬ zy_fl (zr_τ V n) s f0 l0 g < V1 223 26 := of_decide_eq_false b28
               rcases q3 with ⟨p1, p2⟩ | ⟨t0, u0, p1, p2, p3, p4, p5⟩
               · exact absurd ht (p2 t u)
               · have := (p5 t u ht).1
                 omega
             · have hne : g ≠ f0 := fun e => b19 (by omega)
               by_cases q : f0 < g
               · rw [if_pos q] at hlen; rw [if_pos (by omega)]; omega
               · rw [if_neg q] at hlen; rw [if_neg (by omega)]; omega)
          | (have he : g = f0 := by omega
             refine ih (g + 1) W L o3 (by omega) hW hL (zy_Ls_s (x := none) hLs (fun _ => rfl) (fun q => absurd he q)) ?_
             subst he
             rw [if_neg (by omega)] at hlen
             rw [if_pos (by omega)]
             omega)
        · refine zg_al0 zd_Ref_standIns_22 ?_
          refine zg_il1 zd_Ref_standIns_23 ?_
          refine zg_il2 zd_Ref_standIns_24 ?_
          refine zg_cVr2 zd_Ref_standIns_25 zM_Ref_standIn zw_832 zi_Ref_standIn zs_Ref_standIn (cr_standIn hk hs ws0 wf0 hf03 wl0 hl0b (by omega) w24 w25 hTW) (by decide) (by decide) (by omega) (by first | assumption | rfl) (by decide) rfl (Nat.le_of_ble_eq_true rfl) ?_
          intro r V1 hq
          obtain ⟨rfl, q2, q3⟩ := hq
          rw [hτ] at q3
          have hV1 : zr_zi V V1 := ⟨fun b hb => by rw [q2.1 b (by omega)]; exact hW.1 b hb, fun j hj => by rw [q2.2.1 j (by omega)]; exact hW.2.1 j hj, q2.2.2.1, q2.2.2.2.1⟩
          have hL1 : zr_ls V1 L := ⟨by rw [q2.2.1 19 (by omega)]; exact hL.1, hL.2.1, fun i e he => by
            have := hL.2.2 i e he
            unfold zr_si at this ⊢
            rw [q2.1 232 (by decide), q2.1 233 (by decide), q2.1 234 (by decide), q2.1 235 (by decide)]
            exact this⟩
          rw [hτ]
          refine zg_if_eqB (tgt := 160) zd_Ref_standIns_28 (by decide) (fun b28 => ?_) (fun b28 => ?_)
          · refine zg_inc2 zd_Ref_standIns_160 (fun w h => by cases h <;> rfl) (by decide) ?_
            refine zg_goto (tgt := 7) zd_Ref_standIns_163 (by decide) ?_
            first
            | (refine ih (g + 1) V1 L o3 (by omega) hV1 hL1 (zy_Ls_s (x := none) hLs (fun _ => rfl) (fun _ t u ht => ?_)) ?_
               · have hlt : ¬ zy_fl (zr_τ V n) s f0 l0 g < V1 223 26 := of_decide_eq_false b28
                 rcases q3 with ⟨p1, p2⟩ | ⟨t0, u0, p1, p2, p3, p4, p5⟩
                 · exact absurd ht (p2 t u)
                 · have := (p5 t u ht).1
                   omega
               · have hne : g ≠ f0 := fun e => b19 (by omega)
                 by_cases q : f0 < g
                 · rw [if_pos q] at hlen; rw [if_pos (by omega)]; omega
                 · rw [if_neg q] at hlen; rw [if_neg (by omega)]; omega)
            | (have he : g = f0 := by omega
               refine ih (g + 1) W L o3 (by omega) hW hL (zy_Ls_s (x := none) hLs (fun _ => rfl) (fun q => absurd he q)) ?_
               subst he
               rw [if_neg (by omega)] at hlen
               rw [if_pos (by omega)]
               omega)
          · have hlt : zy_fl (zr_τ V n) s f0 l0 g < V1 223 26 := of_decide_eq_true b28
            have hfl : 0 ≤ zy_fl (zr_τ V n) s f0 l0 g := by
              have hal : 0 ≤ zy_al (zr_τ V n) s f0 g ∧ zy_al (zr_τ V n) s f0 g ≤ 16 := zr_w_16 hT _
              have hlw : 0 ≤ zy_lw (zr_τ V n) s f0 l0 g ∧ zy_lw (zr_τ V n) s f0 l0 g ≤ 16 := zr_w_16 hT _
              unfold zy_fl
              split <;> omega
            have h26 := q2.2.2.2.2
            rcases q3 with ⟨p1, -⟩ | ⟨t0, u0, p1, p2, p3, p4, p5⟩
            · omega
            · refine add V1 (g, t0, u0, zy_ag (zr_τ V n) s f0 l0 g t0 u0) (fun e => b19 (by omega)) hV1 hL1 ⟨rfl, p1, rfl, by rw [← p4]; exact hlt, p5⟩ p2 (by rw [← p2]; exact q2.2.2.1) p3 p4 ?_
              show 0 ≤ zy_ag (zr_τ V n) s f0 l0 g t0 u0 ∧ zy_ag (zr_τ V n) s f0 l0 g t0 u0 ≤ 16
              omega
  refine key 3 0 _ [] _ (by omega) ⟨fun b hb => zg_u_out _ _ _ _ (by omega), fun j hj => zg_u_off _ _ _ _ (by omega), ?_, ?_⟩ ⟨by rw [zg_u_in]; rfl, by show 0 ≤ 2; decide, fun i e he => by simp at he⟩ ⟨fun _ => none, fun g hg => by omega, rfl⟩ ?_
  · rw [zg_u_off _ _ _ _ (by decide)]; exact h24
  · rw [zg_u_off _ _ _ _ (by decide)]; exact h25
  · rw [if_neg (by omega)]
    show 0 + 0 ≤ 0
    omega
end ZT24

