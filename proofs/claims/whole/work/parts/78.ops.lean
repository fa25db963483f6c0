/-! each call of the law, on both sides -/
def zo_Q (Γ : zg_C) (φ : Option Value → Prop) (μ : zg_M) (d : Nat) (args : List Value) (m : Nat) : zg_Q := zq_s zk_K 242 (fun rr P' V1 => ∃ sh1, P' = zk_P sh1 ∧ φ rr ∧ zg_S Γ μ d 0 0 args zk_K 242 (zk_P sh1) V1 (zq_r zk_K 242 (zk_P sh1) (fun rr' V2 => rr' = rr ∧ zj_A V2 sh1 (m + 1))))
def zo_I : Option Value → Prop := fun rr => ∃ x : Int, rr = some (zg_i x)
def zo_L : Option Value → Prop := fun rr => ∃ x : Int, rr = some (zg_l x)
def zo_N : Option Value → Prop := fun rr => rr = none
section ZT50
variable {Γ : zg_C} {V : zg_V} {sh m : Nat}
theorem zo_weight (h : zj_A V sh m) {r : Int} (hr : -2147483648 ≤ r ∧ r < 2147483648) : zg_S Γ zm_Tree_weight 1 0 0 [zg_r Γ 0, zg_i r] zk_K 242 (zk_P sh) V (zo_Q Γ zo_I zm_Ref_weight 0 [zg_r Γ 223, zg_i r] m) := by
  obtain ⟨n, T, cr, lim, lf, hJ⟩ := h
  refine (ct_weight hr hJ.1.1).mono ?_
  rintro rr K' N' P' V' ⟨rfl, rfl, rfl, rfl, rfl⟩
  refine ⟨rfl, rfl, sh, rfl, ⟨_, rfl⟩, (cr_weight hJ.2.1.1.1 hJ.2.1.1.2.1 hr).mono ?_⟩
  rintro rr' K' N' P' V' ⟨rfl, rfl, rfl, rfl, rfl⟩
  exact ⟨rfl, rfl, rfl, by rw [hJ.2.2.2.1.2.1], zj_A_id hJ⟩
theorem zo_votes (h : zj_A V sh m) {r c : Int} (hr : -2147483648 ≤ r ∧ r < 2147483648) (hc : -2147483648 ≤ c ∧ c < 2147483648) : zg_S Γ zm_Tree_votes 1 0 0 [zg_r Γ 0, zg_i r, zg_i c] zk_K 242 (zk_P sh) V (zo_Q Γ zo_I zm_Ref_votes 0 [zg_r Γ 223, zg_i r, zg_i c] m) := by
  obtain ⟨n, T, cr, lim, lf, hJ⟩ := h
  refine (ct_votes hr hc hJ.1.1).mono ?_
  rintro rr K' N' P' V' ⟨rfl, rfl, rfl, rfl, rfl⟩
  refine ⟨rfl, rfl, sh, rfl, ⟨_, rfl⟩, (cr_votes hJ.2.1.1.1 hJ.2.1.1.2.1 hr hc).mono ?_⟩
  rintro rr' K' N' P' V' ⟨rfl, rfl, rfl, rfl, rfl⟩
  refine ⟨rfl, rfl, rfl, ?_, zj_A_id hJ⟩
  have hn := hJ.1.1.2.1
  by_cases q : (0 ≤ r ∧ r < (n : Int)) ∧ 0 ≤ c ∧ c ≤ 3
  · rw [if_pos q, if_pos q, (hJ.2.2.2.2.2.2.2 r.toNat c.toNat (by omega) (by omega)).1]
  · rw [if_neg q, if_neg q]
theorem zo_wrong (h : zj_A V sh m) (hm : m ≤ 100000) : zg_S Γ zm_Tree_wrong 1 0 0 [zg_r Γ 0] zk_K 242 (zk_P sh) V (zo_Q Γ zo_I zm_Ref_wrong 0 [zg_r Γ 223] m) := by
  obtain ⟨n, T, cr, lim, lf, hJ⟩ := h
  have hO := hJ.2.2.2.2.2.2.2
  refine (ct_wrong hJ.1.1 (fun r c hr hc => by have := hO r c hr hc; omega)).mono ?_
  rintro rr K' N' P' V' ⟨rfl, rfl, rfl, rfl, rfl⟩
  refine ⟨rfl, rfl, sh, rfl, ⟨_, rfl⟩, (cr_wrong hJ.2.1.1.1 hJ.2.1.1.2.1 (fun j hj => ?_) hJ.2.1.1.2.2.2.1).mono ?_⟩
  · have := hO (j / 4) (j % 4) (by omega) (by omega)
    rw [show 4 * (j / 4) + j % 4 = j by omega] at this
    omega
  rintro rr' K' N' P' V' ⟨rfl, rfl, rfl, rfl, rfl⟩
  exact ⟨rfl, rfl, rfl, by rw [zj_wrong hJ], zj_A_id hJ⟩
theorem zo_kind (h : zj_A V sh m) {k : Int} (hk : -2147483648 ≤ k ∧ k < 2147483648) : zg_S Γ zm_Tree_kind 1 0 0 [zg_r Γ 0, zg_i k] zk_K 242 (zk_P sh) V (zo_Q Γ zo_I zm_Ref_kind 5 [zg_r Γ 223, zg_i k] m) := by
  obtain ⟨n, T, cr, lim, lf, hJ⟩ := h
  obtain ⟨a1, a2⟩ := zj_shk hJ
  obtain ⟨b1, b2, b3⟩ := zj_In hJ
  refine (ct_kind a1 hk).mono ?_
  rintro rr K' N' P' V' ⟨rfl, rfl, rfl, rfl, rfl⟩
  refine ⟨rfl, rfl, sh, rfl, ⟨_, rfl⟩, (cr_kind hk b1).mono ?_⟩
  rintro rr' K' N' P' V' ⟨rfl, rfl, rfl, rfl, hq⟩
  exact ⟨rfl, rfl, rfl, by rw [zj_kv hJ], zj_A_qq (zr_qq_k b3 hq) hJ⟩
theorem zo_rowsOf (h : zj_A V sh m) {k : Int} (hk : -2147483648 ≤ k ∧ k < 2147483648) : zg_S Γ zm_Tree_rowsOf 1 0 0 [zg_r Γ 0, zg_i k] zk_K 242 (zk_P sh) V (zo_Q Γ zo_I zm_Ref_rowsOf 6 [zg_r Γ 223, zg_i k] m) := by
  obtain ⟨n, T, cr, lim, lf, hJ⟩ := h
  obtain ⟨a1, a2⟩ := zj_shk hJ
  obtain ⟨b1, b2, b3⟩ := zj_In hJ
  refine (ct_rowsOf a1 a2 hk).mono ?_
  rintro rr K' N' P' W ⟨rfl, rfl, rfl, rfl, rfl⟩
  refine ⟨rfl, rfl, sh, rfl, ⟨_, rfl⟩, (cr_rowsOf hk b1 b3).mono ?_⟩
  rintro rr' K' N' P' V' ⟨rfl, rfl, rfl, rfl, hq⟩
  refine ⟨rfl, rfl, rfl, ?_, zj_A_qq hq hJ⟩
  have hb := (zr_kv_b b1 k).1
  rw [zj_kv hJ]
  by_cases q : zr_kv W n T.2.1 k = -1
  · rw [if_pos q, if_neg (by omega)]
  · obtain ⟨p1, p2, -⟩ := zj_kv_p hJ q
    rw [if_neg q, if_pos (by omega), (zj_node hJ (k := k.toNat) (by omega) (by omega) p2).1]
theorem zo_classOf (h : zj_A V sh m) {k : Int} (hk : -2147483648 ≤ k ∧ k < 2147483648) : zg_S Γ zm_Tree_classOf 1 0 0 [zg_r Γ 0, zg_i k] zk_K 242 (zk_P sh) V (zo_Q Γ zo_I zm_Ref_classOf 6 [zg_r Γ 223, zg_i k] m) := by
  obtain ⟨n, T, cr, lim, lf, hJ⟩ := h
  obtain ⟨a1, a2⟩ := zj_shk hJ
  obtain ⟨b1, b2, b3⟩ := zj_In hJ
  refine (ct_classOf a1 a2 hk).mono ?_
  rintro rr K' N' P' W ⟨rfl, rfl, rfl, rfl, rfl⟩
  refine ⟨rfl, rfl, sh, rfl, ⟨_, rfl⟩, (cr_classOf hk b1 b3).mono ?_⟩
  rintro rr' K' N' P' V' ⟨rfl, rfl, rfl, rfl, hq⟩
  refine ⟨rfl, rfl, rfl, ?_, zj_A_qq hq hJ⟩
  have hb := (zr_kv_b b1 k).1
  rw [zj_kv hJ]
  by_cases q : zr_kv W n T.2.1 k = -1
  · rw [if_pos q, if_neg (by omega)]
  · obtain ⟨p1, p2, -⟩ := zj_kv_p hJ q
    rw [if_neg q, if_pos (by omega), (zj_node hJ (k := k.toNat) (by omega) (by omega) p2).2.1]
theorem zo_error (h : zj_A V sh m) {k : Int} (hk : -2147483648 ≤ k ∧ k < 2147483648) : zg_S Γ zm_Tree_error 1 0 0 [zg_r Γ 0, zg_i k] zk_K 242 (zk_P sh) V (zo_Q Γ zo_I zm_Ref_error 6 [zg_r Γ 223, zg_i k] m) := by
  obtain ⟨n, T, cr, lim, lf, hJ⟩ := h
  obtain ⟨a1, a2⟩ := zj_shk hJ
  obtain ⟨b1, b2, b3⟩ := zj_In hJ
  refine (ct_error a1 a2 hk).mono ?_
  rintro rr K' N' P' W ⟨rfl, rfl, rfl, rfl, rfl⟩
  refine ⟨rfl, rfl, sh, rfl, ⟨_, rfl⟩, (cr_error hk b1 b3).mono ?_⟩
  rintro rr' K' N' P' V' ⟨rfl, rfl, rfl, rfl, hq⟩
  refine ⟨rfl, rfl, rfl, ?_, zj_A_qq hq hJ⟩
  have hb := (zr_kv_b b1 k).1
  rw [zj_kv hJ]
  by_cases q : zr_kv W n T.2.1 k = -1
  · rw [if_pos q, if_neg (by omega)]
  · obtain ⟨p1, p2, -⟩ := zj_kv_p hJ q
    rw [if_neg q, if_pos (by omega), (zj_node hJ (k := k.toNat) (by omega) (by omega) p2).2.2]
theorem zo_gain (h : zj_A V sh m) {k : Int} (hk : -2147483648 ≤ k ∧ k < 2147483648) : zg_S Γ zm_Tree_gain 1 0 0 [zg_r Γ 0, zg_i k] zk_K 242 (zk_P sh) V (zo_Q Γ zo_L zm_Ref_gain 6 [zg_r Γ 223, zg_i k] m) := by
  obtain ⟨n, T, cr, lim, lf, hJ⟩ := h
  obtain ⟨a1, a2⟩ := zj_shk hJ
  obtain ⟨b1, b2, b3⟩ := zj_In hJ
  have hK := hJ.2.2.2.2.2.2.1
  have two : zr_kv V n T.2.1 k = 2 → (1 ≤ k.toNat ∧ k.toNat < 32) ∧ T.1 k.toNat = 2 := fun q => by
    obtain ⟨p1, -, p3⟩ := zj_kv_p hJ (k := k) (by omega)
    exact ⟨by omega, p3 q⟩
  refine (ct_gain a1 a2 hk).mono ?_
  rintro rr K' N' P' W ⟨rfl, rfl, rfl, rfl, rfl⟩
  refine ⟨rfl, rfl, sh, rfl, ⟨_, rfl⟩, (cr_gainQ hk hK.2.1.1 hK.2.2.1 b1 b2 b3 (fun q => ?_)).mono ?_⟩
  · obtain ⟨t1, t2⟩ := two q
    obtain ⟨-, e, g⟩ := hJ.2.1.2.2.1 k.toNat t1.2 t2
    rw [e]
    exact g
  rintro rr' K' N' P' V' ⟨rfl, rfl, rfl, rfl, hq⟩
  refine ⟨rfl, rfl, rfl, ?_, zj_A_qq hq hJ⟩
  rw [zj_kv hJ]
  by_cases q : zr_kv W n T.2.1 k = 2
  · obtain ⟨t1, t2⟩ := two q
    obtain ⟨-, e, -⟩ := hJ.2.1.2.2.1 k.toNat t1.2 t2
    obtain ⟨L, -, l2, l3⟩ := hJ.1.2.2.2.2 k.toNat t1.1 t1.2 t2
    have hE := zj_P_E hJ.1.1.2.1 hJ.2.2.2.1
    have hf := l2.2.1
    unfold zx_wt at l3
    rw [zx_T_E hE cr _ hf, zx_B_E hE cr _ hf] at l3
    rw [if_pos q, if_pos q, l3.1, l3.2, e]
    rfl
  · rw [if_neg q, if_neg q]
theorem zo_rule (h : zj_A V sh m) {k i : Int} (hk : -2147483648 ≤ k ∧ k < 2147483648) (hi : -2147483648 ≤ i ∧ i < 2147483648) : zg_S Γ zm_Tree_rule 1 0 0 [zg_r Γ 0, zg_i k, zg_i i] zk_K 242 (zk_P sh) V (zo_Q Γ zo_I zm_Ref_rule 6 [zg_r Γ 223, zg_i k, zg_i i] m) := by
  obtain ⟨n, T, cr, lim, lf, hJ⟩ := h
  obtain ⟨a1, a2⟩ := zj_shk hJ
  obtain ⟨b1, b2, b3⟩ := zj_In hJ
  have two : zr_kv V n T.2.1 k = 2 → (1 ≤ k.toNat ∧ k.toNat < 32) ∧ T.1 k.toNat = 2 := fun q => by
    obtain ⟨p1, -, p3⟩ := zj_kv_p hJ (k := k) (by omega)
    exact ⟨by omega, p3 q⟩
  refine (ct_rule a1 a2 (f := T.2.2.1 k.toNat) (l := T.2.2.2 k.toNat) (L := zj_Lk V n T k.toNat) (lean := zx_lean (zt_τ V n) (T.2.1 k.toNat) (T.2.2.1 k.toNat) (T.2.2.2 k.toNat)) hk hi (fun q => ?_)).mono ?_
  · rw [zj_kv hJ] at q
    obtain ⟨t1, t2⟩ := two q
    exact (zj_Lk_is hJ t1.1 t1.2 t2).2
  rintro rr K' N' P' W ⟨rfl, rfl, rfl, rfl, rfl⟩
  refine ⟨rfl, rfl, sh, rfl, ⟨_, rfl⟩, (cr_rule hk hi b1 b2 b3).mono ?_⟩
  rintro rr' K' N' P' V' ⟨rfl, rfl, rfl, h1, h2, hq⟩
  refine ⟨rfl, rfl, rfl, ?_, zj_A_qq hq hJ⟩
  rw [zj_kv hJ]
  by_cases q : zr_kv W n T.2.1 k = 2
  · obtain ⟨t1, t2⟩ := two q
    exact h1 _ (zj_Lk_is hJ t1.1 t1.2 t2).1
  · rw [h2 q]
    unfold zr_rl
    rw [if_neg (fun z => q z.1)]
theorem zo_threshold (h : zj_A V sh m) {k i : Int} (hk : -2147483648 ≤ k ∧ k < 2147483648) (hi : -2147483648 ≤ i ∧ i < 2147483648) : zg_S Γ zm_Tree_threshold 1 0 0 [zg_r Γ 0, zg_i k, zg_i i] zk_K 242 (zk_P sh) V (zo_Q Γ zo_I zm_Ref_threshold 7 [zg_r Γ 223, zg_i k, zg_i i] m) := by
  obtain ⟨n, T, cr, lim, lf, hJ⟩ := h
  obtain ⟨a1, a2⟩ := zj_shk hJ
  obtain ⟨b1, b2, b3⟩ := zj_In hJ
  have two : zr_kv V n T.2.1 k = 2 → (1 ≤ k.toNat ∧ k.toNat < 32) ∧ T.1 k.toNat = 2 := fun q => by
    obtain ⟨p1, -, p3⟩ := zj_kv_p hJ (k := k) (by omega)
    exact ⟨by omega, p3 q⟩
  refine (ct_threshold a1 a2 (f := T.2.2.1 k.toNat) (l := T.2.2.2 k.toNat) (L := zj_Lk V n T k.toNat) (lean := zx_lean (zt_τ V n) (T.2.1 k.toNat) (T.2.2.1 k.toNat) (T.2.2.2 k.toNat)) hk hi (fun q => ?_)).mono ?_
  · rw [zj_kv hJ] at q
    obtain ⟨t1, t2⟩ := two q
    exact (zj_Lk_is hJ t1.1 t1.2 t2).2
  rintro rr K' N' P' W ⟨rfl, rfl, rfl, rfl, rfl⟩
  refine ⟨rfl, rfl, sh, rfl, ⟨_, rfl⟩, (cr_threshold hk hi b1 b2 b3).mono ?_⟩
  rintro rr' K' N' P' V' ⟨rfl, rfl, rfl, h1, h2, hq⟩
  refine ⟨rfl, rfl, rfl, ?_, zj_A_qq hq hJ⟩
  rw [zj_kv hJ]
  by_cases q : zr_kv W n T.2.1 k = 2
  · obtain ⟨t1, t2⟩ := two q
    obtain ⟨-, e, -⟩ := hJ.2.1.2.2.1 k.toNat t1.2 t2
    rw [← e]
    exact h1 _ (zj_Lk_is hJ t1.1 t1.2 t2).1
  · rw [h2 q]
    unfold zr_tl
    rw [if_neg (fun z => q z.1)]
theorem zo_reach (h : zj_A V sh m) {a b c : Int} (ha : -2147483648 ≤ a ∧ a < 2147483648) (hb : -2147483648 ≤ b ∧ b < 2147483648) (hc : -2147483648 ≤ c ∧ c < 2147483648) : zg_S Γ zm_Tree_reach 3 0 0 [zg_r Γ 0, zg_i a, zg_i b, zg_i c] zk_K 242 (zk_P sh) V (zo_Q Γ zo_I zm_Ref_reach 6 [zg_r Γ 223, zg_i a, zg_i b, zg_i c] m) := by
  obtain ⟨n, T, cr, lim, lf, hJ⟩ := h
  obtain ⟨a1, a2⟩ := zj_shk hJ
  have hLn : ∀ k : Nat, k < 32 → zt_at (V (sh + 1)) (k : Int) = 2 → (1 ≤ k ∧ k < 32) ∧ T.1 k = 2 := fun k hk q => by
    rw [zj_kv hJ] at q
    obtain ⟨p1, -, p3⟩ := zj_kv_p hJ (k := (k : Int)) (by omega)
    have := p3 q
    rw [show ((k : Int)).toNat = k by omega] at this
    exact ⟨by omega, this⟩
  refine (ct_reach a1 a2 (ft := T.2.2.1) (bo := T.2.2.2) (Lf := zj_Lk V n T) (ln := fun k => zx_lean (zt_τ V n) (T.2.1 k) (T.2.2.1 k) (T.2.2.2 k)) ha hb hc (fun k hk q => ?_)).mono ?_
  · obtain ⟨t1, t2⟩ := hLn k hk q
    exact (zj_Lk_is hJ t1.1 t1.2 t2).2
  rintro rr K' N' P' V' ⟨rfl, rfl, rfl, rfl, rfl⟩
  have ge : ∀ x, 223 ≤ x → zt_as V a b c x = V x := fun x hx => zt_as_o V a b c (by omega)
  have hJ1 : zj_J (zt_as V a b c) sh n T cr lim lf m := zj_J_cs (fun x hx => zt_as_o V a b c (by omega)) ge (by rw [zt_as_o V a b c (by decide)]; exact hJ.2.2.2.2.1.2) hJ
  obtain ⟨b1, b2, b3⟩ := zj_In hJ1
  have hLf : ∀ k, k < 32 → zt_as V a b c 228 k = 3 → zy_Ls (zr_τ (zt_as V a b c) n) (T.2.1 k) (T.2.2.1 k) (zt_as V a b c 231 k) 3 (zj_Lk V n T k) := fun k hk q => by
    rw [zr_ge_τ ge, ge 231 (by omega)]
    have := (hJ1.2.1.2.1 k hk).1
    have h0 := hJ1.2.2.1.2.1
    exact (zj_Lk_is hJ (by
      by_cases z : k = 0
      · subst z; omega
      · omega) hk (by omega)).1
  have main := cr_reach (Γ := Γ) (sh := sh) ha hb hc b1 b2 b3 hLf
  have ekv : (fun x : Nat => zr_kv (zt_as V a b c) n T.2.1 (x : Int)) = fun x : Nat => zr_kv V n T.2.1 (x : Int) := funext (fun x => zr_ge_kv ge (x : Int))
  rw [ekv, ge 231 (by omega), zr_ge_τ ge] at main
  refine ⟨rfl, rfl, sh, rfl, ⟨_, rfl⟩, main.mono ?_⟩
  rintro rr' K' N' P' V' ⟨rfl, rfl, rfl, rfl, hq⟩
  refine ⟨rfl, rfl, rfl, ?_, zj_A_qq hq hJ1⟩
  have hw := (zj_way hJ (zt_as_x V a b c)).1
  unfold zj_wc zj_wr at hw
  rw [hw]
theorem zj_cw {n lim : Nat} {T : zj_T} {cr lf : Int} (hJ : zj_J V sh n T cr lim lf m) : zc_W V ∧ zt_fw (V 201) 31 1 = zt_fw T.1 31 1 ∧ zt_fw (fun k => V 228 k - 1) 31 1 = zt_fw T.1 31 1 := by
  refine ⟨⟨hJ.1.2.2.1, fun k hk => by rw [hJ.1.2.1 k hk]; exact hJ.2.2.1.1 k hk, zj_16 hJ⟩, zt_fw_c 31 1 (fun k _ h2 => hJ.1.2.1 k (by omega)), zt_fw_c 31 1 (fun k _ h2 => ?_)⟩
  have := (hJ.2.1.2.1 k (by omega)).1
  omega
theorem zo_cut (h : zj_A V sh m) {p q : Int} (hp : -2147483648 ≤ p ∧ p < 2147483648) (hq : -2147483648 ≤ q ∧ q < 2147483648) : zg_S Γ zm_Tree_cut 2 0 0 [zg_r Γ 0, zg_i p, zg_i q] zk_K 242 (zk_P sh) V (zo_Q Γ zo_I zm_Ref_cut 6 [zg_r Γ 223, zg_i p, zg_i q] m) := by
  obtain ⟨n, T, cr, lim, lf, hJ⟩ := h
  obtain ⟨w1, w2, w3⟩ := zj_cw hJ
  obtain ⟨b1, b2, b3⟩ := zj_In hJ
  refine (ct_cut hp hq w1 hJ.2.2.2.2.1.1).mono ?_
  rintro rr K' N' P' V1 ⟨rfl, rfl, hφ⟩
  by_cases hc : zt_fw (V 201) 31 1 = 0 ∧ (0 ≤ p ∧ p ≤ 1000) ∧ (0 ≤ q ∧ q ≤ 1000)
  · rw [if_pos hc] at hφ
    obtain ⟨sh1, rfl, rfl, h1⟩ := hφ
    have ge : ∀ x, 223 ≤ x → V1 x = V x := by
      rcases h1 with ⟨-, -, rfl⟩ | ⟨-, -, z, -⟩
      · exact fun x _ => rfl
      · exact fun x hx => z x (by omega)
    have hfw : zt_fw T.1 31 1 = 0 := by rw [← w2]; exact hc.1
    have hfw1 : zt_fw (fun k => V1 228 k - 1) 31 1 = 0 := by rw [ge 228 (by omega), w3]; exact hfw
    obtain ⟨hJ2, hans⟩ := zj_cut hJ hfw hc.2.1 hc.2.2 h1
    refine ⟨rfl, rfl, sh1, rfl, ⟨_, rfl⟩, (cr_cut hp hq (by rw [hfw1]; decide) (zr_ge_In ge b1) (zr_ge_sc ge b3)).mono ?_⟩
    rintro rr' K' N' P' V2 ⟨rfl, rfl, rfl, hφ⟩
    rw [if_pos ⟨hfw1, hc.2⟩] at hφ
    exact ⟨rfl, rfl, rfl, by rw [hφ.1, hans], zj_A_qq hφ.2 hJ2⟩
  · rw [if_neg hc] at hφ
    obtain ⟨rfl, rfl, rfl⟩ := hφ
    refine ⟨rfl, rfl, sh, rfl, ⟨_, rfl⟩, (cr_cut hp hq ?_ b1 b3).mono ?_⟩
    · rw [w3]
      rcases zt_fw_w (f := T.1) 31 1 with z | z <;> omega
    rintro rr' K' N' P' V2 ⟨rfl, rfl, rfl, hφ⟩
    rw [if_neg (fun z => hc ⟨by rw [w2, ← w3]; exact z.1, z.2⟩)] at hφ
    obtain ⟨rfl, rfl⟩ := hφ
    exact ⟨rfl, rfl, rfl, rfl, zj_A_id hJ⟩
theorem zo_breakAt (h : zj_A V sh m) {k : Int} (hk : -2147483648 ≤ k ∧ k < 2147483648) : zg_S Γ zm_Tree_breakAt 4 0 0 [zg_r Γ 0, zg_i k] zk_K 242 (zk_P sh) V (zo_Q Γ zo_I zm_Ref_breakAt 5 [zg_r Γ 223, zg_i k] m) := by
  obtain ⟨n, T, cr, lim, lf, hJ⟩ := h
  obtain ⟨w1, w2, w3⟩ := zj_cw hJ
  obtain ⟨b1, b2, b3⟩ := zj_In hJ
  refine (ct_breakAt hk w1 hJ.2.2.2.2.1.2.1 hJ.2.2.2.2.1.2.2).mono ?_
  rintro rr K' N' P' V1 ⟨rfl, rfl, rfl, hφ⟩
  by_cases hc : zt_fw (V 201) 31 1 = 0 ∧ 0 ≤ k ∧ k < 15
  · rw [if_pos hc] at hφ
    obtain ⟨h1, h2, h3, h4⟩ := hφ
    have ge : ∀ x, 223 ≤ x → V1 x = V x := fun x hx => h1 x (by unfold zc_Sc; omega)
    have hJ1 : zj_J V1 sh n T cr lim lf m := zj_J_cs (fun x hx => h1 x (by unfold zc_Sc; omega)) ge ⟨h2, h3⟩ hJ
    obtain ⟨c1, c2, c3⟩ := zj_In hJ1
    have hfw1 : zt_fw (fun k => V1 228 k - 1) 31 1 = 0 := by rw [ge 228 (by omega), w3, ← w2]; exact hc.1
    have er : zr_er V1 n T.2.1 = zr_er V n T.2.1 := by
      unfold zr_er zr_ek
      rw [ge 228 (by omega), ge 225 (by omega), ge 226 (by omega)]
    have es : zr_sp V1 = zr_sp V := by unfold zr_sp; rw [ge 228 (by omega)]
    have kt := zj_kt_c (zj_Dc hJ) k.toNat
    have hint : zo_I rr := by
      rcases h4 with ⟨rfl, -⟩ | ⟨x, y, rfl, -⟩
      · exact ⟨_, rfl⟩
      · exact ⟨_, rfl⟩
    refine ⟨rfl, rfl, sh, rfl, hint, (cr_breakAt hk c1 c3).mono ?_⟩
    rintro rr' K' N' P' V2 ⟨rfl, rfl, rfl, hφ⟩
    rw [if_pos hfw1, er, es] at hφ
    obtain ⟨hq, h5⟩ := hφ
    refine ⟨rfl, rfl, rfl, ?_, zj_A_qq hq hJ1⟩
    rcases h4 with ⟨rfl, h4⟩ | ⟨x, y, rfl, h4⟩
    · rcases h5 with ⟨rfl, -⟩ | ⟨x', y', -, -, -, h5⟩
      · rfl
      · exact absurd ((kt x' y').mpr h5) (h4 x' y')
    · rcases h5 with ⟨-, h5⟩ | ⟨x', y', rfl, -, -, h5⟩
      · rcases h5 with h5 | h5
        · omega
        · exact absurd ((kt x y).mp h4) (h5 x y)
      · obtain ⟨rfl, rfl⟩ := zc_kt_u h5 ((kt x y).mp h4)
        rfl
  · rw [if_neg hc] at hφ
    obtain ⟨rfl, rfl⟩ := hφ
    refine ⟨rfl, rfl, sh, rfl, ⟨_, rfl⟩, (cr_breakAt hk b1 b3).mono ?_⟩
    rintro rr' K' N' P' V2 ⟨rfl, rfl, rfl, hφ⟩
    by_cases hf : zt_fw (fun k => V1 228 k - 1) 31 1 = 0
    · rw [if_pos hf] at hφ
      obtain ⟨hq, h5⟩ := hφ
      refine ⟨rfl, rfl, rfl, ?_, zj_A_qq hq hJ⟩
      rcases h5 with ⟨rfl, -⟩ | ⟨x', y', -, k1, k2, -⟩
      · rfl
      · exact absurd ⟨by rw [w2, ← w3]; exact hf, k1, k2⟩ hc
    · rw [if_neg hf] at hφ
      obtain ⟨rfl, rfl⟩ := hφ
      exact ⟨rfl, rfl, rfl, rfl, zj_A_id hJ⟩
theorem zo_tally (h : zj_A V sh m) : zg_S Γ zm_Tree_tally 3 0 0 [zg_r Γ 0] zk_K 242 (zk_P sh) V (zo_Q Γ zo_I zm_Ref_tally 7 [zg_r Γ 223] m) := by
  obtain ⟨n, T, cr, lim, lf, hJ⟩ := h
  obtain ⟨w1, w2, w3⟩ := zj_cw hJ
  obtain ⟨a1, a2⟩ := zj_shk hJ
  obtain ⟨b1, b2, b3⟩ := zj_In hJ
  have hn16 := hJ.1.1.2.1
  have hLn : ∀ k : Nat, k < 32 → zt_at (V (sh + 1)) (k : Int) = 2 → (1 ≤ k ∧ k < 32) ∧ T.1 k = 2 := fun k hk q => by
    rw [zj_kv hJ] at q
    obtain ⟨p1, -, p3⟩ := zj_kv_p hJ (k := (k : Int)) (by omega)
    have := p3 q
    rw [show ((k : Int)).toNat = k by omega] at this
    exact ⟨by omega, this⟩
  have hxy : ∀ r, r < n → ∀ f, f < 3 → V (3 + r) f = zr_x (V 224 (3 * r)) (V 224 (3 * r + 1)) (V 224 (3 * r + 2)) f := fun r hr f hf => by
    rw [zr_x_va V r f hf]
    exact hJ.2.2.2.1.2.2.2 r f (by omega) hf
  obtain ⟨g, hgd⟩ : ∃ g : Nat → Nat, ∀ r, g r = zr_ci (zt_ms (V 225) (V 226) (T.2.1 (zj_wr V n T (zr_x (V 224 (3 * r)) (V 224 (3 * r + 1)) (V 224 (3 * r + 2))))) n) 3 := ⟨fun r => _, fun r => rfl⟩
  have hg4 : ∀ r, g r < 4 := fun r => by rw [hgd]; have := zr_ci_b (zt_ms (V 225) (V 226) (T.2.1 (zj_wr V n T (zr_x (V 224 (3 * r)) (V 224 (3 * r + 1)) (V 224 (3 * r + 2))))) n) 3; omega
  refine (ct_tally a1 a2 w1.2.1 (g := g) (ft := T.2.2.1) (bo := T.2.2.2) (Lf := zj_Lk V n T) (ln := fun k => zx_lean (zt_τ V n) (T.2.1 k) (T.2.2.1 k) (T.2.2.2 k)) hJ.1.1 (fun k hk q => ?_) (fun r hr => ?_)).mono ?_
  · obtain ⟨t1, t2⟩ := hLn k hk q
    exact (zj_Lk_is hJ t1.1 t1.2 t2).2
  · obtain ⟨e1, e2, e3⟩ := zj_way hJ (hxy r hr)
    have e1' : zr_rc (fun m => zt_at (V (sh + 1)) (m : Int)) (fun m => zw_go ((T.2.2.1 m, T.2.2.2 m, false, 0) :: zj_Lk V n T m) (V (3 + r)) (zx_lean (zt_τ V n) (T.2.1 m) (T.2.2.1 m) (T.2.2.2 m))) 4 1 = zj_wr V n T (zr_x (V 224 (3 * r)) (V 224 (3 * r + 1)) (V 224 (3 * r + 2))) := e1
    rw [e1']
    exact ⟨hg4 r, e2.2, by rw [(zj_node hJ e2.1 e2.2 e3).2.1, hgd]⟩
  rintro rr K' N' P' V1 ⟨rfl, rfl, rfl, hφ⟩
  by_cases hc : zt_fw (V 201) 31 1 = 0
  · rw [if_pos hc] at hφ
    obtain ⟨rfl, h1⟩ := hφ
    have ge : ∀ x, 223 ≤ x → V1 x = V x := fun x hx => by rw [h1]; exact zt_ty_o V g hn16 (by omega)
    have hfw1 : zt_fw (fun k => V1 228 k - 1) 31 1 = 0 := by rw [ge 228 (by omega), w3, ← w2]; exact hc
    have ekv : (fun x : Nat => zr_kv V1 n T.2.1 (x : Int)) = fun x : Nat => zr_kv V n T.2.1 (x : Int) := funext (fun x => zr_ge_kv ge (x : Int))
    refine ⟨rfl, rfl, sh, rfl, ⟨_, rfl⟩, (cr_tally (g := g) (Lf := zj_Lk V n T) (zr_ge_In ge b1) (zr_ge_Fe ge b2) (zr_ge_sc ge b3) (fun k hk q => ?_) (fun r hr => ?_)).mono ?_⟩
    · rw [zr_ge_τ ge, ge 231 (by omega)]
      rw [ge 228 (by omega)] at q
      have := (hJ.2.1.2.1 k hk).1
      have h0 := hJ.2.2.1.2.1
      exact (zj_Lk_is hJ (by
        by_cases z : k = 0
        · subst z; omega
        · omega) hk (by omega)).1
    · rw [ekv, zr_ge_τ ge, ge 231 (by omega), ge 224 (by omega), ge 225 (by omega), ge 226 (by omega)]
      obtain ⟨e1, e2, e3⟩ := zj_way hJ (hxy r hr)
      exact ⟨e2.2, hgd r⟩
    rintro rr' K' N' P' V2 ⟨rfl, rfl, rfl, hφ⟩
    rw [if_pos hfw1] at hφ
    obtain ⟨rfl, hq⟩ := hφ
    exact ⟨rfl, rfl, rfl, by rw [ge 226 (by omega), hJ.2.2.2.1.2.1], zj_tally hJ h1 hq⟩
  · rw [if_neg hc] at hφ
    obtain ⟨rfl, rfl⟩ := hφ
    refine ⟨rfl, rfl, sh, rfl, ⟨_, rfl⟩, (cr_tally (g := g) (Lf := zj_Lk V1 n T) b1 b2 b3 (fun k hk q => ?_) (fun r hr => ?_)).mono ?_⟩
    · have := (hJ.2.1.2.1 k hk).1
      have h0 := hJ.2.2.1.2.1
      exact (zj_Lk_is hJ (by
        by_cases z : k = 0
        · subst z; omega
        · omega) hk (by omega)).1
    · obtain ⟨e1, e2, e3⟩ := zj_way hJ (hxy r hr)
      exact ⟨e2.2, hgd r⟩
    rintro rr' K' N' P' V2 ⟨rfl, rfl, rfl, hφ⟩
    rw [if_neg (fun z => hc (by rw [w2, ← w3]; exact z))] at hφ
    obtain ⟨rfl, rfl⟩ := hφ
    exact ⟨rfl, rfl, rfl, rfl, zj_A_id hJ⟩
theorem zo_begin (h : zj_A V sh m) {a b c : Int} (ha : -2147483648 ≤ a ∧ a < 2147483648) (hb : -2147483648 ≤ b ∧ b < 2147483648) (hc : -2147483648 ≤ c ∧ c < 2147483648) : zg_S Γ zm_Tree_begin 5 0 0 [zg_r Γ 0, zg_i a, zg_i b, zg_i c] zk_K 242 (zk_P sh) V (zo_Q Γ zo_I zm_Ref_begin 1 [zg_r Γ 223, zg_i a, zg_i b, zg_i c] m) := by
  obtain ⟨n, T, cr, lim, lf, hJ⟩ := h
  have hR := hJ.2.1.1
  refine (ct_begin hJ.1.1 ha hb hc).mono ?_
  rintro rr K' N' P' V1 ⟨rfl, rfl, hφ⟩
  by_cases hok : (0 ≤ a ∧ a ≤ 2) ∧ (0 ≤ b ∧ b ≤ 4) ∧ (1 ≤ c ∧ c ≤ 8)
  · rw [if_pos hok] at hφ
    obtain ⟨rfl, rfl, h1⟩ := hφ
    have ge : ∀ x, 223 ≤ x → V1 x = V x := fun x hx => by
      rw [h1, zt_an_o _ _ (by omega) (by omega)]
      unfold zt_bg
      rw [zg_u_out _ _ _ _ (by omega), zg_u_out _ _ _ _ (by omega), zg_u_out _ _ _ _ (by omega)]
    refine ⟨rfl, rfl, 200, rfl, ⟨_, rfl⟩, (cr_begin (n := n) (by rw [ge 223 (by omega)]; exact hR.1) hR.2.1 (by rw [ge 226 (by omega)]; exact hR.2.2.2.2.1) ha hb hc).mono ?_⟩
    rintro rr' K' N' P' V2 ⟨rfl, rfl, rfl, hφ⟩
    rw [if_pos hok] at hφ
    exact ⟨rfl, rfl, rfl, hφ.1, zj_begin hJ hok h1 hφ.2⟩
  · rw [if_neg hok] at hφ
    obtain ⟨rfl, rfl, rfl⟩ := hφ
    refine ⟨rfl, rfl, sh, rfl, ⟨_, rfl⟩, (cr_begin hR.1 hR.2.1 hR.2.2.2.2.1 ha hb hc).mono ?_⟩
    rintro rr' K' N' P' V2 ⟨rfl, rfl, rfl, hφ⟩
    rw [if_neg hok] at hφ
    obtain ⟨rfl, rfl⟩ := hφ
    exact ⟨rfl, rfl, rfl, rfl, zj_A_id hJ⟩
theorem zo_even (h : zj_A V sh m) : zg_S Γ zm_Tree_even 5 0 0 [zg_r Γ 0] zk_K 242 (zk_P sh) V (zo_Q Γ zo_N zm_Ref_even 1 [zg_r Γ 223] m) := by
  obtain ⟨n, T, cr, lim, lf, hJ⟩ := h
  have hR := hJ.2.1.1
  refine (ct_even hJ.1.1).mono ?_
  rintro rr K' N' P' V1 ⟨rfl, rfl, rfl, rfl, h1⟩
  have ge : ∀ x, 223 ≤ x → V1 x = V x := fun x hx => by rw [h1, zt_an_o _ _ (by omega) (by omega), zv_fill_o _ _ _ _ (by omega)]
  refine ⟨rfl, rfl, 200, rfl, rfl, (cr_even (n := n) (by rw [ge 223 (by omega)]; exact hR.1) hR.2.1 (by rw [ge 226 (by omega)]; exact hR.2.2.2.2.1)).mono ?_⟩
  rintro rr' K' N' P' V2 ⟨rfl, rfl, rfl, rfl, hφ⟩
  exact ⟨rfl, rfl, rfl, rfl, zj_even hJ h1 hφ⟩
theorem zo_bag (h : zj_A V sh m) {z : Int} : zg_S Γ zm_Tree_bag 5 0 0 [zg_r Γ 0, zg_l z] zk_K 242 (zk_P sh) V (zo_Q Γ zo_I zm_Ref_bag 1 [zg_r Γ 223, zg_l z] m) := by
  obtain ⟨n, T, cr, lim, lf, hJ⟩ := h
  have hR := hJ.2.1.1
  have hP := hJ.2.2.2.1
  refine (ct_bag hJ.1.1 hP.2.2.1).mono ?_
  rintro rr K' N' P' V1 ⟨rfl, rfl, hφ⟩
  by_cases hn : n = 0
  · rw [if_pos hn] at hφ
    obtain ⟨rfl, rfl, rfl⟩ := hφ
    refine ⟨rfl, rfl, sh, rfl, ⟨_, rfl⟩, (cr_bag hR.1 hR.2.1 (by rw [← hP.2.1]; exact hP.2.2.1)).mono ?_⟩
    rintro rr' K' N' P' V2 ⟨rfl, rfl, rfl, hφ⟩
    rw [if_pos hn] at hφ
    obtain ⟨rfl, rfl⟩ := hφ
    exact ⟨rfl, rfl, rfl, rfl, zj_A_id hJ⟩
  · rw [if_neg hn] at hφ
    obtain ⟨rfl, rfl, h1⟩ := hφ
    have ge : ∀ x, 223 ≤ x → V1 x = V x := fun x hx => by rw [h1, zt_an_o _ _ (by omega) (by omega), zv_row_o _ _ _ (by omega)]
    refine ⟨rfl, rfl, 200, rfl, ⟨_, rfl⟩, (cr_bag (n := n) (by rw [ge 223 (by omega)]; exact hR.1) hR.2.1 (by rw [ge 226 (by omega), ← hP.2.1]; exact hP.2.2.1)).mono ?_⟩
    rintro rr' K' N' P' V2 ⟨rfl, rfl, rfl, hφ⟩
    rw [if_neg hn] at hφ
    obtain ⟨rfl, W, q1, q2, q3⟩ := hφ
    obtain ⟨g1, g2⟩ := zj_bag hJ (by omega) h1 q1 q2 q3
    refine ⟨rfl, rfl, rfl, ?_, g1⟩
    rw [g2, zb_cn_w (fun r _ => ((zt_dr_0 (n := n) (by omega) hR.2.1 z).1 r).1)]
theorem zo_addRow (h : zj_A V sh m) {a b c d : Int} (ha : -2147483648 ≤ a ∧ a < 2147483648) (hb : -2147483648 ≤ b ∧ b < 2147483648) (hc : -2147483648 ≤ c ∧ c < 2147483648) (hd : -2147483648 ≤ d ∧ d < 2147483648) : zg_S Γ zm_Tree_addRow 5 0 0 [zg_r Γ 0, zg_i a, zg_i b, zg_i c, zg_i d] zk_K 242 (zk_P sh) V (zo_Q Γ zo_I zm_Ref_addRow 2 [zg_r Γ 223, zg_i a, zg_i b, zg_i c, zg_i d] m) := by
  obtain ⟨n, T, cr, lim, lf, hJ⟩ := h
  have hR := hJ.2.1.1
  have hP := hJ.2.2.2.1
  refine (ct_addRow hJ.1.1 ha hb hc hd hP.2.2.1).mono ?_
  rintro rr K' N' P' V1 ⟨rfl, rfl, hφ⟩
  by_cases hok : (0 ≤ d ∧ d ≤ 3) ∧ n < 16
  · rw [if_pos hok] at hφ
    obtain ⟨rfl, rfl, h1⟩ := hφ
    have ge : ∀ x, 223 ≤ x → V1 x = V x := fun x hx => by
      rw [h1, zt_an_o _ _ (by omega) (by omega)]
      unfold zt_ad
      rw [zt_nv_o _ (by omega), zv_fill_o _ _ _ _ (by omega), zt_add_o V n a b c d (by omega) (by omega) (by omega)]
    refine ⟨rfl, rfl, 200, rfl, ⟨_, rfl⟩, (cr_addRow (n := n) (by rw [ge 223 (by omega)]; exact hR.1) hR.2.1 (by rw [ge 226 (by omega)]; exact hR.2.2.2.2.1) hd).mono ?_⟩
    rintro rr' K' N' P' V2 ⟨rfl, rfl, rfl, hφ⟩
    rw [if_pos hok] at hφ
    obtain ⟨rfl, W, q1, q2⟩ := hφ
    exact ⟨rfl, rfl, rfl, rfl, zj_addRow hJ hok.2 ha hb hc hok.1 h1 q1 q2⟩
  · rw [if_neg hok] at hφ
    obtain ⟨rfl, rfl, rfl⟩ := hφ
    refine ⟨rfl, rfl, sh, rfl, ⟨_, rfl⟩, (cr_addRow hR.1 hR.2.1 hR.2.2.2.2.1 hd).mono ?_⟩
    rintro rr' K' N' P' V2 ⟨rfl, rfl, rfl, hφ⟩
    rw [if_neg hok] at hφ
    obtain ⟨rfl, rfl⟩ := hφ
    exact ⟨rfl, rfl, rfl, rfl, zj_A_id hJ⟩
theorem zo_grow (h : zj_A V sh m) {x : Int} (hx : -2147483648 ≤ x ∧ x < 2147483648) : zg_S Γ zm_Tree_grow 6 0 0 [zg_r Γ 0, zg_i x] zk_K 242 (zk_P sh) V (zo_Q Γ zo_I zm_Ref_grow 7 [zg_r Γ 223, zg_i x] m) := by
  obtain ⟨n, T, cr, lim, lf, hJ⟩ := h
  have hR := hJ.2.1
  have hK := hJ.2.2.2.2.2.2.1
  have hn16 := hR.1.2.1
  refine (ct_grow (τ := zr_τ V n) hx hJ.1 hJ.2.2.1 hK.1.1 hK.2.2.1 hK.1.2.1 hK.2.2.2.1 hK.1.2.2 hK.2.2.2.2 (zj_P_E hn16 hJ.2.2.2.1) (zj_ok_r hR.1)).mono ?_
  rintro rr K' N' P' V1 ⟨rfl, rfl, rfl, hφ⟩
  by_cases hok : 1 ≤ x ∧ x ≤ 3
  · rw [if_pos hok] at hφ
    obtain ⟨rfl, c1, c2, c3, c4⟩ := hφ
    have ge : ∀ x, 223 ≤ x → V1 x = V x := fun x hx => c3 x (by omega)
    have hR1 : zj_R V1 n T cr := zj_R_fr (fun b b1 _ _ => ge b (by omega)) (by rw [ge 223 (by omega)]) (zr_ge_sc ge hR.2.2.2) hR
    have e3 := ge 223 (by omega)
    refine ⟨rfl, rfl, sh, rfl, ⟨_, rfl⟩, (cr_grow hx hR1 hJ.2.2.1 (by rw [e3]; exact hK.2.1.1) hK.2.2.1 (by rw [e3]; exact hK.2.1.2.1) hK.2.2.2.1 (by rw [e3]; exact hK.2.1.2.2) hK.2.2.2.2).mono ?_⟩
    rintro rr' K' N' P' V2 ⟨rfl, rfl, rfl, hφ⟩
    rw [if_pos hok, zr_ge_τ ge] at hφ
    obtain ⟨rfl, q1, q2, q3⟩ := hφ
    exact ⟨rfl, rfl, rfl, rfl, zj_grow hJ c1 c2 c3 (fun z => ⟨c4 z, (zj_gr_0 z _).1⟩) q1 q2 q3⟩
  · rw [if_neg hok] at hφ
    obtain ⟨rfl, rfl⟩ := hφ
    refine ⟨rfl, rfl, sh, rfl, ⟨_, rfl⟩, (cr_grow hx hR hJ.2.2.1 hK.2.1.1 hK.2.2.1 hK.2.1.2.1 hK.2.2.2.1 hK.2.1.2.2 hK.2.2.2.2).mono ?_⟩
    rintro rr' K' N' P' V2 ⟨rfl, rfl, rfl, hφ⟩
    rw [if_neg hok] at hφ
    obtain ⟨rfl, rfl⟩ := hφ
    exact ⟨rfl, rfl, rfl, rfl, zj_A_id hJ⟩
end ZT50

