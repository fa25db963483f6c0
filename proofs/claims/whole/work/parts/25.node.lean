/-! Node -/
theorem zt_T_fr {V V' : zg_V} {n : Nat} (h : ∀ b, b < 21 → V' b = V b) (hT : zt_T V n) : zt_T V' n := by
  obtain ⟨h1, h2, h3, h4, h5, h6⟩ := hT
  refine ⟨by rw [h 1 (by omega)]; exact h1, h2, fun r f hr hf => ?_, fun r hr => ?_, fun r hr => ?_, by rw [h 20 (by omega)]; exact h6⟩
  · rw [h (3 + r) (by omega)]; exact h3 r f hr hf
  · rw [h 19 (by omega)]; exact h4 r hr
  · rw [h 20 (by omega)]; exact h5 r hr
theorem zg_u_u (V : zg_V) (a j : Nat) (x y : Int) : zg_u (zg_u V a j x) a j y = zg_u V a j y := by
  funext b k
  unfold zg_u
  by_cases h : b = a
  · simp only [h, if_true]
    by_cases h2 : k = j
    · simp only [h2, if_true]
    · simp only [h2, if_false]
  · simp only [h, if_false]
/-- mass of a class, majority and its mass -/
def zt_ms (cl w : Nat → Int) (s n : Nat) (c : Nat) : Int := zt_w w (zt_cls cl s (c : Int) n) n
def zt_mj (cl w : Nat → Int) (s n : Nat) : Nat → Nat × Int
  | 0 => (0, 0)
  | c + 1 => if (zt_mj cl w s n c).2 < zt_ms cl w s n c then (c, zt_ms cl w s n c) else zt_mj cl w s n c
theorem zt_mj_s (cl w : Nat → Int) (s n c : Nat) : zt_mj cl w s n (c + 1) = if (zt_mj cl w s n c).2 < zt_ms cl w s n c then (c, zt_ms cl w s n c) else zt_mj cl w s n c := rfl
theorem zt_w_b {w : Nat → Int} {n : Nat} (hw : ∀ r, r < 16 → 0 ≤ w r ∧ w r ≤ 16) (hn : n ≤ 16) (s : Nat) : 0 ≤ zt_w w s n ∧ zt_w w s n ≤ 256 := by
  have key : ∀ m, m ≤ 16 → 0 ≤ zt_w w s m ∧ zt_w w s m ≤ 16 * m := by
    intro m
    induction m with
    | zero => intro _; exact ⟨Int.le_refl 0, Int.le_refl 0⟩
    | succ m ih =>
      intro hm
      have h1 := ih (by omega)
      have h2 := hw m (by omega)
      rw [zt_w_s]
      split <;> omega
  have := key n hn
  omega
theorem zt_mj_b {cl w : Nat → Int} {n : Nat} (hw : ∀ r, r < 16 → 0 ≤ w r ∧ w r ≤ 16) (hn : n ≤ 16) (s : Nat) : ∀ c, 0 ≤ (zt_mj cl w s n c).2 ∧ (zt_mj cl w s n c).2 ≤ 256
  | 0 => by show (0 : Int) ≤ 0 ∧ (0 : Int) ≤ 256; omega
  | c + 1 => by
    rw [zt_mj_s]
    split
    · exact zt_w_b hw hn _
    · exact zt_mj_b hw hn s c
/-- what a node holds of its rows -/
def zt_tk (V : zg_V) (b s n : Nat) : zg_V := zg_u (zg_u (zg_u V b 0 (s : Int)) b 1 ((zt_mj (V 19) (V 20) s n 4).1 : Int)) b 2 (zt_w (V 20) s n - (zt_mj (V 19) (V 20) s n 4).2)
/-- a stand-in: feature, limit, turned, agreement -/
abbrev zw_E : Type := Nat × Int × Bool × Int
def zw_go : List zw_E → (Nat → Int) → Bool → Bool
  | [], _, lean => lean
  | e :: L, x, lean => if x e.1 = -2147483648 then zw_go L x lean else (decide (x e.1 ≤ e.2.1) != e.2.2.1)
def zt_si (V : zg_V) (q : Nat) (e : zw_E) : Prop := V q 0 = (e.1 : Int) ∧ e.1 < 3 ∧ V q 1 = e.2.1 ∧ (-2147483648 ≤ e.2.1 ∧ e.2.1 < 2147483648) ∧ V q 2 = zg_b e.2.2.1 ∧ V q 3 = e.2.2.2 ∧ (0 ≤ e.2.2.2 ∧ e.2.2.2 ≤ 256)
/-- node at b is split at f, l, with stand-ins L, leaning -/
def zt_nd (V : zg_V) (b : Nat) (f : Nat) (l : Int) (L : List zw_E) (lean : Bool) : Prop := V b 3 = (f : Int) ∧ f < 3 ∧ V b 4 = l ∧ (-2147483648 ≤ l ∧ l < 2147483648) ∧ V b 8 = (L.length : Int) ∧ L.length ≤ 2 ∧ V b 6 = zg_b lean ∧ ∀ (i : Nat) (e : zw_E), L[i]? = some e → zt_si V (b + 3 + i) e
theorem zw_go_drop {L : List zw_E} {i : Nat} {e : zw_E} (h : L[i]? = some e) (x : Nat → Int) (lean : Bool) : zw_go (L.drop i) x lean = if x e.1 = -2147483648 then zw_go (L.drop (i + 1)) x lean else (decide (x e.1 ≤ e.2.1) != e.2.2.1) := by
  have hi : i < L.length := (List.getElem?_eq_some_iff.mp h).1
  rw [List.drop_eq_getElem_cons hi]
  have he : L[i] = e := (List.getElem?_eq_some_iff.mp h).2
  rw [he]
  rfl
section ZT6
variable {Γ : zg_C} {V : zg_V} {k sh : Nat}
theorem ct_take (hk : k < 32) {s n : Nat} (hs : s < 65536) (hT : zt_T V n) : zg_S Γ zm_Node_takeRows 2 0 0 [zg_r Γ (40 + 5 * k), zg_r Γ 1, zg_i s] zk_K 242 (zk_P sh) V (zq_p zk_K 242 (zk_P sh) (zt_tk V (40 + 5 * k) s n) none) := by
  have hkn := (zk_node k hk).1
  have hw := hT.2.2.2.2.1
  have hn16 := hT.2.1
  have hc16 : ∀ c : Int, zt_cls (V 19) s c n < 65536 := fun c => zs_mk_lt16 _ hn16
  generalize hQ : zq_p zk_K 242 (zk_P sh) (zt_tk V (40 + 5 * k) s n) none = Q
  refine zg_enter 3 (by decide) (Nat.le_of_ble_eq_true rfl) rfl ?_
  refine zg_al0 zd_Node_takeRows_0 ?_
  refine zg_il2 zd_Node_takeRows_1 ?_
  refine zg_puti zd_Node_takeRows_2 zf_117 rfl (by omega) (by first | assumption | rfl) rfl ?_
  refine zg_al0 zd_Node_takeRows_5 ?_
  refine zg_iconst zd_Node_takeRows_6 ?_
  refine zg_puti zd_Node_takeRows_7 zf_121 rfl (by omega) (by first | assumption | rfl) rfl ?_
  refine zg_iconst zd_Node_takeRows_10 ?_
  refine zg_is3 zd_Node_takeRows_11 (fun w h => by cases h <;> rfl) (by decide) ?_
  refine zg_iconst zd_Node_takeRows_12 ?_
  refine zg_is4 zd_Node_takeRows_13 (fun w h => by cases h <;> rfl) (by decide) ?_
  have key : ∀ (j c : Nat) (o5 : Option Value) (hij : c + j = 4), zg_G Γ (fun _ => True) zm_Node_takeRows (zg_rm 2 0 0) (zg_Ω Γ (Q) 0 0) 0 0 15 [some (zg_r Γ (40 + 5 * k)), some (zg_r Γ (1)), some (zg_i (s)), some (zg_i ((zt_mj (V 19) (V 20) s n c).2)), some (zg_i ((c : Nat))), o5] [] zk_K 242 (zk_P sh) (zg_u (zg_u V (40 + 5 * k) 0 (s : Int)) (40 + 5 * k) 1 ((zt_mj (V 19) (V 20) s n c).1 : Int)) := by
    intro j
    induction j with
    | zero =>
      intro c o5 hij
      have e : c = 4 := by omega
      subst e
      generalize hW : zg_u (zg_u V (40 + 5 * k) 0 (s : Int)) (40 + 5 * k) 1 ((zt_mj (V 19) (V 20) s n 4).1 : Int) = U
      have hU : ∀ b, b < 21 → U b = V b := fun b hb => by rw [← hW, zg_u_out _ _ _ _ (by omega), zg_u_out _ _ _ _ (by omega)]
      have hTU := zt_T_fr hU hT
      have hU0 : U (40 + 5 * k) 0 = (s : Int) := by rw [← hW, zg_u_off _ _ _ _ (by decide), zg_u_in]
      have hw20 : U 20 = V 20 := hU 20 (by omega)
      refine zg_il4 zd_Node_takeRows_15 ?_
      refine zg_iconst zd_Node_takeRows_17 ?_
      refine zg_icmp_ge (tgt := 58) zd_Node_takeRows_18 (by decide) (by omega) (by omega) (fun b18 => ?_) (fun b18 => ?_)
      · refine zg_al0 zd_Node_takeRows_58 ?_
        refine zg_al1 zd_Node_takeRows_59 ?_
        refine zg_al0 zd_Node_takeRows_60 ?_
        refine zg_geti zd_Node_takeRows_61 zf_117 (by omega) (by first | assumption | rfl) rfl ?_
        rw [hU0]
        refine zg_cVp1 zd_Node_takeRows_64 zM_Table_weightOf zw_289 zi_Table_weightOf zs_Table_weightOf (ct_weightOf hs hTU) (by decide) (by decide) (by omega) (by first | assumption | rfl) (by decide) rfl (Nat.le_of_ble_eq_true rfl) ?_
        rw [hw20]
        refine zg_il3 zd_Node_takeRows_67 ?_
        refine zg_isub zd_Node_takeRows_68 ?_
        refine zg_puti zd_Node_takeRows_69 zf_124 rfl (by omega) (by first | assumption | rfl) rfl ?_
        refine zg_return zd_Node_takeRows_72 rfl ?_
        subst hQ; subst hW; exact ⟨rfl, rfl, rfl, rfl, rfl⟩
      · omega
    | succ j ih =>
      intro c o5 hij
      have ih := fun o => ih (c + 1) o (by omega)
      have hmb := zt_mj_b (cl := V 19) hw hn16 s c
      generalize hW : zg_u (zg_u V (40 + 5 * k) 0 (s : Int)) (40 + 5 * k) 1 ((zt_mj (V 19) (V 20) s n c).1 : Int) = U
      have hU : ∀ b, b < 21 → U b = V b := fun b hb => by rw [← hW, zg_u_out _ _ _ _ (by omega), zg_u_out _ _ _ _ (by omega)]
      have hTU := zt_T_fr hU hT
      have hU0 : U (40 + 5 * k) 0 = (s : Int) := by rw [← hW, zg_u_off _ _ _ _ (by decide), zg_u_in]
      have hw20 : U 20 = V 20 := hU 20 (by omega)
      have hw19 : U 19 = V 19 := hU 19 (by omega)
      have hmm := zt_w_b hw hn16 (zt_cls (V 19) s (c : Int) n)
      have hmm2 : zt_ms (V 19) (V 20) s n c = zt_w (V 20) (zt_cls (V 19) s (c : Int) n) n := rfl
      refine zg_il4 zd_Node_takeRows_15 ?_
      refine zg_iconst zd_Node_takeRows_17 ?_
      refine zg_icmp_ge (tgt := 58) zd_Node_takeRows_18 (by decide) (by omega) (by omega) (fun b18 => ?_) (fun b18 => ?_)
      · omega
      · refine zg_al1 zd_Node_takeRows_21 ?_
        refine zg_al1 zd_Node_takeRows_22 ?_
        refine zg_al0 zd_Node_takeRows_23 ?_
        refine zg_geti zd_Node_takeRows_24 zf_117 (by omega) (by first | assumption | rfl) rfl ?_
        rw [hU0]
        refine zg_il4 zd_Node_takeRows_27 ?_
        refine zg_cVp2 zd_Node_takeRows_29 zM_Table_rowsInClass zw_282 zi_Table_rowsInClass zs_Table_rowsInClass (ct_rowsInClass hs (by omega) hTU) (by decide) (by decide) (by omega) (by first | assumption | rfl) (by decide) rfl (Nat.le_of_ble_eq_true rfl) ?_
        rw [hw19]
        refine zg_cVp1 zd_Node_takeRows_32 zM_Table_weightOf zw_289 zi_Table_weightOf zs_Table_weightOf (ct_weightOf (hc16 _) hTU) (by decide) (by decide) (by omega) (by first | assumption | rfl) (by decide) rfl (Nat.le_of_ble_eq_true rfl) ?_
        rw [hw20]
        refine zg_is5 zd_Node_takeRows_35 (fun w h => by cases h <;> rfl) (by decide) ?_
        refine zg_il5 zd_Node_takeRows_37 ?_
        refine zg_il3 zd_Node_takeRows_39 ?_
        refine zg_icmp_le (tgt := 52) zd_Node_takeRows_40 (by decide) (by omega) (by omega) (fun b40 => ?_) (fun b40 => ?_)
        · refine zg_inc4 zd_Node_takeRows_52 (fun w h => by cases h <;> rfl) (by decide) ?_
          refine zg_goto (tgt := 15) zd_Node_takeRows_55 (by decide) ?_
          first
          | (have ih := ih (some (zg_i (zt_w (V 20) (zt_cls (V 19) s (c : Int) n) n)))
             rw [zt_mj_s, if_neg (by omega), hW] at ih
             exact ih)
          | (have ih := ih (some (zg_i (zt_w (V 20) (zt_cls (V 19) s (c : Int) n) n)))
             rw [zt_mj_s, if_pos (by omega)] at ih
             subst hW
             rw [zg_u_u]
             exact ih)
        · refine zg_il5 zd_Node_takeRows_43 ?_
          refine zg_is3 zd_Node_takeRows_45 (fun w h => by cases h <;> rfl) (by decide) ?_
          refine zg_al0 zd_Node_takeRows_46 ?_
          refine zg_il4 zd_Node_takeRows_47 ?_
          refine zg_puti zd_Node_takeRows_49 zf_121 rfl (by omega) (by first | assumption | rfl) rfl ?_
          refine zg_inc4 zd_Node_takeRows_52 (fun w h => by cases h <;> rfl) (by decide) ?_
          refine zg_goto (tgt := 15) zd_Node_takeRows_55 (by decide) ?_
          first
          | (have ih := ih (some (zg_i (zt_w (V 20) (zt_cls (V 19) s (c : Int) n) n)))
             rw [zt_mj_s, if_neg (by omega), hW] at ih
             exact ih)
          | (have ih := ih (some (zg_i (zt_w (V 20) (zt_cls (V 19) s (c : Int) n) n)))
             rw [zt_mj_s, if_pos (by omega)] at ih
             subst hW
             rw [zg_u_u]
             exact ih)
  exact key 4 0 none (by omega)
theorem ct_hasS (hk : k < 32) {i : Int} {c : Nat} (hi : -2147483648 ≤ i ∧ i < 2147483648) (hc : V (40 + 5 * k) 8 = (c : Int)) (hc2 : c ≤ 2) : zg_S Γ zm_Node_hasStandIn 0 0 0 [zg_r Γ (40 + 5 * k), zg_i i] zk_K 242 (zk_P sh) V (zq_p zk_K 242 (zk_P sh) V (some (zg_i (zg_b (decide (1 ≤ i ∧ i ≤ c)))))) := by
  have hkn := (zk_node k hk).1
  refine zg_enter 0 (by decide) (Nat.le_of_ble_eq_true rfl) rfl ?_
  refine zg_il1 zd_Node_hasStandIn_0 ?_
  refine zg_iconst zd_Node_hasStandIn_1 ?_
  refine zg_icmp_lt (tgt := 17) zd_Node_hasStandIn_2 (by decide) (by omega) (by omega) (fun b2 => ?_) (fun b2 => ?_)
  · refine zg_iconst zd_Node_hasStandIn_17 ?_
    refine zg_zreturn zd_Node_hasStandIn_18 rfl (by omega) ?_
    exact ⟨by rw [zg_b_eq]; simp; omega, rfl, rfl, rfl, rfl⟩
  · refine zg_il1 zd_Node_hasStandIn_5 ?_
    refine zg_al0 zd_Node_hasStandIn_6 ?_
    refine zg_geti zd_Node_hasStandIn_7 zf_142 (by omega) (by first | assumption | rfl) rfl ?_
    rw [hc]
    refine zg_icmp_gt (tgt := 17) zd_Node_hasStandIn_10 (by decide) (by omega) (by omega) (fun b10 => ?_) (fun b10 => ?_)
    · refine zg_iconst zd_Node_hasStandIn_17 ?_
      refine zg_zreturn zd_Node_hasStandIn_18 rfl (by omega) ?_
      exact ⟨by rw [zg_b_eq]; simp; omega, rfl, rfl, rfl, rfl⟩
    · refine zg_iconst zd_Node_hasStandIn_13 ?_
      refine zg_goto (tgt := 18) zd_Node_hasStandIn_14 (by decide) ?_
      refine zg_zreturn zd_Node_hasStandIn_18 rfl (by omega) ?_
      exact ⟨by rw [zg_b_eq]; simp; omega, rfl, rfl, rfl, rfl⟩
theorem ct_send (hk : k < 32) {q f : Nat} {l : Int} {L : List zw_E} {lean : Bool} (hq : q < 242) (hkq : zk_K q = (1, 3)) (hx : ∀ f, f < 3 → -2147483648 ≤ V q f ∧ V q f < 2147483648) (hN : zt_nd V (40 + 5 * k) f l L lean) : zg_S Γ zm_Node_sendsLeft 1 0 0 [zg_r Γ (40 + 5 * k), zg_r Γ q] zk_K 242 (zk_P sh) V (zq_p zk_K 242 (zk_P sh) V (some (zg_i (zg_b (zw_go ((f, l, false, 0) :: L) (V q) lean))))) := by
  obtain ⟨hkn, -, hka, hk0, hk1⟩ := zk_node k hk
  obtain ⟨-, hp7, hp0, hp1⟩ := zp_node (sh := sh) hk
  obtain ⟨n1, n2, n3, n4, n5, n6, n7, n8⟩ := hN
  have hxf := hx f n2
  have hgo : zw_go ((f, l, false, 0) :: L) (V q) lean = if V q f = -2147483648 then zw_go L (V q) lean else (decide (V q f ≤ l) != false) := rfl
  rw [hgo]
  generalize hQ : zq_p zk_K 242 (zk_P sh) V (some (zg_i (zg_b (if V q f = -2147483648 then zw_go L (V q) lean else (decide (V q f ≤ l) != false))))) = Q
  refine zg_enter 2 (by decide) (Nat.le_of_ble_eq_true rfl) rfl ?_
  have key : ∀ (j i : Nat) (o3 : Option Value) (hij : i + j = L.length) (he : zw_go (L.drop i) (V q) lean = zw_go L (V q) lean) (hm : V q f = -2147483648), zg_G Γ (fun _ => True) zm_Node_sendsLeft (zg_rm 1 0 0) (zg_Ω Γ (Q) 0 0) 0 0 32 [some (zg_r Γ (40 + 5 * k)), some (zg_r Γ (q)), some (zg_i ((i : Nat))), o3] [] zk_K 242 (zk_P sh) (V) := by
    intro j
    induction j with
    | zero =>
      intro i o3 hij he hm
      have e : i = L.length := by omega
      rw [e, List.drop_length] at he
      refine zg_il2 zd_Node_sendsLeft_32 ?_
      refine zg_al0 zd_Node_sendsLeft_33 ?_
      refine zg_geti zd_Node_sendsLeft_34 zf_142 (by omega) (by first | assumption | rfl) rfl ?_
      rw [n5]
      refine zg_icmp_ge (tgt := 75) zd_Node_sendsLeft_37 (by decide) (by omega) (by omega) (fun b37 => ?_) (fun b37 => ?_)
      · refine zg_al0 zd_Node_sendsLeft_75 ?_
        refine zg_getz zd_Node_sendsLeft_76 zf_138 (by omega) (by first | assumption | rfl) rfl ?_
        rw [n7]
        refine zg_zreturn zd_Node_sendsLeft_79 rfl (zg_b01 _) ?_
        subst hQ; rw [if_pos hm, ← he]; exact ⟨rfl, rfl, rfl, rfl, rfl⟩
      · omega
    | succ j ih =>
      intro i o3 hij he hm
      have hiL : i < L.length := by omega
      obtain ⟨e, hLe⟩ : ∃ e, L[i]? = some e := ⟨L[i], List.getElem?_eq_getElem hiL⟩
      obtain ⟨s1, s2, s3, s4, s5, s6, s7⟩ := n8 i e hLe
      rw [zw_go_drop hLe] at he
      have hpi : zk_P sh (42 + 5 * k) i = some (40 + 5 * k + 3 + i) := by
        rcases (show i = 0 ∨ i = 1 by omega) with rfl | rfl
        · rw [hp0]; congr 1; omega
        · rw [hp1]; congr 1; omega
      have hki : zk_K (40 + 5 * k + 3 + i) = (0, 5) := by
        rcases (show i = 0 ∨ i = 1 by omega) with rfl | rfl
        · rw [show 40 + 5 * k + 3 + 0 = 43 + 5 * k by omega]; exact hk0
        · rw [show 40 + 5 * k + 3 + 1 = 44 + 5 * k by omega]; exact hk1
      have hxe := hx e.1 s2
      have hz : V (40 + 5 * k + 3 + i) 2 = 0 ∨ V (40 + 5 * k + 3 + i) 2 = 1 := by rw [s5]; exact zg_b01 _
      have hl3 : -2147483648 ≤ V (40 + 5 * k + 3 + i) 1 ∧ V (40 + 5 * k + 3 + i) 1 < 2147483648 := by rw [s3]; exact s4
      refine zg_il2 zd_Node_sendsLeft_32 ?_
      refine zg_al0 zd_Node_sendsLeft_33 ?_
      refine zg_geti zd_Node_sendsLeft_34 zf_142 (by omega) (by first | assumption | rfl) rfl ?_
      rw [n5]
      refine zg_icmp_ge (tgt := 75) zd_Node_sendsLeft_37 (by decide) (by omega) (by omega) (fun b37 => ?_) (fun b37 => ?_)
      · omega
      · refine zg_al1 zd_Node_sendsLeft_40 ?_
        refine zg_al0 zd_Node_sendsLeft_41 ?_
        refine zg_getr zd_Node_sendsLeft_42 zf_139 (by omega) (by first | assumption | rfl) rfl (by first | assumption | rfl) ?_
        refine zg_il2 zd_Node_sendsLeft_45 ?_
        refine zg_aald zd_Node_sendsLeft_46 (by omega) (by first | assumption | rfl) rfl rfl rfl (by omega) (by decide) (by first | assumption | rfl) ?_
        refine zg_geti zd_Node_sendsLeft_47 zf_99 (by omega) (by first | assumption | rfl) rfl ?_
        rw [s1]
        refine zg_iald zd_Node_sendsLeft_50 (by omega) (by first | assumption | rfl) rfl (by omega) (by decide) ?_
        refine zg_is3 zd_Node_sendsLeft_51 (fun w h => by cases h <;> rfl) (by decide) ?_
        refine zg_il3 zd_Node_sendsLeft_52 ?_
        refine zg_ldc (-2147483648) zd_Node_sendsLeft_53 zw_519 (by decide) ?_
        refine zg_icmp_eq (tgt := 69) zd_Node_sendsLeft_55 (by decide) (by omega) (by omega) (fun b55 => ?_) (fun b55 => ?_)
        · refine zg_inc2 zd_Node_sendsLeft_69 (fun w h => by cases h <;> rfl) (by decide) ?_
          refine zg_goto (tgt := 32) zd_Node_sendsLeft_72 (by decide) ?_
          rw [if_pos b55] at he; exact ih (i + 1) _ (by omega) he hm
        · refine zg_al0 zd_Node_sendsLeft_58 ?_
          refine zg_getr zd_Node_sendsLeft_59 zf_139 (by omega) (by first | assumption | rfl) rfl (by first | assumption | rfl) ?_
          refine zg_il2 zd_Node_sendsLeft_62 ?_
          refine zg_aald zd_Node_sendsLeft_63 (by omega) (by first | assumption | rfl) rfl rfl rfl (by omega) (by decide) (by first | assumption | rfl) ?_
          refine zg_il3 zd_Node_sendsLeft_64 ?_
          refine zg_cVp1 zd_Node_sendsLeft_65 zM_StandIn_sendsLeft zw_520 zi_StandIn_sendsLeft zs_StandIn_sendsLeft (ct_ssend (by omega) hki hxe hl3 hz) (by decide) (by decide) (by omega) (by first | assumption | rfl) (by decide) rfl (Nat.le_of_ble_eq_true rfl) ?_
          refine zg_zreturn zd_Node_sendsLeft_68 rfl (zg_b01 _) ?_
          subst hQ
          rw [if_neg b55] at he
          rw [if_pos hm, ← he, s3, s5]
          have : decide (zg_b e.2.2.1 = 1) = e.2.2.1 := by cases e.2.2.1 <;> rfl
          rw [this]
          exact ⟨rfl, rfl, rfl, rfl, rfl⟩
  refine zg_al1 zd_Node_sendsLeft_0 ?_
  refine zg_al0 zd_Node_sendsLeft_1 ?_
  refine zg_geti zd_Node_sendsLeft_2 zf_128 (by omega) (by first | assumption | rfl) rfl ?_
  rw [n1]
  refine zg_iald zd_Node_sendsLeft_5 (by omega) (by first | assumption | rfl) rfl (by omega) (by decide) ?_
  refine zg_ldc (-2147483648) zd_Node_sendsLeft_6 zw_519 (by decide) ?_
  refine zg_icmp_eq (tgt := 30) zd_Node_sendsLeft_8 (by decide) (by omega) (by omega) (fun b8 => ?_) (fun b8 => ?_)
  · refine zg_iconst zd_Node_sendsLeft_30 ?_
    refine zg_is2 zd_Node_sendsLeft_31 (fun w h => by cases h <;> rfl) (by decide) ?_
    exact key L.length 0 none (by omega) rfl b8
  · refine zg_al1 zd_Node_sendsLeft_11 ?_
    refine zg_al0 zd_Node_sendsLeft_12 ?_
    refine zg_geti zd_Node_sendsLeft_13 zf_128 (by omega) (by first | assumption | rfl) rfl ?_
    rw [n1]
    refine zg_iald zd_Node_sendsLeft_16 (by omega) (by first | assumption | rfl) rfl (by omega) (by decide) ?_
    refine zg_al0 zd_Node_sendsLeft_17 ?_
    refine zg_geti zd_Node_sendsLeft_18 zf_132 (by omega) (by first | assumption | rfl) rfl ?_
    rw [n3]
    refine zg_icmp_gt (tgt := 28) zd_Node_sendsLeft_21 (by decide) (by omega) (by omega) (fun b21 => ?_) (fun b21 => ?_)
    · refine zg_iconst zd_Node_sendsLeft_28 ?_
      refine zg_zreturn zd_Node_sendsLeft_29 rfl (by omega) ?_
      subst hQ
      rw [if_neg b8]
      exact ⟨by rw [zg_b_eq]; simp; omega, rfl, rfl, rfl, rfl⟩
    · refine zg_iconst zd_Node_sendsLeft_24 ?_
      refine zg_goto (tgt := 29) zd_Node_sendsLeft_25 (by decide) ?_
      refine zg_zreturn zd_Node_sendsLeft_29 rfl (by omega) ?_
      subst hQ
      rw [if_neg b8]
      exact ⟨by rw [zg_b_eq]; simp; omega, rfl, rfl, rfl, rfl⟩
theorem ct_going (hk : k < 32) {s n f : Nat} {l : Int} {L : List zw_E} {lean : Bool} (hs : s < 65536) (hs0 : V (40 + 5 * k) 0 = (s : Int)) (hT : zt_T V n) (hN : zt_nd V (40 + 5 * k) f l L lean) : zg_S Γ zm_Node_rowsGoingLeft 2 0 0 [zg_r Γ (40 + 5 * k), zg_r Γ 1] zk_K 242 (zk_P sh) V (zq_p zk_K 242 (zk_P sh) V (some (zg_i (zs_mk (fun r => s.testBit r && zw_go ((f, l, false, 0) :: L) (zt_va V r) lean) n : Nat)))) := by
  have hkn := (zk_node k hk).1
  obtain ⟨hn, hn16, hva, -, -⟩ := hT
  generalize hQ : zq_p zk_K 242 (zk_P sh) V (some (zg_i (zs_mk (fun r => s.testBit r && zw_go ((f, l, false, 0) :: L) (zt_va V r) lean) n : Nat))) = Q
  refine zg_enter 2 (by decide) (Nat.le_of_ble_eq_true rfl) rfl ?_
  refine zg_iconst zd_Node_rowsGoingLeft_0 ?_
  refine zg_is2 zd_Node_rowsGoingLeft_1 (fun w h => by cases h <;> rfl) (by decide) ?_
  refine zg_iconst zd_Node_rowsGoingLeft_2 ?_
  refine zg_is3 zd_Node_rowsGoingLeft_3 (fun w h => by cases h <;> rfl) (by decide) ?_
  have key : ∀ (j i : Nat) (hij : i + j = n), zg_G Γ (fun _ => True) zm_Node_rowsGoingLeft (zg_rm 2 0 0) (zg_Ω Γ (Q) 0 0) 0 0 4 [some (zg_r Γ (40 + 5 * k)), some (zg_r Γ (1)), some (zg_i ((zs_mk (fun r => s.testBit r && zw_go ((f, l, false, 0) :: L) (zt_va V r) lean) i : Nat))), some (zg_i ((i : Nat)))] [] zk_K 242 (zk_P sh) (V) := by
    intro j
    induction j with
    | zero =>
      intro i hij
      have e : i = n := by omega
      subst e
      refine zg_il3 zd_Node_rowsGoingLeft_4 ?_
      refine zg_al1 zd_Node_rowsGoingLeft_5 ?_
      refine zg_geti zd_Node_rowsGoingLeft_6 zf_42 (by omega) (by first | assumption | rfl) rfl ?_
      rw [hn]
      refine zg_icmp_ge (tgt := 48) zd_Node_rowsGoingLeft_9 (by decide) (by omega) (by omega) (fun b9 => ?_) (fun b9 => ?_)
      · refine zg_il2 zd_Node_rowsGoingLeft_48 ?_
        refine zg_ireturn zd_Node_rowsGoingLeft_49 rfl ?_
        subst hQ; exact ⟨rfl, rfl, rfl, rfl, rfl⟩
      · omega
    | succ j ih =>
      intro i hij
      have ih := ih (i + 1) (by omega)
      have hpi := zp_values (sh := sh) (show i < 16 by omega)
      have hki := (zk_row i (by omega)).1
      rw [zs_mk_s] at ih
      refine zg_il3 zd_Node_rowsGoingLeft_4 ?_
      refine zg_al1 zd_Node_rowsGoingLeft_5 ?_
      refine zg_geti zd_Node_rowsGoingLeft_6 zf_42 (by omega) (by first | assumption | rfl) rfl ?_
      rw [hn]
      refine zg_icmp_ge (tgt := 48) zd_Node_rowsGoingLeft_9 (by decide) (by omega) (by omega) (fun b9 => ?_) (fun b9 => ?_)
      · omega
      · refine zg_al0 zd_Node_rowsGoingLeft_12 ?_
        refine zg_geti zd_Node_rowsGoingLeft_13 zf_117 (by omega) (by first | assumption | rfl) rfl ?_
        rw [hs0]
        refine zg_il3 zd_Node_rowsGoingLeft_16 ?_
        refine zg_cSp2 zd_Node_rowsGoingLeft_17 zM_Table_contains zw_514 zi_Table_contains (ct_contains hs (by omega)) (by decide) (by decide) (Nat.le_of_ble_eq_true rfl) ?_
        refine zg_if_eqB (tgt := 42) zd_Node_rowsGoingLeft_20 (by decide) (fun b20 => ?_) (fun b20 => ?_)
        · refine zg_inc3 zd_Node_rowsGoingLeft_42 (fun w h => by cases h <;> rfl) (by decide) ?_
          refine zg_goto (tgt := 4) zd_Node_rowsGoingLeft_45 (by decide) ?_
          first | (rw [if_pos (by simp [b20]; exact b33)] at ih; exact ih) | (rw [if_neg (by simp [b20]; exact b33)] at ih; exact ih) | (rw [if_neg (by simp [b20])] at ih; exact ih)
        · refine zg_al0 zd_Node_rowsGoingLeft_23 ?_
          refine zg_al1 zd_Node_rowsGoingLeft_24 ?_
          refine zg_getr zd_Node_rowsGoingLeft_25 zf_33 (by omega) (by first | assumption | rfl) rfl (by first | assumption | rfl) ?_
          refine zg_il3 zd_Node_rowsGoingLeft_28 ?_
          refine zg_aald zd_Node_rowsGoingLeft_29 (by omega) (by first | assumption | rfl) rfl rfl rfl (by omega) (by decide) (by first | assumption | rfl) ?_
          refine zg_cVp1 zd_Node_rowsGoingLeft_30 zM_Node_sendsLeft zw_515 zi_Node_sendsLeft zs_Node_sendsLeft (ct_send hk (by omega) hki (fun f hf => hva i f (by omega) hf) hN) (by decide) (by decide) (by omega) (by first | assumption | rfl) (by decide) rfl (Nat.le_of_ble_eq_true rfl) ?_
          refine zg_if_eqB (tgt := 42) zd_Node_rowsGoingLeft_33 (by decide) (fun b33 => ?_) (fun b33 => ?_)
          · refine zg_inc3 zd_Node_rowsGoingLeft_42 (fun w h => by cases h <;> rfl) (by decide) ?_
            refine zg_goto (tgt := 4) zd_Node_rowsGoingLeft_45 (by decide) ?_
            first | (rw [if_pos (by simp [b20]; exact b33)] at ih; exact ih) | (rw [if_neg (by simp [b20]; exact b33)] at ih; exact ih) | (rw [if_neg (by simp [b20])] at ih; exact ih)
          · refine zg_il2 zd_Node_rowsGoingLeft_36 ?_
            refine zg_iconst zd_Node_rowsGoingLeft_37 ?_
            refine zg_il3 zd_Node_rowsGoingLeft_38 ?_
            refine zg_ishl ((2 ^ i : Nat) : Int) zd_Node_rowsGoingLeft_39 (zb_shl i (by omega)) ?_
            refine zg_ior ((zs_mk (fun r => s.testBit r && zw_go ((f, l, false, 0) :: L) (zt_va V r) lean) i ||| 2 ^ i : Nat) : Int) zd_Node_rowsGoingLeft_40 (zb_or _ _) ?_
            refine zg_is2 zd_Node_rowsGoingLeft_41 (fun w h => by cases h <;> rfl) (by decide) ?_
            refine zg_inc3 zd_Node_rowsGoingLeft_42 (fun w h => by cases h <;> rfl) (by decide) ?_
            refine zg_goto (tgt := 4) zd_Node_rowsGoingLeft_45 (by decide) ?_
            first | (rw [if_pos (by simp [b20]; exact b33)] at ih; exact ih) | (rw [if_neg (by simp [b20]; exact b33)] at ih; exact ih) | (rw [if_neg (by simp [b20])] at ih; exact ih)
  exact key n 0 (by omega)
end ZT6

