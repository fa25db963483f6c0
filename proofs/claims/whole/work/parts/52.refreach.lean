/-! stand-ins always are; the reference: reach -/
theorem zy_al_b {V : zg_V} {n : Nat} (hT : zr_T V n) (s f0 : Nat) (l0 : Int) (g : Nat) (t : Int) (u : Bool) : 0 ≤ zy_ag (zr_τ V n) s f0 l0 g t u := by
  have h1 : 0 ≤ zy_A (zr_τ V n) s f0 l0 g t := (zr_w_16 hT _).1
  have h2 : zy_A (zr_τ V n) s f0 l0 g t ≤ zy_al (zr_τ V n) s f0 g := by
    show zt_w (V 226) (zb_df (zy_bo (zr_τ V n) s f0 g) (zy_le (zr_τ V n) s f0 l0 g ^^^ zx_sl (zr_τ V n) (zy_bo (zr_τ V n) s f0 g) g t)) n ≤ zt_w (V 226) (zy_bo (zr_τ V n) s f0 g) n
    unfold zt_w
    apply zs_sum_le
    intro r hr
    have h5 := hT.2.2.2.2.1 r (by have := hT.2.1; omega)
    rw [zb_df_bit]
    cases (zy_bo (zr_τ V n) s f0 g).testBit r <;> simp
    split <;> omega
  unfold zy_ag
  split <;> omega
theorem zr_ys_ex {V : zg_V} {n : Nat} (hT : zr_T V n) (s f0 : Nat) (l0 : Int) (g : Nat) : ∀ m, ∃ W, zr_ys (zy_ag (zr_τ V n) s f0 l0 g) (fun t _ => zr_Dm (zr_va V) n (zy_bo (zr_τ V n) s f0 g) g m t) W
  | 0 => ⟨zg_u V 223 26 (-1), Or.inl ⟨zg_u_in _ _ _ _, fun t u h => by obtain ⟨m', q, -⟩ := h; omega⟩⟩
  | m + 1 => by
    obtain ⟨W, hW⟩ := zr_ys_ex hT s f0 l0 g m
    by_cases h : m / 16 < n ∧ m % 16 < n ∧ zr_nx (zr_va V) (zy_bo (zr_τ V n) s f0 g) g (m / 16) (m % 16) n = true
    · have s1 := zr_ys_step (t := (zr_va V (m / 16) g + zr_va V (m % 16) g) / 2) (u := false) (z := 0) hW (fun t' u' => Iff.rfl) (zy_al_b hT _ _ _ _ _ _) rfl
      have s2 := zr_ys_step (t := (zr_va V (m / 16) g + zr_va V (m % 16) g) / 2) (u := true) (z := 1) (C' := fun t' _ => zr_Dm (zr_va V) n (zy_bo (zr_τ V n) s f0 g) g (m + 1) t') s1 (fun t' u' => by
        rw [zr_Dm_yes rfl h.1 h.2.1 h.2.2]
        cases u' <;> simp) (zy_al_b hT _ _ _ _ _ _) rfl
      exact ⟨_, s2⟩
    · exact ⟨W, zr_ys_iff (fun t _ => zr_Dm_no h t) hW⟩
theorem zy_is_ex {V : zg_V} {n : Nat} (hT : zr_T V n) (s f0 : Nat) (l0 : Int) (g : Nat) : ∃ e, zy_is (zr_τ V n) s f0 l0 g e := by
  obtain ⟨W, hW⟩ := zr_ys_ex hT s f0 l0 g 256
  have hW := zr_ys_iff (fun t _ => zr_Dm_z (τ := zr_τ V n) hT.2.1 (zy_bo (zr_τ V n) s f0 g) g t) hW
  rcases hW with ⟨-, h⟩ | ⟨t0, u0, h1, -, -, -, h5⟩
  · exact ⟨none, fun t u ht => absurd ht (h t u)⟩
  · by_cases hf : zy_fl (zr_τ V n) s f0 l0 g < zy_ag (zr_τ V n) s f0 l0 g t0 u0
    · exact ⟨some (g, t0, u0, zy_ag (zr_τ V n) s f0 l0 g t0 u0), rfl, h1, rfl, hf, h5⟩
    · exact ⟨none, fun t u ht => by have := (h5 t u ht).1; omega⟩
theorem zy_Ls_ex {V : zg_V} {n : Nat} (hT : zr_T V n) (s f0 : Nat) (l0 : Int) : ∀ m, ∃ L, zy_Ls (zr_τ V n) s f0 l0 m L
  | 0 => ⟨[], fun _ => none, fun g hg => by omega, rfl⟩
  | m + 1 => by
    obtain ⟨L, hL⟩ := zy_Ls_ex hT s f0 l0 m
    by_cases e : m = f0
    · exact ⟨_, zy_Ls_s (x := none) hL (fun _ => rfl) (fun h => absurd e h)⟩
    · obtain ⟨x, hx⟩ := zy_is_ex hT s f0 l0 m
      exact ⟨_, zy_Ls_s (x := x) hL (fun h => absurd h e) (fun _ => hx)⟩
theorem zr_qq_tr {V U W : zg_V} (h : zr_qq V U) (h' : zr_qq U W) : zr_qq V W := ⟨zv_on_tr h.1 h'.1, fun j hj => by rw [h'.2.1 j hj, h.2.1 j hj], h'.2.2⟩
theorem zr_qq_τ {V U : zg_V} {n : Nat} (h : zr_qq V U) : zr_τ U n = zr_τ V n := by
  have hva : zr_va U = zr_va V := by unfold zr_va; rw [h.1 224 (by omega)]
  show (zr_va U, U 225, U 226, n) = (zr_va V, V 225, V 226, n)
  rw [hva, h.1 225 (by omega), h.1 226 (by omega)]
theorem zr_qq_In {V U : zg_V} {n : Nat} {sr : Nat → Nat} (h : zr_qq V U) (hI : zr_In V n sr) : zr_In U n sr := by
  obtain ⟨h1, h2, h3, h4, h5, h6⟩ := hI
  have e9 := h.1 229 (by omega)
  have e8 := h.1 228 (by omega)
  refine ⟨by rw [e9]; exact h1, by rw [e8]; exact h2, by rw [e8]; exact h3, zr_T_fr (fun b a c => h.1 b (by omega)) (h.2.1 0 (by omega)) h4, by rw [h.2.1 12 (by omega)]; exact h5, ?_⟩
  rw [h.2.1 12 (by omega), h.2.1 13 (by omega), h.2.1 14 (by omega), e8]
  exact h6
theorem zr_qq_Fe {V U : zg_V} {ft : Nat → Nat} (h : zr_qq V U) (hF : zr_Fe V ft) : zr_Fe U ft := by
  unfold zr_Fe
  rw [h.1 228 (by omega), h.1 230 (by omega), h.1 231 (by omega)]
  exact hF
theorem zr_qq_kv {V U : zg_V} {n : Nat} {sr : Nat → Nat} (h : zr_qq V U) (k : Int) : zr_kv U n sr k = zr_kv V n sr k := by
  have e8 := h.1 228 (by omega)
  have a1 : zr_er U n sr = zr_er V n sr := by
    unfold zr_er zr_ek
    rw [e8, h.1 225 (by omega), h.1 226 (by omega)]
  have a2 : zr_sp U = zr_sp V := by unfold zr_sp; rw [e8]
  have a3 : zr_kd U = zr_kd V := by unfold zr_kd; rw [e8]
  unfold zr_kv
  rw [a1, a2, a3, h.2.1 12 (by omega), h.2.1 13 (by omega), h.2.1 14 (by omega)]
/-- the way down -/
def zr_rc (kv : Nat → Int) (gl : Nat → Bool) : Nat → Nat → Nat
  | 0, m => m
  | f + 1, m => if kv m = 2 then zr_rc kv gl f (2 * m + (if gl m then 0 else 1)) else m
theorem zr_rc_s (kv : Nat → Int) (gl : Nat → Bool) (f m : Nat) : zr_rc kv gl (f + 1) m = if kv m = 2 then zr_rc kv gl f (2 * m + (if gl m then 0 else 1)) else m := rfl
section ZT35
variable {Γ : zg_C} {V : zg_V} {sh : Nat}
theorem cr_reach {n : Nat} {sr ft : Nat → Nat} {Lf : Nat → List zw_E} {a b c : Int} (ha : -2147483648 ≤ a ∧ a < 2147483648) (hb : -2147483648 ≤ b ∧ b < 2147483648) (hc : -2147483648 ≤ c ∧ c < 2147483648) (hI : zr_In V n sr) (hF : zr_Fe V ft) (hsc : zr_sc V) (hLf : ∀ k, k < 32 → V 228 k = 3 → zy_Ls (zr_τ V n) (sr k) (ft k) (V 231 k) 3 (Lf k)) : zg_S Γ zm_Ref_reach 6 0 0 [zg_r Γ 223, zg_i a, zg_i b, zg_i c] zk_K 242 (zk_P sh) V (zq_r zk_K 242 (zk_P sh) (fun rr V' => rr = some (zg_i (zr_rc (fun m => zr_kv V n sr m) (fun m => zw_go ((ft m, V 231 m, false, 0) :: Lf m) (zr_x a b c) (zr_lean (zr_τ V n) (sr m) (ft m) (V 231 m))) 5 1 : Nat)) ∧ zr_qq V V')) := by
  generalize hgl : (fun m => zw_go ((ft m, V 231 m, false, 0) :: Lf m) (zr_x a b c) (zr_lean (zr_τ V n) (sr m) (ft m) (V 231 m))) = gl
  have hglm : ∀ m, zw_go ((ft m, V 231 m, false, 0) :: Lf m) (zr_x a b c) (zr_lean (zr_τ V n) (sr m) (ft m) (V 231 m)) = gl m := fun m => by rw [← hgl]
  generalize hQ : zq_r zk_K 242 (zk_P sh) (fun rr V' => rr = some (zg_i (zr_rc (fun m => zr_kv V n sr m) gl 5 1 : Nat)) ∧ zr_qq V V') = Q
  refine zg_enter 2 (by decide) (Nat.le_of_ble_eq_true rfl) rfl ?_
  refine zg_iconst zd_Ref_reach_0 ?_
  refine zg_is4 zd_Ref_reach_1 (fun w h => by cases h <;> rfl) (by decide) ?_
  refine zg_iconst zd_Ref_reach_3 ?_
  refine zg_is5 zd_Ref_reach_4 (fun w h => by cases h <;> rfl) (by decide) ?_
  have key : ∀ (f i m : Nat) (U : zg_V) (hij : i + f = 5) (hm : m < 32) (hU : zr_qq V U) (he : zr_rc (fun m => zr_kv V n sr m) gl 5 1 = zr_rc (fun m => zr_kv V n sr m) gl f m), zg_G Γ (fun _ => True) zm_Ref_reach (zg_rm 6 0 0) (zg_Ω Γ (Q) 0 0) 0 0 6 [some (zg_r Γ (223)), some (zg_i (a)), some (zg_i (b)), some (zg_i (c)), some (zg_i ((m : Nat))), some (zg_i ((i : Nat)))] [] zk_K 242 (zk_P sh) (U) := by
    intro f
    induction f with
    | zero =>
      intro i m U hij hm hU he
      have he : zr_rc (fun m => zr_kv V n sr m) gl 5 1 = m := he
      refine zg_il5 zd_Ref_reach_6 ?_
      refine zg_iconst zd_Ref_reach_8 ?_
      refine zg_icmp_ge (tgt := 39) zd_Ref_reach_9 (by decide) (by omega) (by omega) (fun b9 => ?_) (fun b9 => ?_)
      · refine zg_il4 zd_Ref_reach_39 ?_
        refine zg_ireturn zd_Ref_reach_41 rfl ?_
        subst hQ; exact ⟨rfl, rfl, rfl, by rw [he], hU⟩
      · omega
    | succ f ih =>
      intro i m U hij hm hU he
      rw [zr_rc_s _ _ f m] at he
      have hIU := zr_qq_In hU hI
      have hkv := zr_qq_kv (n := n) (sr := sr) hU (m : Int)
      obtain ⟨k1, k2, k3, k4⟩ := zr_kv_b hI (m : Int)
      have rest : zr_kv V n sr m = 2 → ∀ U1 : zg_V, zr_qq V U1 → zg_G Γ (fun _ => True) zm_Ref_reach (zg_rm 6 0 0) (zg_Ω Γ (Q) 0 0) 0 0 22 [some (zg_r Γ (223)), some (zg_i (a)), some (zg_i (b)), some (zg_i (c)), some (zg_i ((m : Nat))), some (zg_i ((i : Nat)))] [] zk_K 242 (zk_P sh) (U1) := by
        intro h2 U1 hU1
        rw [if_pos h2] at he
        have h3 : V 228 m = 3 := k4 h2
        have hm16 := hI.2.2.1 m hm h3
        have hI1 := zr_qq_In hU1 hI
        have hF1 := zr_qq_Fe hU1 hF
        have e8 := hU1.1 228 (by omega)
        have e1 := hU1.1 231 (by omega)
        obtain ⟨f1, f2, f3⟩ := hF1 m hm (by rw [e8]; exact h3)
        obtain ⟨s1, s2⟩ := hI1.1 m hm
        have e1m : U1 231 m = V 231 m := by rw [e1]
        have f3' : -2147483648 ≤ V 231 m ∧ V 231 m < 2147483648 := by rw [← e1m]; exact f3
        have here : ∀ U2 : zg_V, zr_qq V U2 → zg_G Γ (fun _ => True) zm_Ref_reach (zg_rm 6 0 0) (zg_Ω Γ (Q) 0 0) 0 0 31 [some (zg_r Γ (223)), some (zg_i (a)), some (zg_i (b)), some (zg_i (c)), some (zg_i ((m : Nat))), some (zg_i ((i : Nat)))] [(zg_i (2 * (m : Int) + zg_b (!gl m)))] zk_K 242 (zk_P sh) (U2) := by
          intro U2 hU2
          cases hg : gl m with
          | true =>
            have ih := ih (i + 1) (2 * m) U2 (by omega) (by omega) hU2 (by rw [he, hg]; rfl)
            rw [show 2 * (m : Int) + zg_b (!true) = ((2 * m : Nat) : Int) by show 2 * (m : Int) + 0 = _; omega]
            refine zg_is4 zd_Ref_reach_31 (fun w h => by cases h <;> rfl) (by decide) ?_
            refine zg_inc5 zd_Ref_reach_33 (fun w h => by cases h <;> rfl) (by decide) ?_
            refine zg_goto (tgt := 6) zd_Ref_reach_36 (by decide) ?_
            exact ih
          | false =>
            have ih := ih (i + 1) (2 * m + 1) U2 (by omega) (by omega) hU2 (by rw [he, hg]; rfl)
            rw [show 2 * (m : Int) + zg_b (!false) = ((2 * m + 1 : Nat) : Int) by show 2 * (m : Int) + 1 = _; omega]
            refine zg_is4 zd_Ref_reach_31 (fun w h => by cases h <;> rfl) (by decide) ?_
            refine zg_inc5 zd_Ref_reach_33 (fun w h => by cases h <;> rfl) (by decide) ?_
            refine zg_goto (tgt := 6) zd_Ref_reach_36 (by decide) ?_
            exact ih
        refine zg_al0 zd_Ref_reach_22 ?_
        refine zg_il4 zd_Ref_reach_23 ?_
        refine zg_il1 zd_Ref_reach_25 ?_
        refine zg_il2 zd_Ref_reach_26 ?_
        refine zg_il3 zd_Ref_reach_27 ?_
        refine zg_cVr4 zd_Ref_reach_28 zM_Ref_goes zw_824 zi_Ref_goes zs_Ref_goes (cr_goes hm s2 s1 f1 f2 e1m f3' hU1.2.2.2.1 hU1.2.2.2.2 hI1.2.2.2.1 ha hb hc) (by decide) (by decide) (by omega) (by first | assumption | rfl) (by decide) rfl (Nat.le_of_ble_eq_true rfl) ?_
        intro r U2 hq
        obtain ⟨h1, hz⟩ := hq
        obtain rfl := h1 (Lf m) (by rw [zr_qq_τ hU1]; exact hLf m hm h3)
        rw [zr_qq_τ hU1, hglm]
        exact here U2 (zr_qq_z hU1 hz)
      refine zg_il5 zd_Ref_reach_6 ?_
      refine zg_iconst zd_Ref_reach_8 ?_
      refine zg_icmp_ge (tgt := 39) zd_Ref_reach_9 (by decide) (by omega) (by omega) (fun b9 => ?_) (fun b9 => ?_)
      · refine zg_il4 zd_Ref_reach_39 ?_
        refine zg_ireturn zd_Ref_reach_41 rfl ?_
        first
        | (exfalso; omega)
        | (subst hQ
           exact ⟨rfl, rfl, rfl, by rw [he, if_neg (by omega)], hU1⟩)
      · refine zg_al0 zd_Ref_reach_12 ?_
        refine zg_il4 zd_Ref_reach_13 ?_
        refine zg_cVr1 zd_Ref_reach_15 zM_Ref_kind zw_860 zi_Ref_kind zs_Ref_kind (cr_kind (by omega) hIU) (by decide) (by decide) (by omega) (by first | assumption | rfl) (by decide) rfl (Nat.le_of_ble_eq_true rfl) ?_
        intro r U1 hq
        obtain ⟨rfl, q1⟩ := hq
        rw [hkv]
        have hU1 := zr_qq_tr hU (zr_qq_k hU.2.2 q1)
        refine zg_iconst zd_Ref_reach_18 ?_
        refine zg_icmp_ne (tgt := 39) zd_Ref_reach_19 (by decide) (by omega) (by omega) (fun b19 => ?_) (fun b19 => ?_)
        · refine zg_il4 zd_Ref_reach_39 ?_
          refine zg_ireturn zd_Ref_reach_41 rfl ?_
          first
          | (exfalso; omega)
          | (subst hQ
             exact ⟨rfl, rfl, rfl, by rw [he, if_neg (by omega)], hU1⟩)
        · exact rest (by omega) U1 hU1
  refine key 5 0 1 V (by omega) (by omega) ⟨fun b _ => rfl, fun j _ => rfl, hsc⟩ rfl
end ZT35

