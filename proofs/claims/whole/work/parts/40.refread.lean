/-! the reference: readers -/
def zr_va (V : zg_V) : Nat → Nat → Int := fun r f => V 224 (3 * r + f)
def zr_T (V : zg_V) (n : Nat) : Prop := V 223 0 = (n : Int) ∧ n ≤ 16 ∧ (∀ r f, r < 16 → f < 3 → -2147483648 ≤ V 224 (3 * r + f) ∧ V 224 (3 * r + f) < 2147483648) ∧ (∀ r, r < 16 → 0 ≤ V 225 r ∧ V 225 r < 4) ∧ (∀ r, r < 16 → 0 ≤ V 226 r ∧ V 226 r ≤ 16) ∧ zs_sum (V 226) n ≤ 16
theorem zt_w_mk (w : Nat → Int) (p : Nat → Bool) (n : Nat) : ∀ m, m ≤ n → zt_w w (zs_mk p n) m = zs_sum (fun r => if p r then w r else 0) m := by
  intro m hm
  unfold zt_w
  apply zs_sum_congr
  intro i hi
  rw [zs_mk_bit, show decide (i < n) = true from decide_eq_true (by omega), Bool.true_and]
theorem zt_ms_sum (cl w : Nat → Int) (s n c : Nat) : zt_ms cl w s n c = zs_sum (fun r => if (s.testBit r && decide (cl r = (c : Int))) = true then w r else 0) n := zt_w_mk w _ n n (Nat.le_refl n)
theorem zs_sum_s (f : Nat → Int) (n : Nat) : zs_sum f (n + 1) = zs_sum f n + f n := rfl
theorem zr_w_16 {V : zg_V} {n : Nat} (hT : zr_T V n) (s : Nat) : 0 ≤ zt_w (V 226) s n ∧ zt_w (V 226) s n ≤ 16 := by
  obtain ⟨h1, h2, h3, h4, h5, h6⟩ := hT
  have h0 := (zt_w_b h5 h2 s).1
  refine ⟨h0, Int.le_trans (zs_sum_le (fun r hr => ?_)) h6⟩
  have := h5 r (by omega)
  split <;> omega
def zr_fr (p : Nat → Bool) : Nat → Bool
  | 0 => true
  | n + 1 => zr_fr p n && !(p n)
theorem zr_fr_s (p : Nat → Bool) (n : Nat) : zr_fr p (n + 1) = (zr_fr p n && !(p n)) := rfl
theorem zr_fr_iff (p : Nat → Bool) : ∀ n, zr_fr p n = true ↔ ∀ r, r < n → p r = false
  | 0 => ⟨fun _ r h => by omega, fun _ => rfl⟩
  | n + 1 => by
    rw [zr_fr_s, Bool.and_eq_true, zr_fr_iff p n]
    constructor
    · rintro ⟨h1, h2⟩ r hr
      by_cases e : r = n
      · subst e; simpa using h2
      · exact h1 r (by omega)
    · intro h
      exact ⟨fun r hr => h r (by omega), by simpa using h n (by omega)⟩
def zr_nx (va : Nat → Nat → Int) (s f i j n : Nat) : Bool := s.testBit i && (s.testBit j && (decide (va i f < va j f) && zr_fr (fun r => s.testBit r && decide (va i f < va r f ∧ va r f < va j f)) n))
def zr_ci (ms : Nat → Int) : Nat → Nat
  | 0 => 0
  | c + 1 => if ms (zr_ci ms c) < ms (c + 1) then c + 1 else zr_ci ms c
theorem zr_ci_s (ms : Nat → Int) (c : Nat) : zr_ci ms (c + 1) = if ms (zr_ci ms c) < ms (c + 1) then c + 1 else zr_ci ms c := rfl
theorem zr_ci_b (ms : Nat → Int) : ∀ c, zr_ci ms c ≤ c
  | 0 => Nat.le_refl 0
  | c + 1 => by rw [zr_ci_s]; have := zr_ci_b ms c; split <;> omega
theorem zx_mx_ci {f : Nat → Int} (h0 : 0 ≤ f 0) : ∀ c, zx_mx f (c + 1) = f (zr_ci f c)
  | 0 => by
    show (if (0 : Int) < f 0 then f 0 else 0) = f 0
    split <;> omega
  | c + 1 => by
    rw [zx_mx_s, zx_mx_ci h0 c, zr_ci_s]
    split <;> rfl
theorem zt_mj_ci {cl w : Nat → Int} {s n : Nat} (h0 : 0 ≤ zt_ms cl w s n 0) : ∀ c, zt_mj cl w s n (c + 1) = (zr_ci (zt_ms cl w s n) c, zt_ms cl w s n (zr_ci (zt_ms cl w s n) c))
  | 0 => by
    show (if (0 : Int) < zt_ms cl w s n 0 then (0, zt_ms cl w s n 0) else (0, 0)) = (0, zt_ms cl w s n 0)
    split
    · rfl
    · rw [show zt_ms cl w s n 0 = 0 by omega]
  | c + 1 => by
    rw [zt_mj_s, zt_mj_ci h0 c, zr_ci_s]
    split <;> rfl
theorem zb_lshr1 {x : Int} (hx : -9223372036854775808 ≤ x ∧ x < 9223372036854775808) : Int64.ofInt x >>> ((Int32.ofInt 1).toInt64 &&& 63) = Int64.ofInt (x / 2) := by
  have hs : ((Int32.ofInt 1).toInt64 &&& 63) = (1 : Int64) := by decide
  rw [hs]
  apply Int64.toInt_inj.mp
  have h1 : (Int64.ofInt x).toInt = x := Int64.toInt_ofInt_of_le (by omega) (by omega)
  have h2 : (Int64.ofInt x >>> (1 : Int64)).toInt = (Int64.ofInt x).toInt >>> 1 := by
    show (Int64.ofInt x >>> (1 : Int64)).toBitVec.toInt = _
    rw [Int64.toBitVec_shiftRight]
    have : ((1 : Int64).toBitVec.smod 64) = 1#64 := by decide
    rw [this, BitVec.sshiftRight_eq', BitVec.toInt_sshiftRight]
    rfl
  rw [h2, h1, Int.shiftRight_eq_div_pow, Int64.toInt_ofInt_of_le (by omega) (by omega)]
  rfl
section ZT20
variable {Γ : zg_C} {K : zg_K} {N : Nat} {P : zg_P} {V : zg_V} {sh : Nat}
theorem cr_has {s r : Nat} (hs : s < 65536) (hr : r < 16) : zg_S Γ zm_Ref_has 0 0 0 [zg_i s, zg_i r] K N P V (zq_p K N P V (some (zg_i (zg_b (s.testBit r))))) := by
  refine zg_enter 0 (by decide) (Nat.le_of_ble_eq_true rfl) rfl ?_
  refine zg_il0 zd_Ref_has_0 ?_
  refine zg_il1 zd_Ref_has_1 ?_
  refine zg_ishrR zd_Ref_has_2 ?_
  refine zg_iconst zd_Ref_has_3 ?_
  refine zg_iand (zg_b (s.testBit r)) zd_Ref_has_4 (by rw [zb_bit (by omega) (by omega)]; cases s.testBit r <;> rfl) ?_
  generalize s.testBit r = b
  refine zg_if_eqB (tgt := 12) zd_Ref_has_5 (by decide) (fun h => ?_) (fun h => ?_)
  · subst h
    refine zg_iconst zd_Ref_has_12 ?_
    refine zg_zreturn zd_Ref_has_13 rfl (by omega) ?_
    exact ⟨rfl, rfl, rfl, rfl, rfl⟩
  · subst h
    refine zg_iconst zd_Ref_has_8 ?_
    refine zg_goto (tgt := 13) zd_Ref_has_9 (by decide) ?_
    refine zg_zreturn zd_Ref_has_13 rfl (by omega) ?_
    exact ⟨rfl, rfl, rfl, rfl, rfl⟩
theorem cr_weighA {s n : Nat} (hs : s < 65536) (hT : zr_T V n) : zg_S Γ zm_Ref_weigh 1 0 0 [zg_r Γ 223, zg_i s, zg_i (-1)] zk_K 242 (zk_P sh) V (zq_p zk_K 242 (zk_P sh) V (some (zg_i (zt_w (V 226) s n)))) := by
  obtain ⟨hn, hn16, -⟩ := hT
  generalize hQ : zq_p zk_K 242 (zk_P sh) V (some (zg_i (zt_w (V 226) s n))) = Q
  refine zg_enter 2 (by decide) (Nat.le_of_ble_eq_true rfl) rfl ?_
  refine zg_iconst zd_Ref_weigh_0 ?_
  refine zg_is3 zd_Ref_weigh_1 (fun w h => by cases h <;> rfl) (by decide) ?_
  refine zg_iconst zd_Ref_weigh_2 ?_
  refine zg_is4 zd_Ref_weigh_3 (fun w h => by cases h <;> rfl) (by decide) ?_
  have key : ∀ (j i : Nat) (hij : i + j = n), zg_G Γ (fun _ => True) zm_Ref_weigh (zg_rm 1 0 0) (zg_Ω Γ (Q) 0 0) 0 0 5 [some (zg_r Γ (223)), some (zg_i (s)), some (zg_i (-1)), some (zg_i (zt_w (V 226) s i)), some (zg_i ((i : Nat)))] [] zk_K 242 (zk_P sh) (V) := by
    intro j
    induction j with
    | zero =>
      intro i hij
      have e : i = n := by omega
      subst e
      refine zg_il4 zd_Ref_weigh_5 ?_
      refine zg_al0 zd_Ref_weigh_7 ?_
      refine zg_geti zd_Ref_weigh_8 zf_641 (by omega) (by first | assumption | rfl) rfl ?_
      rw [hn]
      refine zg_icmp_ge (tgt := 58) zd_Ref_weigh_11 (by decide) (by omega) (by omega) (fun b11 => ?_) (fun b11 => ?_)
      · refine zg_il3 zd_Ref_weigh_58 ?_
        refine zg_ireturn zd_Ref_weigh_59 rfl ?_
        subst hQ; exact ⟨rfl, rfl, rfl, rfl, rfl⟩
      · omega
    | succ j ih =>
      intro i hij
      have ih := ih (i + 1) (by omega)
      rw [zt_w_s] at ih
      refine zg_il4 zd_Ref_weigh_5 ?_
      refine zg_al0 zd_Ref_weigh_7 ?_
      refine zg_geti zd_Ref_weigh_8 zf_641 (by omega) (by first | assumption | rfl) rfl ?_
      rw [hn]
      refine zg_icmp_ge (tgt := 58) zd_Ref_weigh_11 (by decide) (by omega) (by omega) (fun b11 => ?_) (fun b11 => ?_)
      · omega
      · refine zg_il1 zd_Ref_weigh_14 ?_
        refine zg_il4 zd_Ref_weigh_15 ?_
        refine zg_cSp2 zd_Ref_weigh_17 zM_Ref_has zw_792 zi_Ref_has (cr_has hs (by omega)) (by decide) (by decide) (Nat.le_of_ble_eq_true rfl) ?_
        refine zg_if_eqB (tgt := 50) zd_Ref_weigh_20 (by decide) (fun b20 => ?_) (fun b20 => ?_)
        · refine zg_il3 zd_Ref_weigh_50 ?_
          refine zg_is3 zd_Ref_weigh_51 (fun w h => by cases h <;> rfl) (by decide) ?_
          refine zg_inc4 zd_Ref_weigh_52 (fun w h => by cases h <;> rfl) (by decide) ?_
          refine zg_goto (tgt := 5) zd_Ref_weigh_55 (by decide) ?_
          first | (rw [if_pos b20] at ih; exact ih) | (rw [b20, if_neg (by decide), Int.add_zero] at ih; exact ih)
        · refine zg_il2 zd_Ref_weigh_23 ?_
          refine zg_if_lt (tgt := 38) zd_Ref_weigh_24 (by decide) (by omega) (fun b24 => ?_) (fun b24 => ?_)
          · refine zg_il3 zd_Ref_weigh_38 ?_
            refine zg_al0 zd_Ref_weigh_39 ?_
            refine zg_getr zd_Ref_weigh_40 zf_644 (by omega) (by first | assumption | rfl) rfl (by first | assumption | rfl) ?_
            refine zg_il4 zd_Ref_weigh_43 ?_
            refine zg_iald zd_Ref_weigh_45 (by omega) (by first | assumption | rfl) rfl (by omega) (by decide) ?_
            refine zg_iadd zd_Ref_weigh_46 ?_
            refine zg_goto (tgt := 51) zd_Ref_weigh_47 (by decide) ?_
            refine zg_is3 zd_Ref_weigh_51 (fun w h => by cases h <;> rfl) (by decide) ?_
            refine zg_inc4 zd_Ref_weigh_52 (fun w h => by cases h <;> rfl) (by decide) ?_
            refine zg_goto (tgt := 5) zd_Ref_weigh_55 (by decide) ?_
            first | (rw [if_pos b20] at ih; exact ih) | (rw [b20, if_neg (by decide), Int.add_zero] at ih; exact ih)
          · omega
  exact key n 0 (by omega)
theorem cr_weigh {s n c : Nat} (hs : s < 65536) (hc : c < 4) (hT : zr_T V n) : zg_S Γ zm_Ref_weigh 1 0 0 [zg_r Γ 223, zg_i s, zg_i c] zk_K 242 (zk_P sh) V (zq_p zk_K 242 (zk_P sh) V (some (zg_i (zt_ms (V 225) (V 226) s n c)))) := by
  obtain ⟨hn, hn16, -, hcl, -⟩ := hT
  rw [zt_ms_sum]
  generalize hQ : zq_p zk_K 242 (zk_P sh) V (some (zg_i (zs_sum (fun r => if (s.testBit r && decide (V 225 r = (c : Int))) = true then V 226 r else 0) n))) = Q
  refine zg_enter 2 (by decide) (Nat.le_of_ble_eq_true rfl) rfl ?_
  refine zg_iconst zd_Ref_weigh_0 ?_
  refine zg_is3 zd_Ref_weigh_1 (fun w h => by cases h <;> rfl) (by decide) ?_
  refine zg_iconst zd_Ref_weigh_2 ?_
  refine zg_is4 zd_Ref_weigh_3 (fun w h => by cases h <;> rfl) (by decide) ?_
  have key : ∀ (j i : Nat) (hij : i + j = n), zg_G Γ (fun _ => True) zm_Ref_weigh (zg_rm 1 0 0) (zg_Ω Γ (Q) 0 0) 0 0 5 [some (zg_r Γ (223)), some (zg_i (s)), some (zg_i (c)), some (zg_i (zs_sum (fun r => if (s.testBit r && decide (V 225 r = (c : Int))) = true then V 226 r else 0) i)), some (zg_i ((i : Nat)))] [] zk_K 242 (zk_P sh) (V) := by
    intro j
    induction j with
    | zero =>
      intro i hij
      have e : i = n := by omega
      subst e
      refine zg_il4 zd_Ref_weigh_5 ?_
      refine zg_al0 zd_Ref_weigh_7 ?_
      refine zg_geti zd_Ref_weigh_8 zf_641 (by omega) (by first | assumption | rfl) rfl ?_
      rw [hn]
      refine zg_icmp_ge (tgt := 58) zd_Ref_weigh_11 (by decide) (by omega) (by omega) (fun b11 => ?_) (fun b11 => ?_)
      · refine zg_il3 zd_Ref_weigh_58 ?_
        refine zg_ireturn zd_Ref_weigh_59 rfl ?_
        subst hQ; exact ⟨rfl, rfl, rfl, rfl, rfl⟩
      · omega
    | succ j ih =>
      intro i hij
      have ih := ih (i + 1) (by omega)
      rw [zs_sum_s] at ih
      have hci := hcl i (by omega)
      refine zg_il4 zd_Ref_weigh_5 ?_
      refine zg_al0 zd_Ref_weigh_7 ?_
      refine zg_geti zd_Ref_weigh_8 zf_641 (by omega) (by first | assumption | rfl) rfl ?_
      rw [hn]
      refine zg_icmp_ge (tgt := 58) zd_Ref_weigh_11 (by decide) (by omega) (by omega) (fun b11 => ?_) (fun b11 => ?_)
      · omega
      · refine zg_il1 zd_Ref_weigh_14 ?_
        refine zg_il4 zd_Ref_weigh_15 ?_
        refine zg_cSp2 zd_Ref_weigh_17 zM_Ref_has zw_792 zi_Ref_has (cr_has hs (by omega)) (by decide) (by decide) (Nat.le_of_ble_eq_true rfl) ?_
        refine zg_if_eqB (tgt := 50) zd_Ref_weigh_20 (by decide) (fun b20 => ?_) (fun b20 => ?_)
        · refine zg_il3 zd_Ref_weigh_50 ?_
          refine zg_is3 zd_Ref_weigh_51 (fun w h => by cases h <;> rfl) (by decide) ?_
          refine zg_inc4 zd_Ref_weigh_52 (fun w h => by cases h <;> rfl) (by decide) ?_
          refine zg_goto (tgt := 5) zd_Ref_weigh_55 (by decide) ?_
          first
          | (exfalso; omega)
          | (rw [if_pos (by simp [*] <;> omega)] at ih; exact ih)
          | (rw [if_neg (by simp [*] <;> omega), Int.add_zero] at ih; exact ih)
        · refine zg_il2 zd_Ref_weigh_23 ?_
          refine zg_if_lt (tgt := 38) zd_Ref_weigh_24 (by decide) (by omega) (fun b24 => ?_) (fun b24 => ?_)
          · refine zg_il3 zd_Ref_weigh_38 ?_
            refine zg_al0 zd_Ref_weigh_39 ?_
            refine zg_getr zd_Ref_weigh_40 zf_644 (by omega) (by first | assumption | rfl) rfl (by first | assumption | rfl) ?_
            refine zg_il4 zd_Ref_weigh_43 ?_
            refine zg_iald zd_Ref_weigh_45 (by omega) (by first | assumption | rfl) rfl (by omega) (by decide) ?_
            refine zg_iadd zd_Ref_weigh_46 ?_
            refine zg_goto (tgt := 51) zd_Ref_weigh_47 (by decide) ?_
            refine zg_is3 zd_Ref_weigh_51 (fun w h => by cases h <;> rfl) (by decide) ?_
            refine zg_inc4 zd_Ref_weigh_52 (fun w h => by cases h <;> rfl) (by decide) ?_
            refine zg_goto (tgt := 5) zd_Ref_weigh_55 (by decide) ?_
            first
            | (exfalso; omega)
            | (rw [if_pos (by simp [*] <;> omega)] at ih; exact ih)
            | (rw [if_neg (by simp [*] <;> omega), Int.add_zero] at ih; exact ih)
          · refine zg_al0 zd_Ref_weigh_27 ?_
            refine zg_getr zd_Ref_weigh_28 zf_643 (by omega) (by first | assumption | rfl) rfl (by first | assumption | rfl) ?_
            refine zg_il4 zd_Ref_weigh_31 ?_
            refine zg_iald zd_Ref_weigh_33 (by omega) (by first | assumption | rfl) rfl (by omega) (by decide) ?_
            refine zg_il2 zd_Ref_weigh_34 ?_
            refine zg_icmp_ne (tgt := 50) zd_Ref_weigh_35 (by decide) (by omega) (by omega) (fun b35 => ?_) (fun b35 => ?_)
            · refine zg_il3 zd_Ref_weigh_50 ?_
              refine zg_is3 zd_Ref_weigh_51 (fun w h => by cases h <;> rfl) (by decide) ?_
              refine zg_inc4 zd_Ref_weigh_52 (fun w h => by cases h <;> rfl) (by decide) ?_
              refine zg_goto (tgt := 5) zd_Ref_weigh_55 (by decide) ?_
              first
              | (exfalso; omega)
              | (rw [if_pos (by simp [*] <;> omega)] at ih; exact ih)
              | (rw [if_neg (by simp [*] <;> omega), Int.add_zero] at ih; exact ih)
            · refine zg_il3 zd_Ref_weigh_38 ?_
              refine zg_al0 zd_Ref_weigh_39 ?_
              refine zg_getr zd_Ref_weigh_40 zf_644 (by omega) (by first | assumption | rfl) rfl (by first | assumption | rfl) ?_
              refine zg_il4 zd_Ref_weigh_43 ?_
              refine zg_iald zd_Ref_weigh_45 (by omega) (by first | assumption | rfl) rfl (by omega) (by decide) ?_
              refine zg_iadd zd_Ref_weigh_46 ?_
              refine zg_goto (tgt := 51) zd_Ref_weigh_47 (by decide) ?_
              refine zg_is3 zd_Ref_weigh_51 (fun w h => by cases h <;> rfl) (by decide) ?_
              refine zg_inc4 zd_Ref_weigh_52 (fun w h => by cases h <;> rfl) (by decide) ?_
              refine zg_goto (tgt := 5) zd_Ref_weigh_55 (by decide) ?_
              first
              | (exfalso; omega)
              | (rw [if_pos (by simp [*] <;> omega)] at ih; exact ih)
              | (rw [if_neg (by simp [*] <;> omega), Int.add_zero] at ih; exact ih)
  exact key n 0 (by omega)
theorem cr_present {s f n : Nat} (hs : s < 65536) (hf : f < 3) (hT : zr_T V n) : zg_S Γ zm_Ref_present 1 0 0 [zg_r Γ 223, zg_i s, zg_i f] zk_K 242 (zk_P sh) V (zq_p zk_K 242 (zk_P sh) V (some (zg_i (zt_pres (zr_va V) s f n)))) := by
  obtain ⟨hn, hn16, hva, -⟩ := hT
  generalize hQ : zq_p zk_K 242 (zk_P sh) V (some (zg_i (zt_pres (zr_va V) s f n))) = Q
  refine zg_enter 2 (by decide) (Nat.le_of_ble_eq_true rfl) rfl ?_
  refine zg_iconst zd_Ref_present_0 ?_
  refine zg_is3 zd_Ref_present_1 (fun w h => by cases h <;> rfl) (by decide) ?_
  refine zg_iconst zd_Ref_present_2 ?_
  refine zg_is4 zd_Ref_present_3 (fun w h => by cases h <;> rfl) (by decide) ?_
  have key : ∀ (j i : Nat) (hij : i + j = n), zg_G Γ (fun _ => True) zm_Ref_present (zg_rm 1 0 0) (zg_Ω Γ (Q) 0 0) 0 0 5 [some (zg_r Γ (223)), some (zg_i (s)), some (zg_i (f)), some (zg_i ((zt_pres (zr_va V) s f i : Nat))), some (zg_i ((i : Nat)))] [] zk_K 242 (zk_P sh) (V) := by
    intro j
    induction j with
    | zero =>
      intro i hij
      have e : i = n := by omega
      subst e
      refine zg_il4 zd_Ref_present_5 ?_
      refine zg_al0 zd_Ref_present_7 ?_
      refine zg_geti zd_Ref_present_8 zf_641 (by omega) (by first | assumption | rfl) rfl ?_
      rw [hn]
      refine zg_icmp_ge (tgt := 56) zd_Ref_present_11 (by decide) (by omega) (by omega) (fun b11 => ?_) (fun b11 => ?_)
      · refine zg_il3 zd_Ref_present_56 ?_
        refine zg_ireturn zd_Ref_present_57 rfl ?_
        subst hQ; exact ⟨rfl, rfl, rfl, rfl, rfl⟩
      · omega
    | succ j ih =>
      intro i hij
      have ih := ih (i + 1) (by omega)
      have hvi := hva i f (by omega) hf
      unfold zt_pres at ih ⊢
      rw [zs_mk_s] at ih
      refine zg_il4 zd_Ref_present_5 ?_
      refine zg_al0 zd_Ref_present_7 ?_
      refine zg_geti zd_Ref_present_8 zf_641 (by omega) (by first | assumption | rfl) rfl ?_
      rw [hn]
      refine zg_icmp_ge (tgt := 56) zd_Ref_present_11 (by decide) (by omega) (by omega) (fun b11 => ?_) (fun b11 => ?_)
      · omega
      · refine zg_il1 zd_Ref_present_14 ?_
        refine zg_il4 zd_Ref_present_15 ?_
        refine zg_cSp2 zd_Ref_present_17 zM_Ref_has zw_792 zi_Ref_has (cr_has hs (by omega)) (by decide) (by decide) (Nat.le_of_ble_eq_true rfl) ?_
        refine zg_if_eqB (tgt := 48) zd_Ref_present_20 (by decide) (fun b20 => ?_) (fun b20 => ?_)
        · refine zg_il3 zd_Ref_present_48 ?_
          refine zg_is3 zd_Ref_present_49 (fun w h => by cases h <;> rfl) (by decide) ?_
          refine zg_inc4 zd_Ref_present_50 (fun w h => by cases h <;> rfl) (by decide) ?_
          refine zg_goto (tgt := 5) zd_Ref_present_53 (by decide) ?_
          first | (rw [if_pos (by simp [zr_va, *] <;> omega)] at ih; exact ih) | (rw [if_neg (by simp [zr_va, *] <;> omega)] at ih; exact ih)
        · refine zg_al0 zd_Ref_present_23 ?_
          refine zg_getr zd_Ref_present_24 zf_642 (by omega) (by first | assumption | rfl) rfl (by first | assumption | rfl) ?_
          refine zg_iconst zd_Ref_present_27 ?_
          refine zg_il4 zd_Ref_present_28 ?_
          refine zg_imul zd_Ref_present_30 ?_
          refine zg_il2 zd_Ref_present_31 ?_
          refine zg_iadd zd_Ref_present_32 ?_
          refine zg_iald (j := 3 * i + f) zd_Ref_present_33 (by omega) rfl (by omega) (by omega) (by decide) ?_
          refine zg_ldc (-2147483648) zd_Ref_present_34 zw_795 (by decide) ?_
          refine zg_icmp_eq (tgt := 48) zd_Ref_present_36 (by decide) (by omega) (by omega) (fun b36 => ?_) (fun b36 => ?_)
          · refine zg_il3 zd_Ref_present_48 ?_
            refine zg_is3 zd_Ref_present_49 (fun w h => by cases h <;> rfl) (by decide) ?_
            refine zg_inc4 zd_Ref_present_50 (fun w h => by cases h <;> rfl) (by decide) ?_
            refine zg_goto (tgt := 5) zd_Ref_present_53 (by decide) ?_
            first | (rw [if_pos (by simp [zr_va, *] <;> omega)] at ih; exact ih) | (rw [if_neg (by simp [zr_va, *] <;> omega)] at ih; exact ih)
          · refine zg_il3 zd_Ref_present_39 ?_
            refine zg_iconst zd_Ref_present_40 ?_
            refine zg_il4 zd_Ref_present_41 ?_
            refine zg_ishl ((2 ^ i : Nat) : Int) zd_Ref_present_43 (zb_shl i (by omega)) ?_
            refine zg_ior ((zs_mk (fun r => s.testBit r && decide (zr_va V r f ≠ -2147483648)) i ||| 2 ^ i : Nat) : Int) zd_Ref_present_44 (zb_or _ _) ?_
            refine zg_goto (tgt := 49) zd_Ref_present_45 (by decide) ?_
            refine zg_is3 zd_Ref_present_49 (fun w h => by cases h <;> rfl) (by decide) ?_
            refine zg_inc4 zd_Ref_present_50 (fun w h => by cases h <;> rfl) (by decide) ?_
            refine zg_goto (tgt := 5) zd_Ref_present_53 (by decide) ?_
            first | (rw [if_pos (by simp [zr_va, *] <;> omega)] at ih; exact ih) | (rw [if_neg (by simp [zr_va, *] <;> omega)] at ih; exact ih)
  exact key n 0 (by omega)
theorem cr_upTo {s f n : Nat} {t : Int} (hs : s < 65536) (hf : f < 3) (ht : -2147483648 ≤ t ∧ t < 2147483648) (hT : zr_T V n) : zg_S Γ zm_Ref_upTo 1 0 0 [zg_r Γ 223, zg_i s, zg_i f, zg_i t] zk_K 242 (zk_P sh) V (zq_p zk_K 242 (zk_P sh) V (some (zg_i (zt_upto (zr_va V) s f t n)))) := by
  obtain ⟨hn, hn16, hva, -⟩ := hT
  generalize hQ : zq_p zk_K 242 (zk_P sh) V (some (zg_i (zt_upto (zr_va V) s f t n))) = Q
  refine zg_enter 2 (by decide) (Nat.le_of_ble_eq_true rfl) rfl ?_
  refine zg_iconst zd_Ref_upTo_0 ?_
  refine zg_is4 zd_Ref_upTo_1 (fun w h => by cases h <;> rfl) (by decide) ?_
  refine zg_iconst zd_Ref_upTo_3 ?_
  refine zg_is5 zd_Ref_upTo_4 (fun w h => by cases h <;> rfl) (by decide) ?_
  have key : ∀ (j i : Nat) (hij : i + j = n), zg_G Γ (fun _ => True) zm_Ref_upTo (zg_rm 1 0 0) (zg_Ω Γ (Q) 0 0) 0 0 6 [some (zg_r Γ (223)), some (zg_i (s)), some (zg_i (f)), some (zg_i (t)), some (zg_i ((zt_upto (zr_va V) s f t i : Nat))), some (zg_i ((i : Nat)))] [] zk_K 242 (zk_P sh) (V) := by
    intro j
    induction j with
    | zero =>
      intro i hij
      have e : i = n := by omega
      subst e
      refine zg_il5 zd_Ref_upTo_6 ?_
      refine zg_al0 zd_Ref_upTo_8 ?_
      refine zg_geti zd_Ref_upTo_9 zf_641 (by omega) (by first | assumption | rfl) rfl ?_
      rw [hn]
      refine zg_icmp_ge (tgt := 59) zd_Ref_upTo_12 (by decide) (by omega) (by omega) (fun b12 => ?_) (fun b12 => ?_)
      · refine zg_il4 zd_Ref_upTo_59 ?_
        refine zg_ireturn zd_Ref_upTo_61 rfl ?_
        subst hQ; exact ⟨rfl, rfl, rfl, rfl, rfl⟩
      · omega
    | succ j ih =>
      intro i hij
      have ih := ih (i + 1) (by omega)
      have hvi := hva i f (by omega) hf
      have e1 : s.testBit i = true → ¬ t < V 224 (3 * i + f) → (s.testBit i && decide (zr_va V i f ≤ t)) = true := fun q1 q2 => by
        rw [q1, Bool.true_and]
        exact decide_eq_true (show V 224 (3 * i + f) ≤ t by omega)
      have e2 : t < V 224 (3 * i + f) → ¬ (s.testBit i && decide (zr_va V i f ≤ t)) = true := fun q2 h => by
        have h3 : V 224 (3 * i + f) ≤ t := of_decide_eq_true (Bool.and_eq_true _ _ ▸ h : _ ∧ _).2
        omega
      have e3 : s.testBit i = false → ¬ (s.testBit i && decide (zr_va V i f ≤ t)) = true := fun q1 h => by
        rw [q1] at h
        cases h
      unfold zt_upto at ih ⊢
      rw [zs_mk_s] at ih
      refine zg_il5 zd_Ref_upTo_6 ?_
      refine zg_al0 zd_Ref_upTo_8 ?_
      refine zg_geti zd_Ref_upTo_9 zf_641 (by omega) (by first | assumption | rfl) rfl ?_
      rw [hn]
      refine zg_icmp_ge (tgt := 59) zd_Ref_upTo_12 (by decide) (by omega) (by omega) (fun b12 => ?_) (fun b12 => ?_)
      · omega
      · refine zg_il1 zd_Ref_upTo_15 ?_
        refine zg_il5 zd_Ref_upTo_16 ?_
        refine zg_cSp2 zd_Ref_upTo_18 zM_Ref_has zw_792 zi_Ref_has (cr_has hs (by omega)) (by decide) (by decide) (Nat.le_of_ble_eq_true rfl) ?_
        refine zg_if_eqB (tgt := 49) zd_Ref_upTo_21 (by decide) (fun b21 => ?_) (fun b21 => ?_)
        · refine zg_il4 zd_Ref_upTo_49 ?_
          refine zg_is4 zd_Ref_upTo_51 (fun w h => by cases h <;> rfl) (by decide) ?_
          refine zg_inc5 zd_Ref_upTo_53 (fun w h => by cases h <;> rfl) (by decide) ?_
          refine zg_goto (tgt := 6) zd_Ref_upTo_56 (by decide) ?_
          first
          | (rw [if_pos (e1 b21 b36)] at ih; exact ih)
          | (rw [if_neg (e2 b36)] at ih; exact ih)
          | (rw [if_neg (e3 b21)] at ih; exact ih)
        · refine zg_al0 zd_Ref_upTo_24 ?_
          refine zg_getr zd_Ref_upTo_25 zf_642 (by omega) (by first | assumption | rfl) rfl (by first | assumption | rfl) ?_
          refine zg_iconst zd_Ref_upTo_28 ?_
          refine zg_il5 zd_Ref_upTo_29 ?_
          refine zg_imul zd_Ref_upTo_31 ?_
          refine zg_il2 zd_Ref_upTo_32 ?_
          refine zg_iadd zd_Ref_upTo_33 ?_
          refine zg_iald (j := 3 * i + f) zd_Ref_upTo_34 (by omega) rfl (by omega) (by omega) (by decide) ?_
          refine zg_il3 zd_Ref_upTo_35 ?_
          refine zg_icmp_gt (tgt := 49) zd_Ref_upTo_36 (by decide) (by omega) (by omega) (fun b36 => ?_) (fun b36 => ?_)
          · refine zg_il4 zd_Ref_upTo_49 ?_
            refine zg_is4 zd_Ref_upTo_51 (fun w h => by cases h <;> rfl) (by decide) ?_
            refine zg_inc5 zd_Ref_upTo_53 (fun w h => by cases h <;> rfl) (by decide) ?_
            refine zg_goto (tgt := 6) zd_Ref_upTo_56 (by decide) ?_
            first
            | (rw [if_pos (e1 b21 b36)] at ih; exact ih)
            | (rw [if_neg (e2 b36)] at ih; exact ih)
            | (rw [if_neg (e3 b21)] at ih; exact ih)
          · refine zg_il4 zd_Ref_upTo_39 ?_
            refine zg_iconst zd_Ref_upTo_41 ?_
            refine zg_il5 zd_Ref_upTo_42 ?_
            refine zg_ishl ((2 ^ i : Nat) : Int) zd_Ref_upTo_44 (zb_shl i (by omega)) ?_
            refine zg_ior ((zs_mk (fun r => s.testBit r && decide (zr_va V r f ≤ t)) i ||| 2 ^ i : Nat) : Int) zd_Ref_upTo_45 (zb_or _ _) ?_
            refine zg_goto (tgt := 51) zd_Ref_upTo_46 (by decide) ?_
            refine zg_is4 zd_Ref_upTo_51 (fun w h => by cases h <;> rfl) (by decide) ?_
            refine zg_inc5 zd_Ref_upTo_53 (fun w h => by cases h <;> rfl) (by decide) ?_
            refine zg_goto (tgt := 6) zd_Ref_upTo_56 (by decide) ?_
            first
            | (rw [if_pos (e1 b21 b36)] at ih; exact ih)
            | (rw [if_neg (e2 b36)] at ih; exact ih)
            | (rw [if_neg (e3 b21)] at ih; exact ih)
  exact key n 0 (by omega)
theorem cr_between {f i j n : Nat} (hf : f < 3) (hi : i < 16) (hj : j < 16) (hT : zr_T V n) : zg_S Γ zm_Ref_between 0 0 0 [zg_r Γ 223, zg_i f, zg_i i, zg_i j] zk_K 242 (zk_P sh) V (zq_p zk_K 242 (zk_P sh) V (some (zg_i ((zr_va V i f + zr_va V j f) / 2)))) := by
  have h1 := hT.2.2.1 i f hi hf
  have h2 := hT.2.2.1 j f hj hf
  refine zg_enter 0 (by decide) (Nat.le_of_ble_eq_true rfl) rfl ?_
  refine zg_al0 zd_Ref_between_0 ?_
  refine zg_getr zd_Ref_between_1 zf_642 (by omega) (by first | assumption | rfl) rfl (by first | assumption | rfl) ?_
  refine zg_iconst zd_Ref_between_4 ?_
  refine zg_il2 zd_Ref_between_5 ?_
  refine zg_imul zd_Ref_between_6 ?_
  refine zg_il1 zd_Ref_between_7 ?_
  refine zg_iadd zd_Ref_between_8 ?_
  refine zg_iald (j := 3 * i + f) zd_Ref_between_9 (by omega) rfl (by omega) (by omega) (by decide) ?_
  refine zg_i2l zd_Ref_between_10 (by omega) ?_
  refine zg_al0 zd_Ref_between_11 ?_
  refine zg_getr zd_Ref_between_12 zf_642 (by omega) (by first | assumption | rfl) rfl (by first | assumption | rfl) ?_
  refine zg_iconst zd_Ref_between_15 ?_
  refine zg_il3 zd_Ref_between_16 ?_
  refine zg_imul zd_Ref_between_17 ?_
  refine zg_il1 zd_Ref_between_18 ?_
  refine zg_iadd zd_Ref_between_19 ?_
  refine zg_iald (j := 3 * j + f) zd_Ref_between_20 (by omega) rfl (by omega) (by omega) (by decide) ?_
  refine zg_i2l zd_Ref_between_21 (by omega) ?_
  refine zg_ladd zd_Ref_between_22 ?_
  refine zg_iconst zd_Ref_between_23 ?_
  refine zg_lshr ((V 224 (3 * i + f) + V 224 (3 * j + f)) / 2) zd_Ref_between_24 (zb_lshr1 (by omega)) ?_
  refine zg_l2i zd_Ref_between_25 ?_
  refine zg_ireturn zd_Ref_between_26 rfl ?_
  exact ⟨rfl, rfl, rfl, rfl, rfl⟩
theorem cr_classIn {s n : Nat} (hs : s < 65536) (hT : zr_T V n) : zg_S Γ zm_Ref_classIn 2 0 0 [zg_r Γ 223, zg_i s] zk_K 242 (zk_P sh) V (zq_p zk_K 242 (zk_P sh) V (some (zg_i (zr_ci (zt_ms (V 225) (V 226) s n) 3 : Nat)))) := by
  have hb : ∀ c, 0 ≤ zt_ms (V 225) (V 226) s n c ∧ zt_ms (V 225) (V 226) s n c ≤ 16 := fun c => zr_w_16 hT _
  generalize hQ : zq_p zk_K 242 (zk_P sh) V (some (zg_i (zr_ci (zt_ms (V 225) (V 226) s n) 3 : Nat))) = Q
  refine zg_enter 2 (by decide) (Nat.le_of_ble_eq_true rfl) rfl ?_
  refine zg_iconst zd_Ref_classIn_0 ?_
  refine zg_is2 zd_Ref_classIn_1 (fun w h => by cases h <;> rfl) (by decide) ?_
  refine zg_iconst zd_Ref_classIn_2 ?_
  refine zg_is3 zd_Ref_classIn_3 (fun w h => by cases h <;> rfl) (by decide) ?_
  have key : ∀ (j i : Nat) (hij : i + j = 3), zg_G Γ (fun _ => True) zm_Ref_classIn (zg_rm 2 0 0) (zg_Ω Γ (Q) 0 0) 0 0 4 [some (zg_r Γ (223)), some (zg_i (s)), some (zg_i ((zr_ci (zt_ms (V 225) (V 226) s n) i : Nat))), some (zg_i (((i : Nat) : Int) + 1))] [] zk_K 242 (zk_P sh) (V) := by
    intro j
    induction j with
    | zero =>
      intro i hij
      have e : i = 3 := by omega
      subst e
      refine zg_il3 zd_Ref_classIn_4 ?_
      refine zg_iconst zd_Ref_classIn_5 ?_
      refine zg_icmp_ge (tgt := 36) zd_Ref_classIn_6 (by decide) (by omega) (by omega) (fun b6 => ?_) (fun b6 => ?_)
      · refine zg_il2 zd_Ref_classIn_36 ?_
        refine zg_ireturn zd_Ref_classIn_37 rfl ?_
        subst hQ; exact ⟨rfl, rfl, rfl, rfl, rfl⟩
      · omega
    | succ j ih =>
      intro i hij
      have ih := ih (i + 1) (by omega)
      rw [zr_ci_s] at ih
      have h1 := hb (i + 1)
      have h2 := hb (zr_ci (zt_ms (V 225) (V 226) s n) i)
      have h3 := zr_ci_b (zt_ms (V 225) (V 226) s n) i
      refine zg_il3 zd_Ref_classIn_4 ?_
      refine zg_iconst zd_Ref_classIn_5 ?_
      refine zg_icmp_ge (tgt := 36) zd_Ref_classIn_6 (by decide) (by omega) (by omega) (fun b6 => ?_) (fun b6 => ?_)
      · omega
      · refine zg_al0 zd_Ref_classIn_9 ?_
        refine zg_il1 zd_Ref_classIn_10 ?_
        refine zg_il3 zd_Ref_classIn_11 ?_
        rw [show ((i : Nat) : Int) + 1 = ((i + 1 : Nat) : Int) by omega]
        refine zg_cVp2 zd_Ref_classIn_12 zM_Ref_weigh zw_808 zi_Ref_weigh zs_Ref_weigh (cr_weigh hs (by omega) hT) (by decide) (by decide) (by omega) (by first | assumption | rfl) (by decide) rfl (Nat.le_of_ble_eq_true rfl) ?_
        refine zg_al0 zd_Ref_classIn_15 ?_
        refine zg_il1 zd_Ref_classIn_16 ?_
        refine zg_il2 zd_Ref_classIn_17 ?_
        refine zg_cVp2 zd_Ref_classIn_18 zM_Ref_weigh zw_808 zi_Ref_weigh zs_Ref_weigh (cr_weigh hs (by omega) hT) (by decide) (by decide) (by omega) (by first | assumption | rfl) (by decide) rfl (Nat.le_of_ble_eq_true rfl) ?_
        refine zg_icmp_le (tgt := 28) zd_Ref_classIn_21 (by decide) (by omega) (by omega) (fun b21 => ?_) (fun b21 => ?_)
        · refine zg_il2 zd_Ref_classIn_28 ?_
          refine zg_is2 zd_Ref_classIn_29 (fun w h => by cases h <;> rfl) (by decide) ?_
          refine zg_inc3 zd_Ref_classIn_30 (fun w h => by cases h <;> rfl) (by decide) ?_
          refine zg_goto (tgt := 4) zd_Ref_classIn_33 (by decide) ?_
          first | (rw [if_pos (by omega)] at ih; exact ih) | (rw [if_neg (by omega)] at ih; exact ih)
        · refine zg_il3 zd_Ref_classIn_24 ?_
          refine zg_goto (tgt := 29) zd_Ref_classIn_25 (by decide) ?_
          refine zg_is2 zd_Ref_classIn_29 (fun w h => by cases h <;> rfl) (by decide) ?_
          refine zg_inc3 zd_Ref_classIn_30 (fun w h => by cases h <;> rfl) (by decide) ?_
          refine zg_goto (tgt := 4) zd_Ref_classIn_33 (by decide) ?_
          first | (rw [if_pos (by omega)] at ih; exact ih) | (rw [if_neg (by omega)] at ih; exact ih)
  exact key 3 0 (by omega)
theorem cr_errorIn {s n : Nat} (hs : s < 65536) (hT : zr_T V n) : zg_S Γ zm_Ref_errorIn 3 0 0 [zg_r Γ 223, zg_i s] zk_K 242 (zk_P sh) V (zq_p zk_K 242 (zk_P sh) V (some (zg_i (zt_w (V 226) s n - zt_ms (V 225) (V 226) s n (zr_ci (zt_ms (V 225) (V 226) s n) 3))))) := by
  have h3 := zr_ci_b (zt_ms (V 225) (V 226) s n) 3
  refine zg_enter 0 (by decide) (Nat.le_of_ble_eq_true rfl) rfl ?_
  refine zg_al0 zd_Ref_errorIn_0 ?_
  refine zg_il1 zd_Ref_errorIn_1 ?_
  refine zg_iconst zd_Ref_errorIn_2 ?_
  refine zg_cVp2 zd_Ref_errorIn_3 zM_Ref_weigh zw_808 zi_Ref_weigh zs_Ref_weigh (cr_weighA hs hT) (by decide) (by decide) (by omega) (by first | assumption | rfl) (by decide) rfl (Nat.le_of_ble_eq_true rfl) ?_
  refine zg_al0 zd_Ref_errorIn_6 ?_
  refine zg_il1 zd_Ref_errorIn_7 ?_
  refine zg_al0 zd_Ref_errorIn_8 ?_
  refine zg_il1 zd_Ref_errorIn_9 ?_
  refine zg_cVp1 zd_Ref_errorIn_10 zM_Ref_classIn zw_820 zi_Ref_classIn zs_Ref_classIn (cr_classIn hs hT) (by decide) (by decide) (by omega) (by first | assumption | rfl) (by decide) rfl (Nat.le_of_ble_eq_true rfl) ?_
  refine zg_cVp2 zd_Ref_errorIn_13 zM_Ref_weigh zw_808 zi_Ref_weigh zs_Ref_weigh (cr_weigh hs (by omega) hT) (by decide) (by decide) (by omega) (by first | assumption | rfl) (by decide) rfl (Nat.le_of_ble_eq_true rfl) ?_
  refine zg_isub zd_Ref_errorIn_16 ?_
  refine zg_ireturn zd_Ref_errorIn_17 rfl ?_
  exact ⟨rfl, rfl, rfl, rfl, rfl⟩
theorem cr_greatest {s n : Nat} (hs : s < 65536) (hT : zr_T V n) : zg_S Γ zm_Ref_greatest 3 0 0 [zg_r Γ 223, zg_i s] zk_K 242 (zk_P sh) V (zq_p zk_K 242 (zk_P sh) V (some (zg_i (zx_mx (zt_ms (V 225) (V 226) s n) 4)))) := by
  have h3 := zr_ci_b (zt_ms (V 225) (V 226) s n) 3
  have h0 : 0 ≤ zt_ms (V 225) (V 226) s n 0 := (zr_w_16 hT _).1
  rw [zx_mx_ci h0]
  refine zg_enter 0 (by decide) (Nat.le_of_ble_eq_true rfl) rfl ?_
  refine zg_al0 zd_Ref_greatest_0 ?_
  refine zg_il1 zd_Ref_greatest_1 ?_
  refine zg_al0 zd_Ref_greatest_2 ?_
  refine zg_il1 zd_Ref_greatest_3 ?_
  refine zg_cVp1 zd_Ref_greatest_4 zM_Ref_classIn zw_820 zi_Ref_classIn zs_Ref_classIn (cr_classIn hs hT) (by decide) (by decide) (by omega) (by first | assumption | rfl) (by decide) rfl (Nat.le_of_ble_eq_true rfl) ?_
  refine zg_cVp2 zd_Ref_greatest_7 zM_Ref_weigh zw_808 zi_Ref_weigh zs_Ref_weigh (cr_weigh hs (by omega) hT) (by decide) (by decide) (by omega) (by first | assumption | rfl) (by decide) rfl (Nat.le_of_ble_eq_true rfl) ?_
  refine zg_ireturn zd_Ref_greatest_10 rfl ?_
  exact ⟨rfl, rfl, rfl, rfl, rfl⟩
end ZT20

