/-! the reference: gain -/
theorem zr_gcd_u {T B t b u : Nat} (hT : T = u * t) (hB : B = u * b) (h1 : Nat.gcd t b = 1) (hb : 1 ≤ B) : t = T / Nat.gcd T B ∧ b = B / Nat.gcd T B := by
  have hg : Nat.gcd T B = u := by rw [hT, hB, Nat.gcd_mul_left, h1, Nat.mul_one]
  have hu : 0 < u := by
    rcases Nat.eq_zero_or_pos u with z | z
    · rw [z, Nat.zero_mul] at hB; omega
    · exact z
  rw [hg, hT, hB, Nat.mul_div_cancel_left _ hu, Nat.mul_div_cancel_left _ hu]
  exact ⟨rfl, rfl⟩
/-- the answer of gain -/
def zr_gn (T B : Int) : Int := ((T.toNat / Nat.gcd T.toNat B.toNat : Nat) : Int) * 4096 + ((B.toNat / Nat.gcd T.toNat B.toNat : Nat) : Int)
section ZT38
variable {Γ : zg_C} {V : zg_V} {sh : Nat}
theorem cr_gainQ {n : Nat} {sr ft : Nat → Nat} {k cr : Int} (hk : -2147483648 ≤ k ∧ k < 2147483648) (hcr : V 223 5 = cr) (hcrb : 0 ≤ cr ∧ cr ≤ 2) (hI : zr_In V n sr) (hF : zr_Fe V ft) (hsc : zr_sc V) (hB1 : zr_kv V n sr k = 2 → 1 ≤ zx_B (zr_τ V n) cr (sr k.toNat) (ft k.toNat) (V 231 k.toNat)) : zg_S Γ zm_Ref_gain 6 0 0 [zg_r Γ 223, zg_i k] zk_K 242 (zk_P sh) V (zq_r zk_K 242 (zk_P sh) (fun rr V' => rr = some (zg_l (if zr_kv V n sr k = 2 then zr_gn (zx_T (zr_τ V n) cr (sr k.toNat) (ft k.toNat) (V 231 k.toNat)) (zx_B (zr_τ V n) cr (sr k.toNat) (ft k.toNat) (V 231 k.toNat)) else 0)) ∧ zr_qq V V')) := by
  obtain ⟨k1, k2, k3, k4⟩ := zr_kv_b hI k
  generalize hQ : zq_r zk_K 242 (zk_P sh) (fun rr V' => rr = some (zg_l (if zr_kv V n sr k = 2 then zr_gn (zx_T (zr_τ V n) cr (sr k.toNat) (ft k.toNat) (V 231 k.toNat)) (zx_B (zr_τ V n) cr (sr k.toNat) (ft k.toNat) (V 231 k.toNat)) else 0)) ∧ zr_qq V V') = Q
  refine zg_enter 3 (by decide) (Nat.le_of_ble_eq_true rfl) rfl ?_
  have rest : ∀ V1 : zg_V, zv_on (fun b => 236 ≤ b ∧ b ≤ 239) V V1 → zr_kv V n sr k = 2 → zg_G Γ (fun _ => True) zm_Ref_gain (zg_rm 6 0 0) (zg_Ω Γ (Q) 0 0) 0 0 11 [some (zg_r Γ (223)), some (zg_i (k)), none, none, none] [] zk_K 242 (zk_P sh) (V1) := by
    intro V1 q1 hkv
    have hB1 := hB1 hkv
    have hV1 := zr_qq_k hsc q1
    have hk32 := k3 (by omega)
    have h3 := k4 hkv
    obtain ⟨κ, hκ⟩ : ∃ κ : Nat, k = (κ : Int) := ⟨k.toNat, by omega⟩
    subst hκ
    rw [show ((κ : Int)).toNat = κ by omega] at *
    obtain ⟨f1, f2, f3⟩ := hF κ (by omega) h3
    obtain ⟨s1, s2⟩ := hI.1 κ (by omega)
    have hTb := zr_TB hI.2.2.2.1 cr (sr κ) (ft κ) (V 231 κ)
    have w9 : V1 229 κ = (sr κ : Int) := by rw [q1 229 (by omega)]; exact s1
    have w0 : V1 230 κ = (ft κ : Int) := by rw [q1 230 (by omega)]; exact f1
    have w1 : V1 231 κ = V 231 κ := by rw [q1 231 (by omega)]
    have hT1 : zr_T V1 n := zr_T_fr (fun b _ h => q1 b (by omega)) (by rw [q1 223 (by omega)]) hI.2.2.2.1
    have hva : zr_va V1 = zr_va V := by unfold zr_va; rw [q1 224 (by omega)]
    have h5 : V1 225 = V 225 := q1 225 (by omega)
    have h6 : V1 226 = V 226 := q1 226 (by omega)
    have hcr1 : V1 223 5 = cr := by rw [q1 223 (by omega)]; exact hcr
    have hn16 := hI.2.2.2.1.2.1
    have hps : zt_pres (zr_va V) (sr κ) (ft κ) n = zx_ps (zr_τ V n) (sr κ) (ft κ) := rfl
    generalize hp : zx_ps (zr_τ V n) (sr κ) (ft κ) = p at hps
    have hp16 : p < 65536 := by rw [← hp]; exact zt_mk16 hn16
    generalize hsl : zt_upto (zr_va V) p (ft κ) (V 231 κ) n = sl
    have hsl16 : sl < 65536 := by rw [← hsl]; exact zt_mk16 hn16
    have hTe : zx_top cr (zt_ms (V 225) (V 226) sl n) (zt_ms (V 225) (V 226) (zb_df p sl) n) (zt_w (V 226) sl n) (zt_w (V 226) (zb_df p sl) n) = zx_T (zr_τ V n) cr (sr κ) (ft κ) (V 231 κ) := by rw [← hsl, ← hp]; rfl
    have hBe : zx_bot cr (zt_w (V 226) sl n) (zt_w (V 226) (zb_df p sl) n) = zx_B (zr_τ V n) cr (sr κ) (ft κ) (V 231 κ) := by rw [← hsl, ← hp]; rfl
    have hun : ∀ c, c < 4 → zt_ms (V1 225) (V1 226) (sl ||| zb_df p sl) n c = zt_ms (V1 225) (V1 226) sl n c + zt_ms (V1 225) (V1 226) (zb_df p sl) n c := fun c _ => zt_ms_or (fun r _ hb => by rw [zb_df_bit, hb]; simp) c
    generalize hTT : zx_T (zr_τ V n) cr (sr κ) (ft κ) (V 231 κ) = T at *
    generalize hBB : zx_B (zr_τ V n) cr (sr κ) (ft κ) (V 231 κ) = B at *
    obtain ⟨T', hT'⟩ : ∃ T' : Nat, T = (T' : Int) := ⟨T.toNat, by omega⟩
    obtain ⟨B', hB'⟩ : ∃ B' : Nat, B = (B' : Int) := ⟨B.toNat, by omega⟩
    subst hT' hB'
    have loop : ∀ (d t b u : Nat) (U : zg_V), d ≤ 1024 → 1 ≤ b → t ≤ T' → b ≤ B' → T' = u * t → B' = u * b → (∀ x, x ∣ t → x ∣ b → x ≤ d) → zr_qq V U → U 223 15 = (t : Int) → U 223 16 = (b : Int) → zg_G Γ (fun _ => True) zm_Ref_gain (zg_rm 6 0 0) (zg_Ω Γ (Q) 0 0) 0 0 62 [some (zg_r Γ (223)), some (zg_i (κ)), some (zg_i (p)), some (zg_i (sl)), some (zg_i ((d : Nat)))] [] zk_K 242 (zk_P sh) (U) := by
      intro d
      induction d with
      | zero =>
        intro t b u U hd hb _ _ _ _ hx
        have := hx 1 (Nat.one_dvd _) (Nat.one_dvd _)
        omega
      | succ d ih =>
        intro t b u U hd hb ht2 hb2 hut hub hx hU u15 u16
        by_cases hd0 : d = 0
        · have hg1 : Nat.gcd t b = 1 := by
            have h1 := hx _ (Nat.gcd_dvd_left t b) (Nat.gcd_dvd_right t b)
            have h2 : 0 < Nat.gcd t b := Nat.gcd_pos_of_pos_right _ hb
            omega
          obtain ⟨r1, r2⟩ := zr_gcd_u hut hub hg1 (by omega)
          refine zg_il4 zd_Ref_gain_62 ?_
          refine zg_iconst zd_Ref_gain_64 ?_
          refine zg_icmp_le (tgt := 116) zd_Ref_gain_65 (by decide) (by omega) (by omega) (fun b65 => ?_) (fun b65 => ?_)
          · refine zg_al0 zd_Ref_gain_116 ?_
            refine zg_geti zd_Ref_gain_117 zf_656 (by omega) (by first | assumption | rfl) rfl ?_
            rw [u15]
            refine zg_i2l zd_Ref_gain_120 (by omega) ?_
            refine zg_ldc2 (4096) zd_Ref_gain_121 zw_870 (by decide) ?_
            refine zg_lmul zd_Ref_gain_124 ?_
            refine zg_al0 zd_Ref_gain_125 ?_
            refine zg_geti zd_Ref_gain_126 zf_657 (by omega) (by first | assumption | rfl) rfl ?_
            rw [u16]
            refine zg_i2l zd_Ref_gain_129 (by omega) ?_
            refine zg_ladd zd_Ref_gain_130 ?_
            refine zg_lreturn zd_Ref_gain_131 rfl ?_
            subst hQ
            refine ⟨rfl, rfl, rfl, ?_, hU⟩
            rw [if_pos hkv]
            unfold zr_gn
            rw [Int.toNat_natCast, Int.toNat_natCast, ← r1, ← r2]
          · omega
        · have ec : ((d + 1 : Nat) : Int) + -1 = (d : Int) := by omega
          have m1 : (t : Int) % ((d + 1 : Nat) : Int) = ((t % (d + 1) : Nat) : Int) := rfl
          have m2 : (b : Int) % ((d + 1 : Nat) : Int) = ((b % (d + 1) : Nat) : Int) := rfl
          have m3 : (t : Int) / ((d + 1 : Nat) : Int) = ((t / (d + 1) : Nat) : Int) := rfl
          have m4 : (b : Int) / ((d + 1 : Nat) : Int) = ((b / (d + 1) : Nat) : Int) := rfl
          have l1 : t % (d + 1) < 1025 := by have := Nat.mod_lt t (show d + 1 > 0 by omega); omega
          have l2 : b % (d + 1) < 1025 := by have := Nat.mod_lt b (show d + 1 > 0 by omega); omega
          have skip : ¬ (t % (d + 1) = 0 ∧ b % (d + 1) = 0) → zg_G Γ (fun _ => True) zm_Ref_gain (zg_rm 6 0 0) (zg_Ω Γ (Q) 0 0) 0 0 62 [some (zg_r Γ (223)), some (zg_i (κ)), some (zg_i (p)), some (zg_i (sl)), some (zg_i ((d : Nat)))] [] zk_K 242 (zk_P sh) (U) := fun h => ih t b u U (by omega) hb ht2 hb2 hut hub (fun x x1 x2 => by
            have := hx x x1 x2
            by_cases e : x = d + 1
            · subst e
              exact absurd ⟨Nat.mod_eq_zero_of_dvd x1, Nat.mod_eq_zero_of_dvd x2⟩ h
            · omega) hU u15 u16
          have u96 : ∀ x, zg_u U 223 15 x 223 16 = (b : Int) := fun x => by rw [zg_u_off _ _ _ _ (by decide)]; exact u16
          have take : t % (d + 1) = 0 → b % (d + 1) = 0 → zg_G Γ (fun _ => True) zm_Ref_gain (zg_rm 6 0 0) (zg_Ω Γ (Q) 0 0) 0 0 62 [some (zg_r Γ (223)), some (zg_i (κ)), some (zg_i (p)), some (zg_i (sl)), some (zg_i ((d : Nat)))] [] zk_K 242 (zk_P sh) (zg_u (zg_u U 223 15 ((t / (d + 1) : Nat) : Int)) 223 16 ((b / (d + 1) : Nat) : Int)) := fun a1 a2 => by
            have d1 := Nat.dvd_of_mod_eq_zero a1
            have d2 := Nat.dvd_of_mod_eq_zero a2
            have e1 : t = (d + 1) * (t / (d + 1)) := (Nat.mul_div_cancel' d1).symm
            have e2 : b = (d + 1) * (b / (d + 1)) := (Nat.mul_div_cancel' d2).symm
            have p1 : 1 ≤ b / (d + 1) := Nat.div_pos (Nat.le_of_dvd (by omega) d2) (by omega)
            have q1 : t / (d + 1) ≤ t := Nat.div_le_self _ _
            have q2 : b / (d + 1) ≤ b := Nat.div_le_self _ _
            refine ih (t / (d + 1)) (b / (d + 1)) (u * (d + 1)) _ (by omega) p1 (by omega) (by omega) (by rw [Nat.mul_assoc, ← e1]; exact hut) (by rw [Nat.mul_assoc, ← e2]; exact hub) (fun x x1 x2 => ?_) ?_ ?_ ?_
            · have y1 : (d + 1) * x ∣ t := by rw [e1]; exact Nat.mul_dvd_mul_left _ x1
              have y2 : (d + 1) * x ∣ b := by rw [e2]; exact Nat.mul_dvd_mul_left _ x2
              have y3 := hx _ y1 y2
              have y4 : x ≤ 1 := by
                rcases Nat.lt_or_ge 1 x with z | z
                · have : (d + 1) * 2 ≤ (d + 1) * x := Nat.mul_le_mul_left _ z
                  omega
                · exact z
              omega
            · refine ⟨fun b hb => by rw [zg_u_out _ _ _ _ (by omega), zg_u_out _ _ _ _ (by omega)]; exact hU.1 b hb, fun j hj => by rw [zg_u_off _ _ _ _ (by omega), zg_u_off _ _ _ _ (by omega)]; exact hU.2.1 j hj, ?_⟩
              unfold zr_sc
              rw [zg_u_off _ _ _ _ (by decide), zg_u_off _ _ _ _ (by decide), zg_u_off _ _ _ _ (by decide), zg_u_off _ _ _ _ (by decide), zg_u_off _ _ _ _ (by decide), zg_u_off _ _ _ _ (by decide)]
              exact hU.2.2
            · rw [zg_u_off _ _ _ _ (by decide), zg_u_in]
            · rw [zg_u_in]
          refine zg_il4 zd_Ref_gain_62 ?_
          refine zg_iconst zd_Ref_gain_64 ?_
          refine zg_icmp_le (tgt := 116) zd_Ref_gain_65 (by decide) (by omega) (by omega) (fun b65 => ?_) (fun b65 => ?_)
          · omega
          · refine zg_al0 zd_Ref_gain_68 ?_
            refine zg_geti zd_Ref_gain_69 zf_656 (by omega) (by first | assumption | rfl) rfl ?_
            rw [u15]
            refine zg_il4 zd_Ref_gain_72 ?_
            refine zg_irem ((t : Int) % ((d + 1 : Nat) : Int)) zd_Ref_gain_74 (by rw [zg_eq0 (by omega)]; omega) (zb_rem (by omega) (by omega) (by omega)) ?_
            rw [m1]
            refine zg_if_ne (tgt := 110) zd_Ref_gain_75 (by decide) (by omega) (fun b75 => ?_) (fun b75 => ?_)
            · refine zg_inc4 zd_Ref_gain_110 (fun w h => by cases h <;> rfl) (by decide) ?_
              rw [ec]
              refine zg_goto (tgt := 62) zd_Ref_gain_113 (by decide) ?_
              first
              | (have a1 : ¬ (t % (d + 1) = 0 ∧ b % (d + 1) = 0) := by omega
                 exact skip a1)
              | (have a1 : t % (d + 1) = 0 := by omega
                 have a2 : b % (d + 1) = 0 := by omega
                 exact take a1 a2)
            · refine zg_al0 zd_Ref_gain_78 ?_
              refine zg_geti zd_Ref_gain_79 zf_657 (by omega) (by first | assumption | rfl) rfl ?_
              rw [u16]
              refine zg_il4 zd_Ref_gain_82 ?_
              refine zg_irem ((b : Int) % ((d + 1 : Nat) : Int)) zd_Ref_gain_84 (by rw [zg_eq0 (by omega)]; omega) (zb_rem (by omega) (by omega) (by omega)) ?_
              rw [m2]
              refine zg_if_ne (tgt := 110) zd_Ref_gain_85 (by decide) (by omega) (fun b85 => ?_) (fun b85 => ?_)
              · refine zg_inc4 zd_Ref_gain_110 (fun w h => by cases h <;> rfl) (by decide) ?_
                rw [ec]
                refine zg_goto (tgt := 62) zd_Ref_gain_113 (by decide) ?_
                first
                | (have a1 : ¬ (t % (d + 1) = 0 ∧ b % (d + 1) = 0) := by omega
                   exact skip a1)
                | (have a1 : t % (d + 1) = 0 := by omega
                   have a2 : b % (d + 1) = 0 := by omega
                   exact take a1 a2)
              · refine zg_al0 zd_Ref_gain_88 ?_
                refine zg_al0 zd_Ref_gain_89 ?_
                refine zg_geti zd_Ref_gain_90 zf_656 (by omega) (by first | assumption | rfl) rfl ?_
                rw [u15]
                refine zg_il4 zd_Ref_gain_93 ?_
                refine zg_idiv ((t : Int) / ((d + 1 : Nat) : Int)) zd_Ref_gain_95 (by rw [zg_eq0 (by omega)]; omega) (zb_div (by omega) (by omega) (by omega)) ?_
                rw [m3]
                refine zg_puti zd_Ref_gain_96 zf_656 rfl (by omega) (by first | assumption | rfl) rfl ?_
                refine zg_al0 zd_Ref_gain_99 ?_
                refine zg_al0 zd_Ref_gain_100 ?_
                refine zg_geti zd_Ref_gain_101 zf_657 (by omega) (by first | assumption | rfl) rfl ?_
                rw [u96]
                refine zg_il4 zd_Ref_gain_104 ?_
                refine zg_idiv ((b : Int) / ((d + 1 : Nat) : Int)) zd_Ref_gain_106 (by rw [zg_eq0 (by omega)]; omega) (zb_div (by omega) (by omega) (by omega)) ?_
                rw [m4]
                refine zg_puti zd_Ref_gain_107 zf_657 rfl (by omega) (by first | assumption | rfl) rfl ?_
                refine zg_inc4 zd_Ref_gain_110 (fun w h => by cases h <;> rfl) (by decide) ?_
                rw [ec]
                refine zg_goto (tgt := 62) zd_Ref_gain_113 (by decide) ?_
                first
                | (have a1 : ¬ (t % (d + 1) = 0 ∧ b % (d + 1) = 0) := by omega
                   exact skip a1)
                | (have a1 : t % (d + 1) = 0 := by omega
                   have a2 : b % (d + 1) = 0 := by omega
                   exact take a1 a2)
    have g15 : zr_g V1 (T' : Int) (B' : Int) 223 15 = (T' : Int) := by unfold zr_g; rw [zg_u_off _ _ _ _ (by decide), zg_u_in]
    have g16 : zr_g V1 (T' : Int) (B' : Int) 223 16 = (B' : Int) := by unfold zr_g; rw [zg_u_in]
    have gq : zr_qq V (zr_g V1 (T' : Int) (B' : Int)) := by
      unfold zr_g
      refine ⟨fun b hb => by rw [zg_u_out _ _ _ _ (by omega), zg_u_out _ _ _ _ (by omega)]; exact hV1.1 b hb, fun j hj => by rw [zg_u_off _ _ _ _ (by omega), zg_u_off _ _ _ _ (by omega)]; exact hV1.2.1 j hj, ?_⟩
      unfold zr_sc
      rw [zg_u_off _ _ _ _ (by decide), zg_u_off _ _ _ _ (by decide), zg_u_off _ _ _ _ (by decide), zg_u_off _ _ _ _ (by decide), zg_u_off _ _ _ _ (by decide), zg_u_off _ _ _ _ (by decide)]
      exact hV1.2.2
    have start := loop B' T' B' 1 (zr_g V1 (T' : Int) (B' : Int)) (by omega) (by omega) (by omega) (by omega) (by omega) (by omega) (fun x _ x2 => Nat.le_of_dvd (by omega) x2) gq g15 g16
    refine zg_al0 zd_Ref_gain_11 ?_
    refine zg_al0 zd_Ref_gain_12 ?_
    refine zg_getr zd_Ref_gain_13 zf_650 (by omega) (by first | assumption | rfl) rfl (by first | assumption | rfl) ?_
    refine zg_il1 zd_Ref_gain_16 ?_
    refine zg_iald zd_Ref_gain_17 (by omega) (by first | assumption | rfl) rfl (by omega) (by decide) ?_
    rw [w9]
    refine zg_al0 zd_Ref_gain_18 ?_
    refine zg_getr zd_Ref_gain_19 zf_651 (by omega) (by first | assumption | rfl) rfl (by first | assumption | rfl) ?_
    refine zg_il1 zd_Ref_gain_22 ?_
    refine zg_iald zd_Ref_gain_23 (by omega) (by first | assumption | rfl) rfl (by omega) (by decide) ?_
    rw [w0]
    refine zg_cVp2 zd_Ref_gain_24 zM_Ref_present zw_788 zi_Ref_present zs_Ref_present (cr_present s2 f2 hT1) (by decide) (by decide) (by omega) (by first | assumption | rfl) (by decide) rfl (Nat.le_of_ble_eq_true rfl) ?_
    rw [hva, hps]
    refine zg_is2 zd_Ref_gain_27 (fun w h => by cases h <;> rfl) (by decide) ?_
    refine zg_al0 zd_Ref_gain_28 ?_
    refine zg_il2 zd_Ref_gain_29 ?_
    refine zg_al0 zd_Ref_gain_30 ?_
    refine zg_getr zd_Ref_gain_31 zf_651 (by omega) (by first | assumption | rfl) rfl (by first | assumption | rfl) ?_
    refine zg_il1 zd_Ref_gain_34 ?_
    refine zg_iald zd_Ref_gain_35 (by omega) (by first | assumption | rfl) rfl (by omega) (by decide) ?_
    rw [w0]
    refine zg_al0 zd_Ref_gain_36 ?_
    refine zg_getr zd_Ref_gain_37 zf_652 (by omega) (by first | assumption | rfl) rfl (by first | assumption | rfl) ?_
    refine zg_il1 zd_Ref_gain_40 ?_
    refine zg_iald zd_Ref_gain_41 (by omega) (by first | assumption | rfl) rfl (by omega) (by decide) ?_
    rw [w1]
    refine zg_cVp3 zd_Ref_gain_42 zM_Ref_upTo zw_804 zi_Ref_upTo zs_Ref_upTo (cr_upTo hp16 f2 f3 hT1) (by decide) (by decide) (by omega) (by first | assumption | rfl) (by decide) rfl (Nat.le_of_ble_eq_true rfl) ?_
    rw [hva, hsl]
    refine zg_is3 zd_Ref_gain_45 (fun w h => by cases h <;> rfl) (by decide) ?_
    refine zg_al0 zd_Ref_gain_46 ?_
    refine zg_il3 zd_Ref_gain_47 ?_
    refine zg_il2 zd_Ref_gain_48 ?_
    refine zg_il3 zd_Ref_gain_49 ?_
    refine zg_iconst zd_Ref_gain_50 ?_
    refine zg_ixorR zd_Ref_gain_51 ?_
    refine zg_iand ((zb_df p sl : Nat) : Int) zd_Ref_gain_52 (zb_andnot _ _) ?_
    refine zg_cVq2 zd_Ref_gain_53 zM_Ref_gainOf zw_812 zi_Ref_gainOf zs_Ref_gainOf (cr_gain hsl16 (zr_df16 hp16 _) hT1 hcr1 hcrb hun) (by decide) (by decide) (by omega) (by first | assumption | rfl) (by decide) rfl (Nat.le_of_ble_eq_true rfl) ?_
    rw [h5, h6, hTe, hBe]
    refine zg_al0 zd_Ref_gain_56 ?_
    refine zg_geti zd_Ref_gain_57 zf_657 (by omega) (by first | assumption | rfl) rfl ?_
    rw [g16]
    refine zg_is4 zd_Ref_gain_60 (fun w h => by cases h <;> rfl) (by decide) ?_
    exact start
  refine zg_al0 zd_Ref_gain_0 ?_
  refine zg_il1 zd_Ref_gain_1 ?_
  refine zg_cVr1 zd_Ref_gain_2 zM_Ref_kind zw_860 zi_Ref_kind zs_Ref_kind (cr_kind hk hI) (by decide) (by decide) (by omega) (by first | assumption | rfl) (by decide) rfl (Nat.le_of_ble_eq_true rfl) ?_
  intro r V1 hq
  obtain ⟨rfl, q1⟩ := hq
  refine zg_iconst zd_Ref_gain_5 ?_
  refine zg_icmp_eq (tgt := 11) zd_Ref_gain_6 (by decide) (by omega) (by omega) (fun b6 => ?_) (fun b6 => ?_)
  · exact rest V1 q1 (by omega)
  · refine zg_lconst (z := 0) zd_Ref_gain_9 rfl ?_
    refine zg_lreturn zd_Ref_gain_10 rfl ?_
    subst hQ
    exact ⟨rfl, rfl, rfl, by rw [if_neg (by omega)], zr_qq_k hsc q1⟩
end ZT38

