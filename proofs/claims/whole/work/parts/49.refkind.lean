/-! the reference: the kind of a node -/
def zr_er (V : zg_V) (n : Nat) (sr : Nat → Nat) : Nat → Int := fun k => if 0 < V 228 k then zr_ek V n (sr k) else 0
def zr_sp (V : zg_V) : Nat → Bool := fun k => decide (V 228 k = 3)
def zr_kd (V : zg_V) : Nat → Int := fun k => V 228 k - 1
/-- what the reference keeps to between two questions -/
def zr_In (V : zg_V) (n : Nat) (sr : Nat → Nat) : Prop := (∀ k, k < 32 → V 229 k = (sr k : Int) ∧ sr k < 65536) ∧ (∀ k, k < 32 → 0 ≤ V 228 k ∧ V 228 k ≤ 3) ∧ (∀ k, k < 32 → V 228 k = 3 → k < 16) ∧ zr_T V n ∧ (V 223 12 = 0 ∨ V 223 12 = 1) ∧ (V 223 12 = 1 → (0 ≤ V 223 13 ∧ V 223 13 ≤ 1000) ∧ (0 ≤ V 223 14 ∧ V 223 14 ≤ 1000) ∧ ∀ k, 1 ≤ k → k < 32 → V 228 k ≠ 1)
def zr_kv (V : zg_V) (n : Nat) (sr : Nat → Nat) (k : Int) : Int := if 1 ≤ k ∧ k < 32 then (if V 223 12 = 1 then zc_sh (zr_er V n sr) (zr_sp V) (zr_kd V) (V 223 13) (V 223 14) k.toNat else zr_kd V k.toNat) else -1
theorem zr_shr1 {k : Nat} (hk : k < 64) : Int32.ofInt ((k : Nat) : Int) >>> (Int32.ofInt 1 &&& 31) = Int32.ofInt ((k / 2 : Nat) : Int) := by
  have := zb_shr (s := k) (r := 1) (by omega) (by decide)
  rw [Nat.shiftRight_eq_div_pow] at this
  exact this
theorem zt_do_f (f : Nat → Int) (k : Nat) : zt_do f k = f k ∨ zt_do f k = -1 := by
  by_cases h : k < 2
  · exact Or.inl (zt_do_1 f h)
  · by_cases h2 : zt_do f (k / 2) = 2
    · exact Or.inl (zt_do_2 f h h2)
    · exact Or.inr (zt_do_3 f h h2)
section ZT33
variable {Γ : zg_C} {V : zg_V} {sh : Nat}
theorem cr_kind {n : Nat} {sr : Nat → Nat} {k : Int} (hk : -2147483648 ≤ k ∧ k < 2147483648) (hI : zr_In V n sr) : zg_S Γ zm_Ref_kind 5 0 0 [zg_r Γ 223, zg_i k] zk_K 242 (zk_P sh) V (zq_r zk_K 242 (zk_P sh) (fun rr V' => rr = some (zg_i (zr_kv V n sr k)) ∧ zv_on (fun b => 236 ≤ b ∧ b ≤ 239) V V')) := by
  obtain ⟨hsr, hst, hS16, hT, h12, hcut⟩ := hI
  generalize hQ : zq_r zk_K 242 (zk_P sh) (fun rr V' => rr = some (zg_i (zr_kv V n sr k)) ∧ zv_on (fun b => 236 ≤ b ∧ b ≤ 239) V V') = Q
  have ret : ∀ (W : zg_V) (x : Int), zv_on (fun b => 236 ≤ b ∧ b ≤ 239) V W → x = zr_kv V n sr k → Q (some (zg_i x)) zk_K 242 (zk_P sh) W := by
    intro W x hW hx
    subst hQ
    exact ⟨rfl, rfl, rfl, by rw [hx], hW⟩
  refine zg_enter 1 (by decide) (Nat.le_of_ble_eq_true rfl) rfl ?_
  by_cases hin : 1 ≤ k ∧ k < 32
  · obtain ⟨κ, hκ⟩ : ∃ κ : Nat, k = (κ : Int) := ⟨k.toNat, by omega⟩
    subst hκ
    have hk1 : 1 ≤ κ := by omega
    have hk2 : κ < 32 := by omega
    have hkv : zr_kv V n sr (κ : Int) = if V 223 12 = 1 then zc_sh (zr_er V n sr) (zr_sp V) (zr_kd V) (V 223 13) (V 223 14) κ else zr_kd V κ := by unfold zr_kv; rw [if_pos hin]; rfl
    have hsk := hst κ hk2
    have hspS : ∀ k, zr_sp V k = true ↔ V 228 k = 3 := fun k => ⟨fun h => of_decide_eq_true h, fun h => decide_eq_true h⟩
    have absent : V 228 κ = 0 → zr_kv V n sr (κ : Int) = -1 := fun h => by
      rw [hkv]
      split
      · have hf : zc_kk (zr_er V n sr) (zr_sp V) (zr_kd V) (V 223 13) (V 223 14) κ = -1 := by
          unfold zc_kk
          have : zc_kb (zr_er V n sr) (zr_sp V) (V 223 13) (V 223 14) κ = false := by
            unfold zc_kb
            rw [show zr_sp V κ = false from decide_eq_false (by omega), Bool.false_and, Bool.and_false]
          have h2 : zr_kd V κ = -1 := by unfold zr_kd; omega
          rw [this, if_neg (by decide), if_neg (by omega), h2]
        rcases zt_do_f (zc_kk (zr_er V n sr) (zr_sp V) (zr_kd V) (V 223 13) (V 223 14)) κ with q | q
        · unfold zc_sh; rw [q, hf]
        · exact q
      · unfold zr_kd; omega
    have cut : V 223 12 = 1 → ¬ V 228 κ = 0 → zg_G Γ (fun _ => True) zm_Ref_kind (zg_rm 5 0 0) (zg_Ω Γ (Q) 0 0) 0 0 38 [some (zg_r Γ (223)), some (zg_i (κ)), none] [] zk_K 242 (zk_P sh) (V) := by
      intro hc hpr
      obtain ⟨hp, hq, hw⟩ := hcut hc
      generalize hpp : V 223 13 = p at *
      generalize hqq : V 223 14 = q at *
      have rest : ∀ V1 : zg_V, zv_on (fun b => b = 236) V V1 → (∀ k, 1 ≤ k → k < 32 → V1 236 k = zr_er V n sr k) → zg_G Γ (fun _ => True) zm_Ref_kind (zg_rm 5 0 0) (zg_Ω Γ (Q) 0 0) 0 0 42 [some (zg_r Γ (223)), some (zg_i (κ)), none] [] zk_K 242 (zk_P sh) (V1) := by
        intro V1 h1 h1e
        have e8 : V1 228 = V 228 := h1 228 (by decide)
        have v13 : V1 223 13 = p := by rw [h1 223 (by decide)]; exact hpp
        have v14 : V1 223 14 = q := by rw [h1 223 (by decide)]; exact hqq
        have heb : ∀ k, 1 ≤ k → k < 32 → 0 ≤ V1 236 k ∧ V1 236 k ≤ 16 := fun k a b => by
          rw [h1e k a b]
          unfold zr_er
          split
          · exact zr_ek_b hT _
          · omega
        have hce : zc_e (V1 236) (zr_sp V) (zr_er V n sr) (zr_sp V) := fun k a b => ⟨h1e k a b, rfl, fun h => hS16 k b ((hspS k).mp h)⟩
        have hsh := zc_sh_c hce (kd := zr_kd V) (kd' := zr_kd V) (fun k _ _ => rfl) p q κ hk1 hk2
        have hkv2 : zr_kv V n sr (κ : Int) = zt_do (zc_kk (V1 236) (zr_sp V) (zr_kd V) p q) κ := by rw [hkv, if_pos hc, ← hsh]; rfl
        generalize hf : zc_kk (V1 236) (zr_sp V) (zr_kd V) p q = f at hkv2
        have hf2 : ∀ m, zc_kb (V1 236) (zr_sp V) p q m = true → f m = 2 := fun m h => by rw [← hf]; unfold zc_kk; rw [h, if_pos rfl]
        have hf1 : ∀ m, 1 ≤ m → m < 32 → zc_kb (V1 236) (zr_sp V) p q m = false → f m ≠ 2 := fun m m1 m2 h => by
          rw [← hf]
          unfold zc_kk
          rw [h, if_neg (by decide)]
          split
          · omega
          · assumption
        have loop : ∀ (V2 : zg_V), zv_on (fun b => 237 ≤ b ∧ b ≤ 239) V1 V2 → (∀ k, 1 ≤ k → k < 32 → V2 239 k = zg_b (zc_kb (V1 236) (zr_sp V) p q k)) → ∀ (g m : Nat), m ≤ g → m < 32 → (1 ≤ m → zt_do f m ≠ 2 → zt_do f κ = -1) → ((m = 0 ∨ zt_do f m = 2) → zt_do f κ = f κ) → zg_G Γ (fun _ => True) zm_Ref_kind (zg_rm 5 0 0) (zg_Ω Γ (Q) 0 0) 0 0 59 [some (zg_r Γ (223)), some (zg_i (κ)), some (zg_i ((m : Nat)))] [] zk_K 242 (zk_P sh) (V2) := by
          intro V2 h2 h2k g
          have hfr : zv_on (fun b => 236 ≤ b ∧ b ≤ 239) V V2 := fun b hb => by rw [h2 b (by omega)]; exact h1 b (by omega)
          have done : ∀ m, m = 0 → ((m = 0 ∨ zt_do f m = 2) → zt_do f κ = f κ) → zg_G Γ (fun _ => True) zm_Ref_kind (zg_rm 5 0 0) (zg_Ω Γ (Q) 0 0) 0 0 81 [some (zg_r Γ (223)), some (zg_i (κ)), some (zg_i ((m : Nat)))] [] zk_K 242 (zk_P sh) (V2) := by
            intro m hm i2
            have hx := h2k κ hk1 hk2
            have hr := i2 (Or.inl hm)
            have hw1 := hw κ hk1 hk2
            have r2 : zc_kb (V1 236) (zr_sp V) p q κ = true → (2 : Int) = zr_kv V n sr (κ : Int) := fun h => by rw [hkv2, hr, hf2 κ h]
            have r1 : zc_kb (V1 236) (zr_sp V) p q κ = false → (1 : Int) = zr_kv V n sr (κ : Int) := fun h => by
              rw [hkv2, hr, ← hf]
              unfold zc_kk zr_kd
              rw [h, if_neg (by decide)]
              split <;> omega
            refine zg_al0 zd_Ref_kind_81 ?_
            refine zg_getr zd_Ref_kind_82 zf_671 (by omega) (by first | assumption | rfl) rfl (by first | assumption | rfl) ?_
            refine zg_il1 zd_Ref_kind_85 ?_
            refine zg_zald zd_Ref_kind_86 (by omega) (by first | assumption | rfl) rfl (by omega) (by decide) ?_
            rw [hx]
            refine zg_if_eqB (tgt := 94) zd_Ref_kind_87 (by decide) (fun b87 => ?_) (fun b87 => ?_)
            · refine zg_iconst zd_Ref_kind_94 ?_
              refine zg_ireturn zd_Ref_kind_95 rfl ?_
              first
              | exact ret V2 _ hfr (r2 b87)
              | exact ret V2 _ hfr (r1 b87)
            · refine zg_iconst zd_Ref_kind_90 ?_
              refine zg_goto (tgt := 95) zd_Ref_kind_91 (by decide) ?_
              refine zg_ireturn zd_Ref_kind_95 rfl ?_
              first
              | exact ret V2 _ hfr (r2 b87)
              | exact ret V2 _ hfr (r1 b87)
          induction g with
          | zero =>
            intro m hm hm32 i1 i2
            have e : m = 0 := by omega
            have dn := done m e i2
            refine zg_il2 zd_Ref_kind_59 ?_
            refine zg_if_le (tgt := 81) zd_Ref_kind_60 (by decide) (by omega) (fun b60 => ?_) (fun b60 => ?_)
            · exact dn
            · omega
          | succ g ih =>
            intro m hm hm32 i1 i2
            by_cases e : m = 0
            · have dn := done m e i2
              refine zg_il2 zd_Ref_kind_59 ?_
              refine zg_if_le (tgt := 81) zd_Ref_kind_60 (by decide) (by omega) (fun b60 => ?_) (fun b60 => ?_)
              · exact dn
              · omega
            · have hx := h2k m (by omega) hm32
              have e76 := zr_shr1 (k := m) (by omega)
              have up : zc_kb (V1 236) (zr_sp V) p q m = true → zg_G Γ (fun _ => True) zm_Ref_kind (zg_rm 5 0 0) (zg_Ω Γ (Q) 0 0) 0 0 59 [some (zg_r Γ (223)), some (zg_i (κ)), some (zg_i ((m / 2 : Nat)))] [] zk_K 242 (zk_P sh) (V2) := fun h => by
                have h2 := hf2 m h
                refine ih (m / 2) (by omega) (by omega) (fun a b => ?_) (fun a => ?_)
                · have h3 : zt_do f m = -1 := zt_do_3 f (by omega) b
                  exact i1 (by omega) (by omega)
                · apply i2
                  right
                  rcases a with a | a
                  · rw [zt_do_1 f (by omega), h2]
                  · by_cases m2 : m < 2
                    · rw [zt_do_1 f m2, h2]
                    · rw [zt_do_2 f m2 a, h2]
              have out : zc_kb (V1 236) (zr_sp V) p q m = false → (-1 : Int) = zr_kv V n sr (κ : Int) := fun h => by
                rw [hkv2, i1 (by omega) ?_]
                have h1 := hf1 m (by omega) hm32 h
                rcases zt_do_f f m with a | a <;> omega
              refine zg_il2 zd_Ref_kind_59 ?_
              refine zg_if_le (tgt := 81) zd_Ref_kind_60 (by decide) (by omega) (fun b60 => ?_) (fun b60 => ?_)
              · omega
              · refine zg_al0 zd_Ref_kind_63 ?_
                refine zg_getr zd_Ref_kind_64 zf_671 (by omega) (by first | assumption | rfl) rfl (by first | assumption | rfl) ?_
                refine zg_il2 zd_Ref_kind_67 ?_
                refine zg_zald zd_Ref_kind_68 (by omega) (by first | assumption | rfl) rfl (by omega) (by decide) ?_
                rw [hx]
                refine zg_if_neB (tgt := 74) zd_Ref_kind_69 (by decide) (fun b69 => ?_) (fun b69 => ?_)
                · refine zg_il2 zd_Ref_kind_74 ?_
                  refine zg_iconst zd_Ref_kind_75 ?_
                  refine zg_ishr ((m / 2 : Nat) : Int) zd_Ref_kind_76 e76 ?_
                  refine zg_is2 zd_Ref_kind_77 (fun w h => by cases h <;> rfl) (by decide) ?_
                  refine zg_goto (tgt := 59) zd_Ref_kind_78 (by decide) ?_
                  exact up b69
                · refine zg_iconst zd_Ref_kind_72 ?_
                  refine zg_ireturn zd_Ref_kind_73 rfl ?_
                  exact ret V2 _ hfr (out b69)
        have e57 := zr_shr1 (k := κ) (by omega)
        have st : ∀ (V2 : zg_V), zv_on (fun b => 237 ≤ b ∧ b ≤ 239) V1 V2 → (∀ k, 1 ≤ k → k < 32 → V2 239 k = zg_b (zc_kb (V1 236) (zr_sp V) p q k)) → zg_G Γ (fun _ => True) zm_Ref_kind (zg_rm 5 0 0) (zg_Ω Γ (Q) 0 0) 0 0 59 [some (zg_r Γ (223)), some (zg_i (κ)), some (zg_i ((κ / 2 : Nat)))] [] zk_K 242 (zk_P sh) (V2) := fun V2 a b => by
          refine loop V2 a b 32 (κ / 2) (by omega) (by omega) (fun c d => zt_do_3 f (by omega) d) (fun c => ?_)
          by_cases k2 : κ < 2
          · exact zt_do_1 f k2
          · rcases c with c | c
            · omega
            · exact zt_do_2 f k2 c
        refine zg_al0 zd_Ref_kind_42 ?_
        refine zg_al0 zd_Ref_kind_43 ?_
        refine zg_geti zd_Ref_kind_44 zf_654 (by omega) (by first | assumption | rfl) rfl ?_
        rw [v13]
        refine zg_al0 zd_Ref_kind_47 ?_
        refine zg_geti zd_Ref_kind_48 zf_655 (by omega) (by first | assumption | rfl) rfl ?_
        rw [v14]
        refine zg_cVr2 zd_Ref_kind_51 zM_Ref_shape zw_852 zi_Ref_shape zs_Ref_shape (cr_shape (S := zr_sp V) (by rw [e8]; exact hspS) (by rw [e8]; exact hS16) (by rw [e8]; exact hst) heb (by omega) (by omega)) (by decide) (by decide) (by omega) (by first | assumption | rfl) (by decide) rfl (Nat.le_of_ble_eq_true rfl) ?_
        intro r V2 hq
        obtain ⟨rfl, q1, q2⟩ := hq
        refine zg_pop zd_Ref_kind_54 rfl ?_
        refine zg_il1 zd_Ref_kind_55 ?_
        refine zg_iconst zd_Ref_kind_56 ?_
        refine zg_ishr ((κ / 2 : Nat) : Int) zd_Ref_kind_57 e57 ?_
        refine zg_is2 zd_Ref_kind_58 (fun w h => by cases h <;> rfl) (by decide) ?_
        exact st V2 q1 (fun k a b => (q2 k a b).1)
      refine zg_al0 zd_Ref_kind_38 ?_
      refine zg_cVr0 zd_Ref_kind_39 zM_Ref_findErrors zw_844 zi_Ref_findErrors zs_Ref_findErrors (cr_findErrors hsr hst hT) (by decide) (by decide) (by omega) (by first | assumption | rfl) (by decide) rfl (Nat.le_of_ble_eq_true rfl) ?_
      intro r V1 hq
      obtain ⟨rfl, q1, q2⟩ := hq
      exact rest V1 q1 q2
    refine zg_il1 zd_Ref_kind_0 ?_
    refine zg_iconst zd_Ref_kind_1 ?_
    refine zg_icmp_lt (tgt := 20) zd_Ref_kind_2 (by decide) (by omega) (by omega) (fun b2 => ?_) (fun b2 => ?_)
    · refine zg_iconst zd_Ref_kind_20 ?_
      refine zg_ireturn zd_Ref_kind_21 rfl ?_
      first
      | (exfalso; omega)
      | exact ret V _ (fun b _ => rfl) (absent (by omega)).symm
      | (refine ret V _ (fun b _ => rfl) ?_
         rw [hkv, if_neg (by omega)]
         rfl)
    · refine zg_il1 zd_Ref_kind_5 ?_
      refine zg_bipush zd_Ref_kind_6 (by decide) ?_
      refine zg_icmp_gt (tgt := 20) zd_Ref_kind_8 (by decide) (by omega) (by omega) (fun b8 => ?_) (fun b8 => ?_)
      · refine zg_iconst zd_Ref_kind_20 ?_
        refine zg_ireturn zd_Ref_kind_21 rfl ?_
        first
        | (exfalso; omega)
        | exact ret V _ (fun b _ => rfl) (absent (by omega)).symm
        | (refine ret V _ (fun b _ => rfl) ?_
           rw [hkv, if_neg (by omega)]
           rfl)
      · refine zg_al0 zd_Ref_kind_11 ?_
        refine zg_getr zd_Ref_kind_12 zf_649 (by omega) (by first | assumption | rfl) rfl (by first | assumption | rfl) ?_
        refine zg_il1 zd_Ref_kind_15 ?_
        refine zg_iald zd_Ref_kind_16 (by omega) (by first | assumption | rfl) rfl (by omega) (by decide) ?_
        refine zg_if_ne (tgt := 22) zd_Ref_kind_17 (by decide) (by omega) (fun b17 => ?_) (fun b17 => ?_)
        · refine zg_al0 zd_Ref_kind_22 ?_
          refine zg_getz zd_Ref_kind_23 zf_653 (by omega) (by first | assumption | rfl) rfl ?_
          refine zg_if_ne (tgt := 38) zd_Ref_kind_26 (by decide) (by omega) (fun b26 => ?_) (fun b26 => ?_)
          · exact cut (by omega) (by omega)
          · refine zg_al0 zd_Ref_kind_29 ?_
            refine zg_getr zd_Ref_kind_30 zf_649 (by omega) (by first | assumption | rfl) rfl (by first | assumption | rfl) ?_
            refine zg_il1 zd_Ref_kind_33 ?_
            refine zg_iald zd_Ref_kind_34 (by omega) (by first | assumption | rfl) rfl (by omega) (by decide) ?_
            refine zg_iconst zd_Ref_kind_35 ?_
            refine zg_isub zd_Ref_kind_36 ?_
            refine zg_ireturn zd_Ref_kind_37 rfl ?_
            first
            | (exfalso; omega)
            | exact ret V _ (fun b _ => rfl) (absent (by omega)).symm
            | (refine ret V _ (fun b _ => rfl) ?_
               rw [hkv, if_neg (by omega)]
               rfl)
        · refine zg_iconst zd_Ref_kind_20 ?_
          refine zg_ireturn zd_Ref_kind_21 rfl ?_
          first
          | (exfalso; omega)
          | exact ret V _ (fun b _ => rfl) (absent (by omega)).symm
          | (refine ret V _ (fun b _ => rfl) ?_
             rw [hkv, if_neg (by omega)]
             rfl)
  · have hkv : (-1 : Int) = zr_kv V n sr k := by unfold zr_kv; rw [if_neg hin]
    refine zg_il1 zd_Ref_kind_0 ?_
    refine zg_iconst zd_Ref_kind_1 ?_
    refine zg_icmp_lt (tgt := 20) zd_Ref_kind_2 (by decide) (by omega) (by omega) (fun b2 => ?_) (fun b2 => ?_)
    · refine zg_iconst zd_Ref_kind_20 ?_
      refine zg_ireturn zd_Ref_kind_21 rfl ?_
      exact ret V _ (fun b _ => rfl) hkv
    · refine zg_il1 zd_Ref_kind_5 ?_
      refine zg_bipush zd_Ref_kind_6 (by decide) ?_
      refine zg_icmp_gt (tgt := 20) zd_Ref_kind_8 (by decide) (by omega) (by omega) (fun b8 => ?_) (fun b8 => ?_)
      · refine zg_iconst zd_Ref_kind_20 ?_
        refine zg_ireturn zd_Ref_kind_21 rfl ?_
        exact ret V _ (fun b _ => rfl) hkv
      · omega
end ZT33

