/-! the reference: where a row goes -/
theorem zy_is_u {τ : zx_τ} {s f0 g : Nat} {l0 : Int} : ∀ {e e' : Option zw_E}, zy_is τ s f0 l0 g e → zy_is τ s f0 l0 g e' → e = e'
  | none, none, _, _ => rfl
  | none, some x, h, h' => by
    have h1 := h x.2.1 x.2.2.1 h'.2.1
    have h2 := h'.2.2.1
    have h3 := h'.2.2.2.1
    omega
  | some x, none, h', h => by
    have h1 := h x.2.1 x.2.2.1 h'.2.1
    have h2 := h'.2.2.1
    have h3 := h'.2.2.2.1
    omega
  | some x, some y, ⟨a1, a2, a3, a4, a5⟩, ⟨c1, c2, c3, c4, c5⟩ => by
    have h1 := a5 y.2.1 y.2.2.1 c2
    have h2 := c5 x.2.1 x.2.2.1 a2
    rw [← c3] at h1
    rw [← a3] at h2
    have e4 : x.2.2.2 = y.2.2.2 := by omega
    have h1' := h1.2 e4.symm
    have h2' := h2.2 e4
    have e2 : x.2.1 = y.2.1 := by omega
    have h1'' : x.2.2.1 = false ∨ y.2.2.1 = true := by
      rcases h1' with q | q
      · omega
      · exact q.2
    have h2'' : y.2.2.1 = false ∨ x.2.2.1 = true := by
      rcases h2' with q | q
      · omega
      · exact q.2
    have e3 : x.2.2.1 = y.2.2.1 := by
      revert h1'' h2''
      generalize x.2.2.1 = p
      generalize y.2.2.1 = q
      cases p <;> cases q <;> simp
    obtain ⟨x1, x2, x3, x4⟩ := x
    obtain ⟨y1, y2, y3, y4⟩ := y
    simp only at a1 c1 e2 e3 e4
    rw [a1, c1, e2, e3, e4]
theorem zy_Ls_u {τ : zx_τ} {s f0 m : Nat} {l0 : Int} {L L' : List zw_E} (h : zy_Ls τ s f0 l0 m L) (h' : zy_Ls τ s f0 l0 m L') : L = L' := by
  obtain ⟨e, he, rfl⟩ := h
  obtain ⟨e', he', rfl⟩ := h'
  refine zy_fo_c (fun g hg => ?_)
  by_cases q : g = f0
  · rw [(he g hg).1 q, (he' g hg).1 q]
  · exact zy_is_u ((he g hg).2 q) ((he' g hg).2 q)
def zr_x (a b c : Int) : Nat → Int := fun f => if f = 0 then a else if f = 1 then b else c
/-- what goes left at a node of the reference -/
def zr_lean (τ : zx_τ) (s f0 : Nat) (l0 : Int) : Bool := decide (zx_R τ s f0 l0 ≤ zx_L τ s f0 l0)
section ZT25
variable {Γ : zg_C} {V : zg_V} {sh : Nat}
theorem cr_goes {k s n f0 : Nat} {l0 a b c : Int} (hk : k < 32) (hs : s < 65536) (hs0 : V 229 k = (s : Int)) (hf0 : V 230 k = (f0 : Int)) (hf03 : f0 < 3) (hl0 : V 231 k = l0) (hl0b : -2147483648 ≤ l0 ∧ l0 < 2147483648) (h24 : -2147483648 ≤ V 223 24 ∧ V 223 24 < 2147483648) (h25 : 0 ≤ V 223 25 ∧ V 223 25 ≤ 1) (hT : zr_T V n) (ha : -2147483648 ≤ a ∧ a < 2147483648) (hb : -2147483648 ≤ b ∧ b < 2147483648) (hc : -2147483648 ≤ c ∧ c < 2147483648) : zg_S Γ zm_Ref_goes 4 0 0 [zg_r Γ 223, zg_i k, zg_i a, zg_i b, zg_i c] zk_K 242 (zk_P sh) V (zq_r zk_K 242 (zk_P sh) (fun rr V' => (∀ L, zy_Ls (zr_τ V n) s f0 l0 3 L → rr = some (zg_i (2 * (k : Int) + zg_b (!zw_go ((f0, l0, false, 0) :: L) (zr_x a b c) (zr_lean (zr_τ V n) s f0 l0))))) ∧ zr_zi V V')) := by
  have hn16 := hT.2.1
  have hxb : ∀ f, -2147483648 ≤ zr_x a b c f ∧ zr_x a b c f < 2147483648 := fun f => by
    unfold zr_x
    split
    · exact ha
    · split
      · exact hb
      · exact hc
  have hx0 : ∀ f : Nat, (f : Int) = 0 → zr_x a b c f = a := fun f h => by unfold zr_x; rw [if_pos (by omega)]
  have hx1 : ∀ f : Nat, ¬ (f : Int) = 0 → (f : Int) = 1 → zr_x a b c f = b := fun f h h' => by unfold zr_x; rw [if_neg (by omega), if_pos (by omega)]
  have hx2 : ∀ f : Nat, ¬ (f : Int) = 0 → ¬ (f : Int) = 1 → zr_x a b c f = c := fun f h h' => by unfold zr_x; rw [if_neg (by omega), if_neg (by omega)]
  generalize hQ : zq_r zk_K 242 (zk_P sh) (fun rr V' => (∀ L, zy_Ls (zr_τ V n) s f0 l0 3 L → rr = some (zg_i (2 * (k : Int) + zg_b (!zw_go ((f0, l0, false, 0) :: L) (zr_x a b c) (zr_lean (zr_τ V n) s f0 l0))))) ∧ zr_zi V V') = Q
  have retL : ∀ (W : zg_V), zr_zi V W → (∀ L, zy_Ls (zr_τ V n) s f0 l0 3 L → zw_go ((f0, l0, false, 0) :: L) (zr_x a b c) (zr_lean (zr_τ V n) s f0 l0) = true) → Q (some (zg_i (2 * (k : Int)))) zk_K 242 (zk_P sh) W := by
    intro W hW h
    subst hQ
    refine ⟨rfl, rfl, rfl, fun L hL => ?_, hW⟩
    rw [h L hL]
    show some (zg_i (2 * (k : Int))) = some (zg_i (2 * (k : Int) + 0))
    rw [Int.add_zero]
  have retR : ∀ (W : zg_V), zr_zi V W → (∀ L, zy_Ls (zr_τ V n) s f0 l0 3 L → zw_go ((f0, l0, false, 0) :: L) (zr_x a b c) (zr_lean (zr_τ V n) s f0 l0) = false) → Q (some (zg_i (2 * (k : Int) + 1))) zk_K 242 (zk_P sh) W := by
    intro W hW h
    subst hQ
    refine ⟨rfl, rfl, rfl, fun L hL => ?_, hW⟩
    rw [h L hL]
    rfl
  refine zg_enter 6 (by decide) (Nat.le_of_ble_eq_true rfl) rfl ?_
  have c29 : ∀ v, v = zr_x a b c f0 → zg_G Γ (fun _ => True) zm_Ref_goes (zg_rm 4 0 0) (zg_Ω Γ (Q) 0 0) 0 0 29 [some (zg_r Γ (223)), some (zg_i (k)), some (zg_i (a)), some (zg_i (b)), some (zg_i (c)), some (zg_i (f0)), none, none, none, none, none] [(zg_i (v))] zk_K 242 (zk_P sh) (V) := by
    intro v hv
    have hvb := hxb f0
    rw [← hv] at hvb
    have hVV : zr_zi V V := ⟨fun b _ => rfl, fun j _ => rfl, h24, h25⟩
    have d1 : ¬ v = -2147483648 → ∀ L : List zw_E, zw_go ((f0, l0, false, 0) :: L) (zr_x a b c) (zr_lean (zr_τ V n) s f0 l0) = decide (v ≤ l0) := fun h L => by
      have := zw_go_drop (L := (f0, l0, false, 0) :: L) (i := 0) (e := (f0, l0, false, 0)) rfl (zr_x a b c) (zr_lean (zr_τ V n) s f0 l0)
      rw [List.drop_zero] at this
      rw [this]
      simp only [← hv]
      rw [if_neg h]
      cases decide (v ≤ l0) <;> rfl
    have d2 : v = -2147483648 → ∀ L : List zw_E, zw_go ((f0, l0, false, 0) :: L) (zr_x a b c) (zr_lean (zr_τ V n) s f0 l0) = zw_go L (zr_x a b c) (zr_lean (zr_τ V n) s f0 l0) := fun h L => by
      have := zw_go_drop (L := (f0, l0, false, 0) :: L) (i := 0) (e := (f0, l0, false, 0)) rfl (zr_x a b c) (zr_lean (zr_τ V n) s f0 l0)
      rw [List.drop_zero] at this
      rw [this]
      simp only [← hv]
      rw [if_pos h]
      rfl
    have loop : v = -2147483648 → ∀ (U : zg_V) (L : List zw_E) (hU : zr_zi V U) (hL : zr_ls U L) (hLs : zy_Ls (zr_τ V n) s f0 l0 3 L) (j i : Nat) (o8 o9 o10 : Option Value) (hij : i + j = L.length) (hgo : zw_go ((f0, l0, false, 0) :: L) (zr_x a b c) (zr_lean (zr_τ V n) s f0 l0) = zw_go (L.drop i) (zr_x a b c) (zr_lean (zr_τ V n) s f0 l0)), zg_G Γ (fun _ => True) zm_Ref_goes (zg_rm 4 0 0) (zg_Ω Γ (Q) 0 0) 0 0 69 [some (zg_r Γ (223)), some (zg_i (k)), some (zg_i (a)), some (zg_i (b)), some (zg_i (c)), some (zg_i (f0)), some (zg_i (v)), some (zg_i ((i : Nat))), o8, o9, o10] [] zk_K 242 (zk_P sh) (U) := by
      intro hvm U L hU hL hLs j
      have hLl := hL.2.1
      have hcnt := hL.1
      have hx : ∀ b, b ≠ 223 → b < 232 → U b = V b := fun b h1 h2 => hU.1 b (by omega)
      have hTU : zr_T U n := zr_T_fr (fun b h1 h2 => hx b h1 (by omega)) (hU.2.1 0 (by omega)) hT
      have hva : zr_va U = zr_va V := by unfold zr_va; rw [hx 224 (by decide) (by decide)]
      have h226 : U 226 = V 226 := hx 226 (by decide) (by decide)
      have ws0 : U 229 k = (s : Int) := by rw [hx 229 (by decide) (by decide)]; exact hs0
      have wl0 : U 231 k = l0 := by rw [hx 231 (by decide) (by decide)]; exact hl0
      have retL' : ∀ β, zw_go ((f0, l0, false, 0) :: L) (zr_x a b c) (zr_lean (zr_τ V n) s f0 l0) = β → β = true → Q (some (zg_i (2 * (k : Int)))) zk_K 242 (zk_P sh) U := fun β e h => retL U hU (fun L' hL' => by rw [zy_Ls_u hL' hLs, e, h])
      have retR' : ∀ β, zw_go ((f0, l0, false, 0) :: L) (zr_x a b c) (zr_lean (zr_τ V n) s f0 l0) = β → β = false → Q (some (zg_i (2 * (k : Int) + 1))) zk_K 242 (zk_P sh) U := fun β e h => retR U hU (fun L' hL' => by rw [zy_Ls_u hL' hLs, e, h])
      induction j with
      | zero =>
        intro i o8 o9 o10 hij hgo
        have e : i = L.length := by omega
        subst e
        rw [List.drop_length] at hgo
        have hgo : zw_go ((f0, l0, false, 0) :: L) (zr_x a b c) (zr_lean (zr_τ V n) s f0 l0) = zr_lean (zr_τ V n) s f0 l0 := hgo
        have hps : zt_pres (zr_va V) s f0 n = zx_ps (zr_τ V n) s f0 := rfl
        generalize hp : zx_ps (zr_τ V n) s f0 = p at hps
        have hp16 : p < 65536 := by rw [← hp]; exact zt_mk16 hn16
        generalize hsl : zt_upto (zr_va V) p f0 l0 n = sl
        have hsl16 : sl < 65536 := by rw [← hsl]; exact zt_mk16 hn16
        have hL1 : zt_w (V 226) sl n = zx_L (zr_τ V n) s f0 l0 := by rw [← hsl, ← hp]; rfl
        have hR1 : zt_w (V 226) (zb_df p sl) n = zx_R (zr_τ V n) s f0 l0 := by rw [← hsl, ← hp]; rfl
        have hTB := zr_TB hT 0 s f0 l0
        have q1 : zx_R (zr_τ V n) s f0 l0 ≤ zx_L (zr_τ V n) s f0 l0 → zr_lean (zr_τ V n) s f0 l0 = true := fun h => decide_eq_true h
        have q2 : zx_L (zr_τ V n) s f0 l0 < zx_R (zr_τ V n) s f0 l0 → zr_lean (zr_τ V n) s f0 l0 = false := fun h => decide_eq_false (by omega)
        refine zg_il7 zd_Ref_goes_69 ?_
        refine zg_al0 zd_Ref_goes_71 ?_
        refine zg_geti zd_Ref_goes_72 zf_660 (by omega) (by first | assumption | rfl) rfl ?_
        rw [hcnt]
        refine zg_icmp_ge (tgt := 183) zd_Ref_goes_75 (by decide) (by omega) (by omega) (fun b75 => ?_) (fun b75 => ?_)
        · refine zg_al0 zd_Ref_goes_183 ?_
          refine zg_al0 zd_Ref_goes_184 ?_
          refine zg_getr zd_Ref_goes_185 zf_650 (by omega) (by first | assumption | rfl) rfl (by first | assumption | rfl) ?_
          refine zg_il1 zd_Ref_goes_188 ?_
          refine zg_iald zd_Ref_goes_189 (by omega) (by first | assumption | rfl) rfl (by omega) (by decide) ?_
          rw [ws0]
          refine zg_il5 zd_Ref_goes_190 ?_
          refine zg_cVp2 zd_Ref_goes_192 zM_Ref_present zw_788 zi_Ref_present zs_Ref_present (cr_present hs hf03 hTU) (by decide) (by decide) (by omega) (by first | assumption | rfl) (by decide) rfl (Nat.le_of_ble_eq_true rfl) ?_
          rw [hva, hps]
          refine zg_is7 zd_Ref_goes_195 (fun w h => by cases h <;> rfl) (by decide) ?_
          refine zg_al0 zd_Ref_goes_197 ?_
          refine zg_il7 zd_Ref_goes_198 ?_
          refine zg_il5 zd_Ref_goes_200 ?_
          refine zg_al0 zd_Ref_goes_202 ?_
          refine zg_getr zd_Ref_goes_203 zf_652 (by omega) (by first | assumption | rfl) rfl (by first | assumption | rfl) ?_
          refine zg_il1 zd_Ref_goes_206 ?_
          refine zg_iald zd_Ref_goes_207 (by omega) (by first | assumption | rfl) rfl (by omega) (by decide) ?_
          rw [wl0]
          refine zg_cVp3 zd_Ref_goes_208 zM_Ref_upTo zw_804 zi_Ref_upTo zs_Ref_upTo (cr_upTo hp16 hf03 hl0b hTU) (by decide) (by decide) (by omega) (by first | assumption | rfl) (by decide) rfl (Nat.le_of_ble_eq_true rfl) ?_
          rw [hva, hsl]
          refine zg_is8 zd_Ref_goes_211 (fun w h => by cases h <;> rfl) (by decide) ?_
          refine zg_al0 zd_Ref_goes_213 ?_
          refine zg_il8 zd_Ref_goes_214 ?_
          refine zg_iconst zd_Ref_goes_216 ?_
          refine zg_cVp2 zd_Ref_goes_217 zM_Ref_weigh zw_808 zi_Ref_weigh zs_Ref_weigh (cr_weighA hsl16 hTU) (by decide) (by decide) (by omega) (by first | assumption | rfl) (by decide) rfl (Nat.le_of_ble_eq_true rfl) ?_
          rw [h226, hL1]
          refine zg_al0 zd_Ref_goes_220 ?_
          refine zg_il7 zd_Ref_goes_221 ?_
          refine zg_il8 zd_Ref_goes_223 ?_
          refine zg_iconst zd_Ref_goes_225 ?_
          refine zg_ixorR zd_Ref_goes_226 ?_
          refine zg_iand ((zb_df p sl : Nat) : Int) zd_Ref_goes_227 (zb_andnot _ _) ?_
          refine zg_iconst zd_Ref_goes_228 ?_
          refine zg_cVp2 zd_Ref_goes_229 zM_Ref_weigh zw_808 zi_Ref_weigh zs_Ref_weigh (cr_weighA (zr_df16 hp16 _) hTU) (by decide) (by decide) (by omega) (by first | assumption | rfl) (by decide) rfl (Nat.le_of_ble_eq_true rfl) ?_
          rw [h226, hR1]
          refine zg_icmp_lt (tgt := 241) zd_Ref_goes_232 (by decide) (by omega) (by omega) (fun b232 => ?_) (fun b232 => ?_)
          · refine zg_iconst zd_Ref_goes_241 ?_
            refine zg_il1 zd_Ref_goes_242 ?_
            refine zg_imul zd_Ref_goes_243 ?_
            refine zg_iconst zd_Ref_goes_244 ?_
            refine zg_iadd zd_Ref_goes_245 ?_
            refine zg_ireturn zd_Ref_goes_246 rfl ?_
            first
            | exact retL' _ hgo (q1 (by omega))
            | exact retR' _ hgo (q2 (by omega))
          · refine zg_iconst zd_Ref_goes_235 ?_
            refine zg_il1 zd_Ref_goes_236 ?_
            refine zg_imul zd_Ref_goes_237 ?_
            refine zg_goto (tgt := 246) zd_Ref_goes_238 (by decide) ?_
            refine zg_ireturn zd_Ref_goes_246 rfl ?_
            first
            | exact retL' _ hgo (q1 (by omega))
            | exact retR' _ hgo (q2 (by omega))
        · omega
      | succ j ih =>
        intro i o8 o9 o10 hij hgo
        obtain ⟨e, he⟩ : ∃ e, L[i]? = some e := ⟨L[i]'(by omega), List.getElem?_eq_getElem (by omega)⟩
        obtain ⟨s1, s2, s3, s4, s5, -⟩ := hL.2.2 i e he
        have hdr := zw_go_drop he (zr_x a b c) (zr_lean (zr_τ V n) s f0 l0)
        have hub := zg_b_c e.2.2.1
        have c108 : ∀ w, w = zr_x a b c e.1 → zg_G Γ (fun _ => True) zm_Ref_goes (zg_rm 4 0 0) (zg_Ω Γ (Q) 0 0) 0 0 108 [some (zg_r Γ (223)), some (zg_i (k)), some (zg_i (a)), some (zg_i (b)), some (zg_i (c)), some (zg_i (f0)), some (zg_i (v)), some (zg_i ((i : Nat))), some (zg_i (e.1)), o9, o10] [(zg_i (w))] zk_K 242 (zk_P sh) (U) := by
          intro w hw
          have hwb := hxb e.1
          rw [← hw] at hwb
          rw [← hw] at hdr
          have ih' : w = -2147483648 → ∀ o10, zg_G Γ (fun _ => True) zm_Ref_goes (zg_rm 4 0 0) (zg_Ω Γ (Q) 0 0) 0 0 69 [some (zg_r Γ (223)), some (zg_i (k)), some (zg_i (a)), some (zg_i (b)), some (zg_i (c)), some (zg_i (f0)), some (zg_i (v)), some (zg_i (((i : Nat) : Int) + 1)), some (zg_i (e.1)), some (zg_i (w)), o10] [] zk_K 242 (zk_P sh) (U) := fun h o10 => ih (i + 1) _ _ _ (by omega) (by rw [hgo, hdr, if_pos h])
          have g0 : ¬ w = -2147483648 → zw_go ((f0, l0, false, 0) :: L) (zr_x a b c) (zr_lean (zr_τ V n) s f0 l0) = (decide (w ≤ e.2.1) != e.2.2.1) := fun h => by rw [hgo, hdr, if_neg h]
          have gl : (w ≤ e.2.1 ∧ zg_b e.2.2.1 = 0) ∨ (e.2.1 < w ∧ zg_b e.2.2.1 = 1) → (decide (w ≤ e.2.1) != e.2.2.1) = true := fun h => by
            rcases hub with ⟨u1, u2⟩ | ⟨u1, u2⟩
            · rw [u1, decide_eq_true (by omega)]; rfl
            · rw [u1, decide_eq_false (by omega)]; rfl
          have gr : (e.2.1 < w ∧ zg_b e.2.2.1 = 0) ∨ (w ≤ e.2.1 ∧ zg_b e.2.2.1 = 1) → (decide (w ≤ e.2.1) != e.2.2.1) = false := fun h => by
            rcases hub with ⟨u1, u2⟩ | ⟨u1, u2⟩
            · rw [u1, decide_eq_false (by omega)]; rfl
            · rw [u1, decide_eq_true (by omega)]; rfl
          refine zg_is9 zd_Ref_goes_108 (fun w h => by cases h <;> rfl) (by decide) ?_
          refine zg_il9 zd_Ref_goes_110 ?_
          refine zg_ldc (-2147483648) zd_Ref_goes_112 zw_795 (by decide) ?_
          refine zg_icmp_eq (tgt := 177) zd_Ref_goes_114 (by decide) (by omega) (by omega) (fun b114 => ?_) (fun b114 => ?_)
          · refine zg_inc7 zd_Ref_goes_177 (fun w h => by cases h <;> rfl) (by decide) ?_
            refine zg_goto (tgt := 69) zd_Ref_goes_180 (by decide) ?_
            exact ih' b114 _
          · refine zg_il9 zd_Ref_goes_117 ?_
            refine zg_al0 zd_Ref_goes_119 ?_
            refine zg_getr zd_Ref_goes_120 zf_662 (by omega) (by first | assumption | rfl) rfl (by first | assumption | rfl) ?_
            refine zg_il7 zd_Ref_goes_123 ?_
            refine zg_iald zd_Ref_goes_125 (by omega) (by first | assumption | rfl) rfl (by omega) (by decide) ?_
            rw [s3]
            refine zg_icmp_gt (tgt := 133) zd_Ref_goes_126 (by decide) (by omega) (by omega) (fun b126 => ?_) (fun b126 => ?_)
            · refine zg_iconst zd_Ref_goes_133 ?_
              refine zg_al0 zd_Ref_goes_134 ?_
              refine zg_getr zd_Ref_goes_135 zf_663 (by omega) (by first | assumption | rfl) rfl (by first | assumption | rfl) ?_
              refine zg_il7 zd_Ref_goes_138 ?_
              refine zg_iald zd_Ref_goes_140 (by omega) (by first | assumption | rfl) rfl (by omega) (by decide) ?_
              rw [s5]
              refine zg_iconst zd_Ref_goes_141 ?_
              refine zg_icmp_ne (tgt := 149) zd_Ref_goes_142 (by decide) (by omega) (by omega) (fun b142 => ?_) (fun b142 => ?_)
              · refine zg_iconst zd_Ref_goes_149 ?_
                refine zg_icmp_eq (tgt := 157) zd_Ref_goes_150 (by decide) (by omega) (by omega) (fun b150 => ?_) (fun b150 => ?_)
                · refine zg_iconst zd_Ref_goes_157 ?_
                  refine zg_is10 zd_Ref_goes_158 (fun w h => by cases h <;> rfl) (by decide) ?_
                  refine zg_il10 zd_Ref_goes_160 ?_
                  refine zg_if_eq (tgt := 171) zd_Ref_goes_162 (by decide) (by omega) (fun b162 => ?_) (fun b162 => ?_)
                  · refine zg_iconst zd_Ref_goes_171 ?_
                    refine zg_il1 zd_Ref_goes_172 ?_
                    refine zg_imul zd_Ref_goes_173 ?_
                    refine zg_iconst zd_Ref_goes_174 ?_
                    refine zg_iadd zd_Ref_goes_175 ?_
                    refine zg_ireturn zd_Ref_goes_176 rfl ?_
                    first
                    | (exfalso; omega)
                    | exact retL' _ (g0 b114) (gl (by omega))
                    | exact retR' _ (g0 b114) (gr (by omega))
                  · refine zg_iconst zd_Ref_goes_165 ?_
                    refine zg_il1 zd_Ref_goes_166 ?_
                    refine zg_imul zd_Ref_goes_167 ?_
                    refine zg_goto (tgt := 176) zd_Ref_goes_168 (by decide) ?_
                    refine zg_ireturn zd_Ref_goes_176 rfl ?_
                    first
                    | (exfalso; omega)
                    | exact retL' _ (g0 b114) (gl (by omega))
                    | exact retR' _ (g0 b114) (gr (by omega))
                · refine zg_iconst zd_Ref_goes_153 ?_
                  refine zg_goto (tgt := 158) zd_Ref_goes_154 (by decide) ?_
                  refine zg_is10 zd_Ref_goes_158 (fun w h => by cases h <;> rfl) (by decide) ?_
                  refine zg_il10 zd_Ref_goes_160 ?_
                  refine zg_if_eq (tgt := 171) zd_Ref_goes_162 (by decide) (by omega) (fun b162 => ?_) (fun b162 => ?_)
                  · refine zg_iconst zd_Ref_goes_171 ?_
                    refine zg_il1 zd_Ref_goes_172 ?_
                    refine zg_imul zd_Ref_goes_173 ?_
                    refine zg_iconst zd_Ref_goes_174 ?_
                    refine zg_iadd zd_Ref_goes_175 ?_
                    refine zg_ireturn zd_Ref_goes_176 rfl ?_
                    first
                    | (exfalso; omega)
                    | exact retL' _ (g0 b114) (gl (by omega))
                    | exact retR' _ (g0 b114) (gr (by omega))
                  · refine zg_iconst zd_Ref_goes_165 ?_
                    refine zg_il1 zd_Ref_goes_166 ?_
                    refine zg_imul zd_Ref_goes_167 ?_
                    refine zg_goto (tgt := 176) zd_Ref_goes_168 (by decide) ?_
                    refine zg_ireturn zd_Ref_goes_176 rfl ?_
                    first
                    | (exfalso; omega)
                    | exact retL' _ (g0 b114) (gl (by omega))
                    | exact retR' _ (g0 b114) (gr (by omega))
              · refine zg_iconst zd_Ref_goes_145 ?_
                refine zg_goto (tgt := 150) zd_Ref_goes_146 (by decide) ?_
                refine zg_icmp_eq (tgt := 157) zd_Ref_goes_150 (by decide) (by omega) (by omega) (fun b150 => ?_) (fun b150 => ?_)
                · refine zg_iconst zd_Ref_goes_157 ?_
                  refine zg_is10 zd_Ref_goes_158 (fun w h => by cases h <;> rfl) (by decide) ?_
                  refine zg_il10 zd_Ref_goes_160 ?_
                  refine zg_if_eq (tgt := 171) zd_Ref_goes_162 (by decide) (by omega) (fun b162 => ?_) (fun b162 => ?_)
                  · refine zg_iconst zd_Ref_goes_171 ?_
                    refine zg_il1 zd_Ref_goes_172 ?_
                    refine zg_imul zd_Ref_goes_173 ?_
                    refine zg_iconst zd_Ref_goes_174 ?_
                    refine zg_iadd zd_Ref_goes_175 ?_
                    refine zg_ireturn zd_Ref_goes_176 rfl ?_
                    first
                    | (exfalso; omega)
                    | exact retL' _ (g0 b114) (gl (by omega))
                    | exact retR' _ (g0 b114) (gr (by omega))
                  · refine zg_iconst zd_Ref_goes_165 ?_
                    refine zg_il1 zd_Ref_goes_166 ?_
                    refine zg_imul zd_Ref_goes_167 ?_
                    refine zg_goto (tgt := 176) zd_Ref_goes_168 (by decide) ?_
                    refine zg_ireturn zd_Ref_goes_176 rfl ?_
                    first
                    | (exfalso; omega)
                    | exact retL' _ (g0 b114) (gl (by omega))
                    | exact retR' _ (g0 b114) (gr (by omega))
                · refine zg_iconst zd_Ref_goes_153 ?_
                  refine zg_goto (tgt := 158) zd_Ref_goes_154 (by decide) ?_
                  refine zg_is10 zd_Ref_goes_158 (fun w h => by cases h <;> rfl) (by decide) ?_
                  refine zg_il10 zd_Ref_goes_160 ?_
                  refine zg_if_eq (tgt := 171) zd_Ref_goes_162 (by decide) (by omega) (fun b162 => ?_) (fun b162 => ?_)
                  · refine zg_iconst zd_Ref_goes_171 ?_
                    refine zg_il1 zd_Ref_goes_172 ?_
                    refine zg_imul zd_Ref_goes_173 ?_
                    refine zg_iconst zd_Ref_goes_174 ?_
                    refine zg_iadd zd_Ref_goes_175 ?_
                    refine zg_ireturn zd_Ref_goes_176 rfl ?_
                    first
                    | (exfalso; omega)
                    | exact retL' _ (g0 b114) (gl (by omega))
                    | exact retR' _ (g0 b114) (gr (by omega))
                  · refine zg_iconst zd_Ref_goes_165 ?_
                    refine zg_il1 zd_Ref_goes_166 ?_
                    refine zg_imul zd_Ref_goes_167 ?_
                    refine zg_goto (tgt := 176) zd_Ref_goes_168 (by decide) ?_
                    refine zg_ireturn zd_Ref_goes_176 rfl ?_
                    first
                    | (exfalso; omega)
                    | exact retL' _ (g0 b114) (gl (by omega))
                    | exact retR' _ (g0 b114) (gr (by omega))
            · refine zg_iconst zd_Ref_goes_129 ?_
              refine zg_goto (tgt := 134) zd_Ref_goes_130 (by decide) ?_
              refine zg_al0 zd_Ref_goes_134 ?_
              refine zg_getr zd_Ref_goes_135 zf_663 (by omega) (by first | assumption | rfl) rfl (by first | assumption | rfl) ?_
              refine zg_il7 zd_Ref_goes_138 ?_
              refine zg_iald zd_Ref_goes_140 (by omega) (by first | assumption | rfl) rfl (by omega) (by decide) ?_
              rw [s5]
              refine zg_iconst zd_Ref_goes_141 ?_
              refine zg_icmp_ne (tgt := 149) zd_Ref_goes_142 (by decide) (by omega) (by omega) (fun b142 => ?_) (fun b142 => ?_)
              · refine zg_iconst zd_Ref_goes_149 ?_
                refine zg_icmp_eq (tgt := 157) zd_Ref_goes_150 (by decide) (by omega) (by omega) (fun b150 => ?_) (fun b150 => ?_)
                · refine zg_iconst zd_Ref_goes_157 ?_
                  refine zg_is10 zd_Ref_goes_158 (fun w h => by cases h <;> rfl) (by decide) ?_
                  refine zg_il10 zd_Ref_goes_160 ?_
                  refine zg_if_eq (tgt := 171) zd_Ref_goes_162 (by decide) (by omega) (fun b162 => ?_) (fun b162 => ?_)
                  · refine zg_iconst zd_Ref_goes_171 ?_
                    refine zg_il1 zd_Ref_goes_172 ?_
                    refine zg_imul zd_Ref_goes_173 ?_
                    refine zg_iconst zd_Ref_goes_174 ?_
                    refine zg_iadd zd_Ref_goes_175 ?_
                    refine zg_ireturn zd_Ref_goes_176 rfl ?_
                    first
                    | (exfalso; omega)
                    | exact retL' _ (g0 b114) (gl (by omega))
                    | exact retR' _ (g0 b114) (gr (by omega))
                  · refine zg_iconst zd_Ref_goes_165 ?_
                    refine zg_il1 zd_Ref_goes_166 ?_
                    refine zg_imul zd_Ref_goes_167 ?_
                    refine zg_goto (tgt := 176) zd_Ref_goes_168 (by decide) ?_
                    refine zg_ireturn zd_Ref_goes_176 rfl ?_
                    first
                    | (exfalso; omega)
                    | exact retL' _ (g0 b114) (gl (by omega))
                    | exact retR' _ (g0 b114) (gr (by omega))
                · refine zg_iconst zd_Ref_goes_153 ?_
                  refine zg_goto (tgt := 158) zd_Ref_goes_154 (by decide) ?_
                  refine zg_is10 zd_Ref_goes_158 (fun w h => by cases h <;> rfl) (by decide) ?_
                  refine zg_il10 zd_Ref_goes_160 ?_
                  refine zg_if_eq (tgt := 171) zd_Ref_goes_162 (by decide) (by omega) (fun b162 => ?_) (fun b162 => ?_)
                  · refine zg_iconst zd_Ref_goes_171 ?_
                    refine zg_il1 zd_Ref_goes_172 ?_
                    refine zg_imul zd_Ref_goes_173 ?_
                    refine zg_iconst zd_Ref_goes_174 ?_
                    refine zg_iadd zd_Ref_goes_175 ?_
                    refine zg_ireturn zd_Ref_goes_176 rfl ?_
                    first
                    | (exfalso; omega)
                    | exact retL' _ (g0 b114) (gl (by omega))
                    | exact retR' _ (g0 b114) (gr (by omega))
                  · refine zg_iconst zd_Ref_goes_165 ?_
                    refine zg_il1 zd_Ref_goes_166 ?_
                    refine zg_imul zd_Ref_goes_167 ?_
                    refine zg_goto (tgt := 176) zd_Ref_goes_168 (by decide) ?_
                    refine zg_ireturn zd_Ref_goes_176 rfl ?_
                    first
                    | (exfalso; omega)
                    | exact retL' _ (g0 b114) (gl (by omega))
                    | exact retR' _ (g0 b114) (gr (by omega))
              · refine zg_iconst zd_Ref_goes_145 ?_
                refine zg_goto (tgt := 150) zd_Ref_goes_146 (by decide) ?_
                refine zg_icmp_eq (tgt := 157) zd_Ref_goes_150 (by decide) (by omega) (by omega) (fun b150 => ?_) (fun b150 => ?_)
                · refine zg_iconst zd_Ref_goes_157 ?_
                  refine zg_is10 zd_Ref_goes_158 (fun w h => by cases h <;> rfl) (by decide) ?_
                  refine zg_il10 zd_Ref_goes_160 ?_
                  refine zg_if_eq (tgt := 171) zd_Ref_goes_162 (by decide) (by omega) (fun b162 => ?_) (fun b162 => ?_)
                  · refine zg_iconst zd_Ref_goes_171 ?_
                    refine zg_il1 zd_Ref_goes_172 ?_
                    refine zg_imul zd_Ref_goes_173 ?_
                    refine zg_iconst zd_Ref_goes_174 ?_
                    refine zg_iadd zd_Ref_goes_175 ?_
                    refine zg_ireturn zd_Ref_goes_176 rfl ?_
                    first
                    | (exfalso; omega)
                    | exact retL' _ (g0 b114) (gl (by omega))
                    | exact retR' _ (g0 b114) (gr (by omega))
                  · refine zg_iconst zd_Ref_goes_165 ?_
                    refine zg_il1 zd_Ref_goes_166 ?_
                    refine zg_imul zd_Ref_goes_167 ?_
                    refine zg_goto (tgt := 176) zd_Ref_goes_168 (by decide) ?_
                    refine zg_ireturn zd_Ref_goes_176 rfl ?_
                    first
                    | (exfalso; omega)
                    | exact retL' _ (g0 b114) (gl (by omega))
                    | exact retR' _ (g0 b114) (gr (by omega))
                · refine zg_iconst zd_Ref_goes_153 ?_
                  refine zg_goto (tgt := 158) zd_Ref_goes_154 (by decide) ?_
                  refine zg_is10 zd_Ref_goes_158 (fun w h => by cases h <;> rfl) (by decide) ?_
                  refine zg_il10 zd_Ref_goes_160 ?_
                  refine zg_if_eq (tgt := 171) zd_Ref_goes_162 (by decide) (by omega) (fun b162 => ?_) (fun b162 => ?_)
                  · refine zg_iconst zd_Ref_goes_171 ?_
                    refine zg_il1 zd_Ref_goes_172 ?_
                    refine zg_imul zd_Ref_goes_173 ?_
                    refine zg_iconst zd_Ref_goes_174 ?_
                    refine zg_iadd zd_Ref_goes_175 ?_
                    refine zg_ireturn zd_Ref_goes_176 rfl ?_
                    first
                    | (exfalso; omega)
                    | exact retL' _ (g0 b114) (gl (by omega))
                    | exact retR' _ (g0 b114) (gr (by omega))
                  · refine zg_iconst zd_Ref_goes_165 ?_
                    refine zg_il1 zd_Ref_goes_166 ?_
                    refine zg_imul zd_Ref_goes_167 ?_
                    refine zg_goto (tgt := 176) zd_Ref_goes_168 (by decide) ?_
                    refine zg_ireturn zd_Ref_goes_176 rfl ?_
                    first
                    | (exfalso; omega)
                    | exact retL' _ (g0 b114) (gl (by omega))
                    | exact retR' _ (g0 b114) (gr (by omega))
        refine zg_il7 zd_Ref_goes_69 ?_
        refine zg_al0 zd_Ref_goes_71 ?_
        refine zg_geti zd_Ref_goes_72 zf_660 (by omega) (by first | assumption | rfl) rfl ?_
        rw [hcnt]
        refine zg_icmp_ge (tgt := 183) zd_Ref_goes_75 (by decide) (by omega) (by omega) (fun b75 => ?_) (fun b75 => ?_)
        · omega
        · refine zg_al0 zd_Ref_goes_78 ?_
          refine zg_getr zd_Ref_goes_79 zf_661 (by omega) (by first | assumption | rfl) rfl (by first | assumption | rfl) ?_
          refine zg_il7 zd_Ref_goes_82 ?_
          refine zg_iald zd_Ref_goes_84 (by omega) (by first | assumption | rfl) rfl (by omega) (by decide) ?_
          rw [s1]
          refine zg_is8 zd_Ref_goes_85 (fun w h => by cases h <;> rfl) (by decide) ?_
          refine zg_il8 zd_Ref_goes_87 ?_
          refine zg_if_ne (tgt := 96) zd_Ref_goes_89 (by decide) (by omega) (fun b89 => ?_) (fun b89 => ?_)
          · refine zg_il8 zd_Ref_goes_96 ?_
            refine zg_iconst zd_Ref_goes_98 ?_
            refine zg_icmp_ne (tgt := 106) zd_Ref_goes_99 (by decide) (by omega) (by omega) (fun b99 => ?_) (fun b99 => ?_)
            · refine zg_il4 zd_Ref_goes_106 ?_
              first
              | exact c108 _ (hx0 _ b89).symm
              | exact c108 _ (hx1 _ b89 b99).symm
              | exact c108 _ (hx2 _ b89 b99).symm
            · refine zg_il3 zd_Ref_goes_102 ?_
              refine zg_goto (tgt := 108) zd_Ref_goes_103 (by decide) ?_
              first
              | exact c108 _ (hx0 _ b89).symm
              | exact c108 _ (hx1 _ b89 b99).symm
              | exact c108 _ (hx2 _ b89 b99).symm
          · refine zg_il2 zd_Ref_goes_92 ?_
            refine zg_goto (tgt := 108) zd_Ref_goes_93 (by decide) ?_
            first
            | exact c108 _ (hx0 _ b89).symm
            | exact c108 _ (hx1 _ b89 b99).symm
            | exact c108 _ (hx2 _ b89 b99).symm
    refine zg_is6 zd_Ref_goes_29 (fun w h => by cases h <;> rfl) (by decide) ?_
    refine zg_il6 zd_Ref_goes_31 ?_
    refine zg_ldc (-2147483648) zd_Ref_goes_33 zw_795 (by decide) ?_
    refine zg_icmp_eq (tgt := 61) zd_Ref_goes_35 (by decide) (by omega) (by omega) (fun b35 => ?_) (fun b35 => ?_)
    · refine zg_al0 zd_Ref_goes_61 ?_
      refine zg_il1 zd_Ref_goes_62 ?_
      refine zg_cVr1 zd_Ref_goes_63 zM_Ref_standIns zw_828 zi_Ref_standIns zs_Ref_standIns (cr_standIns hk hs hs0 hf0 hf03 hl0 hl0b h24 h25 hT) (by decide) (by decide) (by omega) (by first | assumption | rfl) (by decide) rfl (Nat.le_of_ble_eq_true rfl) ?_
      intro r U hq
      refine zg_iconst zd_Ref_goes_66 ?_
      refine zg_is7 zd_Ref_goes_67 (fun w h => by cases h <;> rfl) (by decide) ?_
      obtain ⟨rfl, hU, L, hL, hLs⟩ := hq
      exact loop b35 U L hU hL hLs L.length 0 _ _ _ (by omega) (by rw [d2 b35, List.drop_zero])
    · refine zg_il6 zd_Ref_goes_38 ?_
      refine zg_al0 zd_Ref_goes_40 ?_
      refine zg_getr zd_Ref_goes_41 zf_652 (by omega) (by first | assumption | rfl) rfl (by first | assumption | rfl) ?_
      refine zg_il1 zd_Ref_goes_44 ?_
      refine zg_iald zd_Ref_goes_45 (by omega) (by first | assumption | rfl) rfl (by omega) (by decide) ?_
      rw [hl0]
      refine zg_icmp_gt (tgt := 55) zd_Ref_goes_46 (by decide) (by omega) (by omega) (fun b46 => ?_) (fun b46 => ?_)
      · refine zg_iconst zd_Ref_goes_55 ?_
        refine zg_il1 zd_Ref_goes_56 ?_
        refine zg_imul zd_Ref_goes_57 ?_
        refine zg_iconst zd_Ref_goes_58 ?_
        refine zg_iadd zd_Ref_goes_59 ?_
        refine zg_ireturn zd_Ref_goes_60 rfl ?_
        first
        | exact retL V hVV (fun L _ => by rw [d1 b35]; exact decide_eq_true (by omega))
        | exact retR V hVV (fun L _ => by rw [d1 b35]; exact decide_eq_false (by omega))
      · refine zg_iconst zd_Ref_goes_49 ?_
        refine zg_il1 zd_Ref_goes_50 ?_
        refine zg_imul zd_Ref_goes_51 ?_
        refine zg_goto (tgt := 60) zd_Ref_goes_52 (by decide) ?_
        refine zg_ireturn zd_Ref_goes_60 rfl ?_
        first
        | exact retL V hVV (fun L _ => by rw [d1 b35]; exact decide_eq_true (by omega))
        | exact retR V hVV (fun L _ => by rw [d1 b35]; exact decide_eq_false (by omega))
  refine zg_al0 zd_Ref_goes_0 ?_
  refine zg_getr zd_Ref_goes_1 zf_651 (by omega) (by first | assumption | rfl) rfl (by first | assumption | rfl) ?_
  refine zg_il1 zd_Ref_goes_4 ?_
  refine zg_iald zd_Ref_goes_5 (by omega) (by first | assumption | rfl) rfl (by omega) (by decide) ?_
  rw [hf0]
  refine zg_is5 zd_Ref_goes_6 (fun w h => by cases h <;> rfl) (by decide) ?_
  refine zg_il5 zd_Ref_goes_8 ?_
  refine zg_if_ne (tgt := 17) zd_Ref_goes_10 (by decide) (by omega) (fun b10 => ?_) (fun b10 => ?_)
  · refine zg_il5 zd_Ref_goes_17 ?_
    refine zg_iconst zd_Ref_goes_19 ?_
    refine zg_icmp_ne (tgt := 27) zd_Ref_goes_20 (by decide) (by omega) (by omega) (fun b20 => ?_) (fun b20 => ?_)
    · refine zg_il4 zd_Ref_goes_27 ?_
      first
      | exact c29 _ (hx0 _ b10).symm
      | exact c29 _ (hx1 _ b10 b20).symm
      | exact c29 _ (hx2 _ b10 b20).symm
    · refine zg_il3 zd_Ref_goes_23 ?_
      refine zg_goto (tgt := 29) zd_Ref_goes_24 (by decide) ?_
      first
      | exact c29 _ (hx0 _ b10).symm
      | exact c29 _ (hx1 _ b10 b20).symm
      | exact c29 _ (hx2 _ b10 b20).symm
  · refine zg_il2 zd_Ref_goes_13 ?_
    refine zg_goto (tgt := 29) zd_Ref_goes_14 (by decide) ?_
    first
    | exact c29 _ (hx0 _ b10).symm
    | exact c29 _ (hx1 _ b10 b20).symm
    | exact c29 _ (hx2 _ b10 b20).symm
end ZT25

