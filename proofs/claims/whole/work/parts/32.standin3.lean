/-! two tellings of one table -/
def zx_e (τ τ' : zx_τ) : Prop := τ.2 = τ'.2 ∧ ∀ r, r < τ.2.2.2 → τ.1 r = τ'.1 r
theorem zx_e_sy {τ τ' : zx_τ} (h : zx_e τ τ') : zx_e τ' τ := ⟨h.1.symm, fun r hr => (h.2 r (by rw [h.1]; exact hr)).symm⟩
theorem zx_e_V {V W : zg_V} {n : Nat} (hn : n ≤ 16) (h : ∀ b, b < 21 → W b = V b) : zx_e (zt_τ W n) (zt_τ V n) := by
  refine ⟨?_, fun r hr => ?_⟩
  · show (W 19, W 20, n) = (V 19, V 20, n)
    rw [h 19 (by decide), h 20 (by decide)]
  · have hr : r < n := hr
    show W (3 + r) = V (3 + r)
    exact h _ (by omega)
section ZE
variable {τ τ' : zx_τ}
theorem zx_ps_c (h : zx_e τ τ') (s f : Nat) : zx_ps τ s f = zx_ps τ' s f := by
  unfold zx_ps
  rw [zt_pres_congr h.2, h.1]
theorem zx_sl_c (h : zx_e τ τ') (p f : Nat) (t : Int) : zx_sl τ p f t = zx_sl τ' p f t := by
  unfold zx_sl
  rw [zt_upto_congr h.2, h.1]
theorem zx_sr_c (h : zx_e τ τ') (p f : Nat) (t : Int) : zx_sr τ p f t = zx_sr τ' p f t := by
  unfold zx_sr
  rw [zx_sl_c h]
theorem zx_L_c (h : zx_e τ τ') (s f : Nat) (t : Int) : zx_L τ s f t = zx_L τ' s f t := by
  unfold zx_L
  rw [zx_ps_c h, zx_sl_c h, h.1]
theorem zx_R_c (h : zx_e τ τ') (s f : Nat) (t : Int) : zx_R τ s f t = zx_R τ' s f t := by
  unfold zx_R
  rw [zx_ps_c h, zx_sr_c h, h.1]
theorem zx_X_c (h : zx_e τ τ') (s f : Nat) (t : Int) : zx_X τ s f t = zx_X τ' s f t := by
  unfold zx_X
  rw [zx_ps_c h, zx_sl_c h, h.1]
theorem zx_Y_c (h : zx_e τ τ') (s f : Nat) (t : Int) : zx_Y τ s f t = zx_Y τ' s f t := by
  unfold zx_Y
  rw [zx_ps_c h, zx_sr_c h, h.1]
theorem zx_T_c (h : zx_e τ τ') (cr : Int) (s f : Nat) (t : Int) : zx_T τ cr s f t = zx_T τ' cr s f t := by
  unfold zx_T
  rw [zx_X_c h, zx_Y_c h, zx_L_c h, zx_R_c h]
theorem zx_B_c (h : zx_e τ τ') (cr : Int) (s f : Nat) (t : Int) : zx_B τ cr s f t = zx_B τ' cr s f t := by
  unfold zx_B
  rw [zx_L_c h, zx_R_c h]
theorem zx_vl_c (h : zx_e τ τ') (p f : Nat) (x : Int) : zx_vl τ p f x ↔ zx_vl τ' p f x := by
  constructor
  · rintro ⟨r, q1, q2, q3⟩
    exact ⟨r, by rw [← h.1]; exact q1, q2, by rw [← h.2 r q1]; exact q3⟩
  · rintro ⟨r, q1, q2, q3⟩
    have q1' : r < τ.2.2.2 := by rw [h.1]; exact q1
    exact ⟨r, q1', q2, by rw [h.2 r q1']; exact q3⟩
theorem zx_cut_c (h : zx_e τ τ') (p f : Nat) (t : Int) : zx_cut τ p f t ↔ zx_cut τ' p f t := by
  unfold zx_cut
  constructor
  · rintro ⟨u, v, h1, h2, h3, h4, h5⟩
    exact ⟨u, v, (zx_vl_c h p f u).mp h1, (zx_vl_c h p f v).mp h2, h3, fun x hx => h4 x ((zx_vl_c h p f x).mpr hx), h5⟩
  · rintro ⟨u, v, h1, h2, h3, h4, h5⟩
    exact ⟨u, v, (zx_vl_c h p f u).mpr h1, (zx_vl_c h p f v).mpr h2, h3, fun x hx => h4 x ((zx_vl_c h p f x).mp hx), h5⟩
theorem zx_ok_c (h : zx_e τ τ') (lf : Int) (s f : Nat) (t : Int) : zx_ok τ lf s f t ↔ zx_ok τ' lf s f t := by
  unfold zx_ok
  rw [zx_cut_c h, zx_ps_c h, zx_L_c h, zx_R_c h]
theorem zy_bo_c (h : zx_e τ τ') (s f g : Nat) : zy_bo τ s f g = zy_bo τ' s f g := by
  unfold zy_bo
  rw [zx_ps_c h, zx_ps_c h]
theorem zy_le_c (h : zx_e τ τ') (s f : Nat) (l : Int) (g : Nat) : zy_le τ s f l g = zy_le τ' s f l g := by
  unfold zy_le
  rw [zy_bo_c h, zx_sl_c h]
theorem zy_al_c (h : zx_e τ τ') (s f g : Nat) : zy_al τ s f g = zy_al τ' s f g := by
  unfold zy_al
  rw [zy_bo_c h, h.1]
theorem zy_lw_c (h : zx_e τ τ') (s f : Nat) (l : Int) (g : Nat) : zy_lw τ s f l g = zy_lw τ' s f l g := by
  unfold zy_lw
  rw [zy_le_c h, h.1]
theorem zy_fl_c (h : zx_e τ τ') (s f : Nat) (l : Int) (g : Nat) : zy_fl τ s f l g = zy_fl τ' s f l g := by
  unfold zy_fl
  rw [zy_al_c h, zy_lw_c h]
theorem zy_A_c (h : zx_e τ τ') (s f : Nat) (l : Int) (g : Nat) (t : Int) : zy_A τ s f l g t = zy_A τ' s f l g t := by
  unfold zy_A
  rw [zy_bo_c h, zy_le_c h, zx_sl_c h, h.1]
theorem zy_ag_c (h : zx_e τ τ') (s f : Nat) (l : Int) (g : Nat) : zy_ag τ s f l g = zy_ag τ' s f l g := by
  funext t u
  unfold zy_ag
  rw [zy_al_c h, zy_A_c h]
end ZE
/-- which stand-in a feature gives -/
def zy_is (τ : zx_τ) (s f0 : Nat) (l0 : Int) (g : Nat) (e : Option zw_E) : Prop := match e with
  | none => ∀ t u, zx_cut τ (zy_bo τ s f0 g) g t → zy_ag τ s f0 l0 g t u ≤ zy_fl τ s f0 l0 g
  | some x => x.1 = g ∧ zx_cut τ (zy_bo τ s f0 g) g x.2.1 ∧ x.2.2.2 = zy_ag τ s f0 l0 g x.2.1 x.2.2.1 ∧ zy_fl τ s f0 l0 g < x.2.2.2 ∧ ∀ t u, zx_cut τ (zy_bo τ s f0 g) g t → zy_ag τ s f0 l0 g t u ≤ x.2.2.2 ∧ (zy_ag τ s f0 l0 g t u = x.2.2.2 → x.2.1 < t ∨ (x.2.1 = t ∧ (x.2.2.1 = false ∨ u = true)))
def zy_ad (e : Option zw_E) (L : List zw_E) : List zw_E := match e with
  | none => L
  | some x => zy_in L x
def zy_fo (e : Nat → Option zw_E) : Nat → List zw_E
  | 0 => []
  | m + 1 => zy_ad (e m) (zy_fo e m)
def zy_Ls (τ : zx_τ) (s f0 : Nat) (l0 : Int) (m : Nat) (L : List zw_E) : Prop := ∃ e : Nat → Option zw_E, (∀ g, g < m → (g = f0 → e g = none) ∧ (g ≠ f0 → zy_is τ s f0 l0 g (e g))) ∧ L = zy_fo e m
theorem zy_fo_c {e e' : Nat → Option zw_E} : ∀ {m : Nat}, (∀ g, g < m → e g = e' g) → zy_fo e m = zy_fo e' m
  | 0, _ => rfl
  | m + 1, h => by
    show zy_ad (e m) (zy_fo e m) = zy_ad (e' m) (zy_fo e' m)
    rw [h m (by omega), zy_fo_c (fun g hg => h g (by omega))]
theorem zy_Ls_s {τ : zx_τ} {s f0 m : Nat} {l0 : Int} {L : List zw_E} {x : Option zw_E} (h : zy_Ls τ s f0 l0 m L) (h1 : m = f0 → x = none) (h2 : m ≠ f0 → zy_is τ s f0 l0 m x) : zy_Ls τ s f0 l0 (m + 1) (zy_ad x L) := by
  obtain ⟨e, he, rfl⟩ := h
  refine ⟨fun g => if g = m then x else e g, fun g hg => ?_, ?_⟩
  · by_cases q : g = m
    · subst q
      simp only [if_true]
      exact ⟨h1, h2⟩
    · simp only [q, if_false]
      exact he g (by omega)
  · show _ = zy_ad (if m = m then x else e m) (zy_fo _ m)
    rw [if_pos rfl]
    congr 1
    exact zy_fo_c (fun g hg => by simp only [show g ≠ m by omega, if_false])
theorem zy_is_c {τ τ' : zx_τ} (h : zx_e τ τ') {s f0 g : Nat} {l0 : Int} {e : Option zw_E} (hi : zy_is τ s f0 l0 g e) : zy_is τ' s f0 l0 g e := by
  cases e with
  | none =>
    intro t u ht
    rw [← zy_ag_c h, ← zy_fl_c h]
    exact hi t u ((zx_cut_c h _ _ _).mpr (by rw [zy_bo_c h]; exact ht))
  | some x =>
    obtain ⟨h1, h2, h3, h4, h5⟩ := hi
    refine ⟨h1, by rw [← zy_bo_c h]; exact (zx_cut_c h _ _ _).mp h2, by rw [← zy_ag_c h]; exact h3, by rw [← zy_fl_c h]; exact h4, fun t u ht => ?_⟩
    rw [← zy_ag_c h]
    exact h5 t u ((zx_cut_c h _ _ _).mpr (by rw [zy_bo_c h]; exact ht))
theorem zx_cut_rng {V : zg_V} {n p f : Nat} {t : Int} (hT : zt_T V n) (hf : f < 3) (h : zx_cut (zt_τ V n) p f t) : -2147483648 ≤ t ∧ t < 2147483648 := by
  obtain ⟨u, v, ⟨r, q1, -, rfl⟩, ⟨r', q1', -, rfl⟩, -, -, rfl⟩ := h
  have hr : r < n := q1
  have hr' : r' < n := q1'
  have h16 := hT.2.1
  have := hT.2.2.1 r f (by omega) hf
  have := hT.2.2.1 r' f (by omega) hf
  show _ ≤ (V (3 + r) f + V (3 + r') f) / 2 ∧ (V (3 + r) f + V (3 + r') f) / 2 < _
  omega
theorem zy_in_len {L : List zw_E} {e : zw_E} (h : L.length ≤ 1) : (zy_in L e).length = L.length + 1 := by
  match L, h with
  | [], _ => rfl
  | [x], _ => show (if x.2.2.2 < e.2.2.2 then [e, x] else [x, e]).length = 2; split <;> rfl
  | _ :: _ :: _, h => simp at h
/-- the cells that the search for stand-ins writes -/
def zy_S (b : Nat) : Nat → Prop := fun a => a = b ∨ a = b + 3 ∨ a = b + 4 ∨ (211 ≤ a ∧ a ≤ 213)
section ZT13
variable {Γ : zg_C} {V : zg_V} {k sh : Nat}
theorem ct_findFor (hk : k < 32) {s n f0 : Nat} {l0 : Int} (hs : s < 65536) (hs0 : V (40 + 5 * k) 0 = (s : Int)) (hf0 : V (40 + 5 * k) 3 = (f0 : Int)) (hf03 : f0 < 3) (hl0 : V (40 + 5 * k) 4 = l0) (hl0b : -2147483648 ≤ l0 ∧ l0 < 2147483648) (hT : zt_T V n) : zg_S Γ zm_StandInSearch_findFor 3 0 0 [zg_r Γ 210, zg_r Γ 1, zg_r Γ (40 + 5 * k)] zk_K 242 (zk_P sh) V (zq_r zk_K 242 (zk_P sh) (fun rr V' => rr = none ∧ zv_on (zy_S (40 + 5 * k)) V V' ∧ (∀ j, j ≠ 8 → V' (40 + 5 * k) j = V (40 + 5 * k) j) ∧ ∃ L, zt_ls V' (40 + 5 * k) L ∧ zy_Ls (zt_τ V n) s f0 l0 3 L)) := by
  obtain ⟨hkn, -⟩ := zk_node k hk
  have hn16 := hT.2.1
  generalize hQ : zq_r zk_K 242 (zk_P sh) (fun rr V' => rr = none ∧ zv_on (zy_S (40 + 5 * k)) V V' ∧ (∀ j, j ≠ 8 → V' (40 + 5 * k) j = V (40 + 5 * k) j) ∧ ∃ L, zt_ls V' (40 + 5 * k) L ∧ zy_Ls (zt_τ V n) s f0 l0 3 L) = Q
  refine zg_enter 1 (by decide) (Nat.le_of_ble_eq_true rfl) rfl ?_
  refine zg_al2 zd_StandInSearch_findFor_0 ?_
  refine zg_iconst zd_StandInSearch_findFor_1 ?_
  refine zg_puti zd_StandInSearch_findFor_2 zf_141 rfl (by omega) (by first | assumption | rfl) rfl ?_
  refine zg_iconst zd_StandInSearch_findFor_5 ?_
  refine zg_is3 zd_StandInSearch_findFor_6 (fun w h => by cases h <;> rfl) (by decide) ?_
  have key : ∀ (j g : Nat) (W : zg_V) (L : List zw_E) (hij : g + j = 3) (hW : zv_on (zy_S (40 + 5 * k)) V W) (hWn : ∀ j, j ≠ 8 → W (40 + 5 * k) j = V (40 + 5 * k) j) (hL : zt_ls W (40 + 5 * k) L) (hLs : zy_Ls (zt_τ V n) s f0 l0 g L) (hlen : L.length + (if f0 < g then 1 else 0) ≤ g), zg_G Γ (fun _ => True) zm_StandInSearch_findFor (zg_rm 3 0 0) (zg_Ω Γ (Q) 0 0) 0 0 7 [some (zg_r Γ (210)), some (zg_r Γ (1)), some (zg_r Γ (40 + 5 * k)), some (zg_i ((g : Nat)))] [] zk_K 242 (zk_P sh) (W) := by
    intro j
    induction j with
    | zero =>
      intro g W L hij hW hWn hL hLs hlen
      have e : g = 3 := by omega
      subst e
      refine zg_il3 zd_StandInSearch_findFor_7 ?_
      refine zg_iconst zd_StandInSearch_findFor_8 ?_
      refine zg_icmp_ge (tgt := 44) zd_StandInSearch_findFor_9 (by decide) (by omega) (by omega) (fun b9 => ?_) (fun b9 => ?_)
      · refine zg_return zd_StandInSearch_findFor_44 rfl ?_
        subst hQ; exact ⟨rfl, rfl, rfl, rfl, hW, hWn, L, hL, hLs⟩
      · omega
    | succ j ih =>
      intro g W L hij hW hWn hL hLs hlen
      have hag : ∀ b, b < 21 → W b = V b := fun b hb => hW b (by unfold zy_S; omega)
      have hTW : zt_T W n := zt_T_fr hag hT
      have hE := zx_e_V (W := W) hn16 hag
      have ws0 : W (40 + 5 * k) 0 = (s : Int) := by rw [hWn 0 (by decide), hs0]
      have wf0 : W (40 + 5 * k) 3 = (f0 : Int) := by rw [hWn 3 (by decide), hf0]
      have wl0 : W (40 + 5 * k) 4 = l0 := by rw [hWn 4 (by decide), hl0]
      refine zg_il3 zd_StandInSearch_findFor_7 ?_
      refine zg_iconst zd_StandInSearch_findFor_8 ?_
      refine zg_icmp_ge (tgt := 44) zd_StandInSearch_findFor_9 (by decide) (by omega) (by omega) (fun b9 => ?_) (fun b9 => ?_)
      · omega
      · refine zg_il3 zd_StandInSearch_findFor_12 ?_
        refine zg_al2 zd_StandInSearch_findFor_13 ?_
        refine zg_geti zd_StandInSearch_findFor_14 zf_126 (by omega) (by first | assumption | rfl) rfl ?_
        rw [wf0]
        refine zg_icmp_eq (tgt := 38) zd_StandInSearch_findFor_17 (by decide) (by omega) (by omega) (fun b17 => ?_) (fun b17 => ?_)
        · skip
          refine zg_inc3 zd_StandInSearch_findFor_38 (fun w h => by cases h <;> rfl) (by decide) ?_
          refine zg_goto (tgt := 7) zd_StandInSearch_findFor_41 (by decide) ?_
          first
          | (obtain ⟨rfl, w1, w2, w3⟩ := hq2
             refine ih (g + 1) V2 (zy_in L x) (by omega) (zv_on_tr hV1 (zv_on_mono w1 (fun b hb => by unfold zy_S; omega))) (fun j hj => by rw [w2 j hj, hV1n]; exact hWn j hj) w3 (zy_Ls_s (x := some x) hLs (fun e => absurd (show (g : Int) = f0 by omega) b17) (fun _ => x1)) ?_
             rw [zy_in_len hl1]
             have hne : g ≠ f0 := fun e => b17 (by omega)
             by_cases q : f0 < g
             · rw [if_pos q] at hlen; rw [if_pos (by omega)]; omega
             · rw [if_neg q] at hlen; rw [if_neg (by omega)]; omega)
          | (refine ih (g + 1) V1 L (by omega) hV1 (fun j hj => by rw [hV1n]; exact hWn j hj) hL1 (zy_Ls_s (x := none) hLs (fun _ => rfl) (fun _ t u ht => ?_)) ?_
             · have hlt : ¬ zy_fl (zt_τ V n) s f0 l0 g < V1 213 3 := of_decide_eq_false b27
               rcases q3' with ⟨p1, p2⟩ | ⟨t0, u0, p1, p2, p3, p4, p5, p6⟩
               · exact p2 t u ht
               · omega
             · have hne : g ≠ f0 := fun e => b17 (by omega)
               by_cases q : f0 < g
               · rw [if_pos q] at hlen; rw [if_pos (by omega)]; omega
               · rw [if_neg q] at hlen; rw [if_neg (by omega)]; omega)
          | (have he : g = f0 := by omega
             refine ih (g + 1) W L (by omega) hW hWn hL (zy_Ls_s (x := none) hLs (fun _ => rfl) (fun q => absurd he q)) ?_
             subst he
             rw [if_neg (by omega)] at hlen
             rw [if_pos (by omega)]
             omega)
        · refine zg_al0 zd_StandInSearch_findFor_20 ?_
          refine zg_al1 zd_StandInSearch_findFor_21 ?_
          refine zg_al2 zd_StandInSearch_findFor_22 ?_
          refine zg_il3 zd_StandInSearch_findFor_23 ?_
          refine zg_cVr3 zd_StandInSearch_findFor_24 zM_StandInSearch_findAt zw_487 zi_StandInSearch_findAt zs_StandInSearch_findAt (ct_findAt hk hs ws0 wf0 hf03 wl0 hl0b (by omega) hTW) (by decide) (by decide) (by omega) (by first | assumption | rfl) (by decide) rfl (Nat.le_of_ble_eq_true rfl) ?_
          intro r V1 hq
          obtain ⟨rfl, q1, q2, q3⟩ := hq
          have q3' : zy_bs (zy_fl (zt_τ V n) s f0 l0 g) (zy_ag (zt_τ V n) s f0 l0 g) (fun t _ => zx_cut (zt_τ V n) (zy_bo (zt_τ V n) s f0 g) g t) V1 := by
            rw [← zy_fl_c hE, ← zy_ag_c hE, ← zy_bo_c hE]
            exact zy_bs_iff (fun t u => zx_cut_c hE _ _ _) q3
          have hV1n : V1 (40 + 5 * k) = W (40 + 5 * k) := q1 _ (by omega)
          have hV1 : zv_on (zy_S (40 + 5 * k)) V V1 := zv_on_tr hW (zv_on_mono q1 (fun b hb => by unfold zy_S; omega))
          have hL1 : zt_ls V1 (40 + 5 * k) L := ⟨by rw [hV1n]; exact hL.1, hL.2.1, fun i e he => zt_si_fr (fun j _ => by have h2 := hL.2.1; have h3 : i < L.length := (List.getElem?_eq_some_iff.mp he).1; rw [q1 _ (by omega)]) (hL.2.2 i e he)⟩
          rw [zy_fl_c hE]
          refine zg_if_eqB (tgt := 38) zd_StandInSearch_findFor_27 (by decide) (fun b27 => ?_) (fun b27 => ?_)
          · skip
            refine zg_inc3 zd_StandInSearch_findFor_38 (fun w h => by cases h <;> rfl) (by decide) ?_
            refine zg_goto (tgt := 7) zd_StandInSearch_findFor_41 (by decide) ?_
            first
            | (obtain ⟨rfl, w1, w2, w3⟩ := hq2
               refine ih (g + 1) V2 (zy_in L x) (by omega) (zv_on_tr hV1 (zv_on_mono w1 (fun b hb => by unfold zy_S; omega))) (fun j hj => by rw [w2 j hj, hV1n]; exact hWn j hj) w3 (zy_Ls_s (x := some x) hLs (fun e => absurd (show (g : Int) = f0 by omega) b17) (fun _ => x1)) ?_
               rw [zy_in_len hl1]
               have hne : g ≠ f0 := fun e => b17 (by omega)
               by_cases q : f0 < g
               · rw [if_pos q] at hlen; rw [if_pos (by omega)]; omega
               · rw [if_neg q] at hlen; rw [if_neg (by omega)]; omega)
            | (refine ih (g + 1) V1 L (by omega) hV1 (fun j hj => by rw [hV1n]; exact hWn j hj) hL1 (zy_Ls_s (x := none) hLs (fun _ => rfl) (fun _ t u ht => ?_)) ?_
               · have hlt : ¬ zy_fl (zt_τ V n) s f0 l0 g < V1 213 3 := of_decide_eq_false b27
                 rcases q3' with ⟨p1, p2⟩ | ⟨t0, u0, p1, p2, p3, p4, p5, p6⟩
                 · exact p2 t u ht
                 · omega
               · have hne : g ≠ f0 := fun e => b17 (by omega)
                 by_cases q : f0 < g
                 · rw [if_pos q] at hlen; rw [if_pos (by omega)]; omega
                 · rw [if_neg q] at hlen; rw [if_neg (by omega)]; omega)
            | (have he : g = f0 := by omega
               refine ih (g + 1) W L (by omega) hW hWn hL (zy_Ls_s (x := none) hLs (fun _ => rfl) (fun q => absurd he q)) ?_
               subst he
               rw [if_neg (by omega)] at hlen
               rw [if_pos (by omega)]
               omega)
          · have hfound : ∃ x : zw_E, zy_is (zt_τ V n) s f0 l0 g (some x) ∧ zt_si V1 213 x := by
              have hlt : zy_fl (zt_τ V n) s f0 l0 g < V1 213 3 := of_decide_eq_true b27
              rcases q3' with ⟨p1, -⟩ | ⟨t0, u0, p1, p2, p3, p4, p5, p6⟩
              · omega
              · refine ⟨(g, t0, u0, zy_ag (zt_τ V n) s f0 l0 g t0 u0), ⟨rfl, p1, rfl, p2, p6⟩, q2, by show g < 3; omega, p3, zx_cut_rng hT (by omega) p1, p4, p5, ?_⟩
                have hA : 0 ≤ zy_A (zt_τ V n) s f0 l0 g t0 ∧ zy_A (zt_τ V n) s f0 l0 g t0 ≤ 16 := zt_w_16 hT _
                have hal : 0 ≤ zy_al (zt_τ V n) s f0 g ∧ zy_al (zt_τ V n) s f0 g ≤ 16 := zt_w_16 hT _
                have hlw : 0 ≤ zy_lw (zt_τ V n) s f0 l0 g ∧ zy_lw (zt_τ V n) s f0 l0 g ≤ 16 := zt_w_16 hT _
                have hfl : 0 ≤ zy_fl (zt_τ V n) s f0 l0 g := by unfold zy_fl; split <;> omega
                have hag2 : zy_ag (zt_τ V n) s f0 l0 g t0 u0 ≤ 16 := by unfold zy_ag; split <;> omega
                show 0 ≤ zy_ag (zt_τ V n) s f0 l0 g t0 u0 ∧ zy_ag (zt_τ V n) s f0 l0 g t0 u0 ≤ 256
                omega
            obtain ⟨x, x1, x2⟩ := hfound
            have hl1 : L.length ≤ 1 := by
              have hne : g ≠ f0 := fun e => b17 (by omega)
              by_cases q : f0 < g
              · rw [if_pos q] at hlen; omega
              · rw [if_neg q] at hlen; omega
            refine zg_al2 zd_StandInSearch_findFor_30 ?_
            refine zg_al0 zd_StandInSearch_findFor_31 ?_
            refine zg_getr zd_StandInSearch_findFor_32 zf_229 (by omega) (by first | assumption | rfl) rfl (by first | assumption | rfl) ?_
            refine zg_cVr1 zd_StandInSearch_findFor_35 zM_Node_addStandIn zw_502 zi_Node_addStandIn zs_Node_addStandIn (ct_addS hk hL1 hl1 x2) (by decide) (by decide) (by omega) (by first | assumption | rfl) (by decide) rfl (Nat.le_of_ble_eq_true rfl) ?_
            intro r V2 hq2
            skip
            refine zg_inc3 zd_StandInSearch_findFor_38 (fun w h => by cases h <;> rfl) (by decide) ?_
            refine zg_goto (tgt := 7) zd_StandInSearch_findFor_41 (by decide) ?_
            first
            | (obtain ⟨rfl, w1, w2, w3⟩ := hq2
               refine ih (g + 1) V2 (zy_in L x) (by omega) (zv_on_tr hV1 (zv_on_mono w1 (fun b hb => by unfold zy_S; omega))) (fun j hj => by rw [w2 j hj, hV1n]; exact hWn j hj) w3 (zy_Ls_s (x := some x) hLs (fun e => absurd (show (g : Int) = f0 by omega) b17) (fun _ => x1)) ?_
               rw [zy_in_len hl1]
               have hne : g ≠ f0 := fun e => b17 (by omega)
               by_cases q : f0 < g
               · rw [if_pos q] at hlen; rw [if_pos (by omega)]; omega
               · rw [if_neg q] at hlen; rw [if_neg (by omega)]; omega)
            | (refine ih (g + 1) V1 L (by omega) hV1 (fun j hj => by rw [hV1n]; exact hWn j hj) hL1 (zy_Ls_s (x := none) hLs (fun _ => rfl) (fun _ t u ht => ?_)) ?_
               · have hlt : ¬ zy_fl (zt_τ V n) s f0 l0 g < V1 213 3 := of_decide_eq_false b27
                 rcases q3' with ⟨p1, p2⟩ | ⟨t0, u0, p1, p2, p3, p4, p5, p6⟩
                 · exact p2 t u ht
                 · omega
               · have hne : g ≠ f0 := fun e => b17 (by omega)
                 by_cases q : f0 < g
                 · rw [if_pos q] at hlen; rw [if_pos (by omega)]; omega
                 · rw [if_neg q] at hlen; rw [if_neg (by omega)]; omega)
            | (have he : g = f0 := by omega
               refine ih (g + 1) W L (by omega) hW hWn hL (zy_Ls_s (x := none) hLs (fun _ => rfl) (fun q => absurd he q)) ?_
               subst he
               rw [if_neg (by omega)] at hlen
               rw [if_pos (by omega)]
               omega)
  refine key 3 0 _ [] (by omega) (zv_on_u zv_on_rf (Or.inl rfl)) (fun j hj => zg_u_off _ _ _ _ hj) ⟨by rw [zg_u_in]; rfl, by show 0 ≤ 2; decide, fun i e he => by simp at he⟩ ⟨fun _ => none, fun g hg => by omega, rfl⟩ ?_
  rw [if_neg (by omega)]
  show 0 + 0 ≤ 0
  omega
end ZT13

