/-! one table told twice, values at the three features only -/
def zx_E (τ τ' : zx_τ) : Prop := τ.2 = τ'.2 ∧ ∀ r, r < τ.2.2.2 → ∀ f, f < 3 → τ.1 r f = τ'.1 r f
theorem zx_E_sy {τ τ' : zx_τ} (h : zx_E τ τ') : zx_E τ' τ := ⟨h.1.symm, fun r hr f hf => (h.2 r (by rw [h.1]; exact hr) f hf).symm⟩
theorem zx_E_tr {τ τ' τ'' : zx_τ} (h : zx_E τ τ') (h' : zx_E τ' τ'') : zx_E τ τ'' := ⟨h.1.trans h'.1, fun r hr f hf => (h.2 r hr f hf).trans (h'.2 r (by rw [← h.1]; exact hr) f hf)⟩
theorem zx_E_V {V W : zg_V} {n : Nat} (hn : n ≤ 16) (h : ∀ b, b < 21 → W b = V b) : zx_E (zt_τ W n) (zt_τ V n) := by
  obtain ⟨h1, h2⟩ := zx_e_V hn h
  exact ⟨h1, fun r hr f _ => by rw [h2 r hr]⟩
section ZEE
variable {τ τ' : zx_τ}
theorem zx_ps_E (h : zx_E τ τ') (s : Nat) {f : Nat} (hf : f < 3) : zx_ps τ s f = zx_ps τ' s f := by
  unfold zx_ps zt_pres
  rw [← h.1]
  exact zs_mk_congr (fun i hi => by rw [h.2 i hi f hf])
theorem zx_sl_E (h : zx_E τ τ') (p : Nat) {f : Nat} (hf : f < 3) (t : Int) : zx_sl τ p f t = zx_sl τ' p f t := by
  unfold zx_sl zt_upto
  rw [← h.1]
  exact zs_mk_congr (fun i hi => by rw [h.2 i hi f hf])
theorem zx_sr_E (h : zx_E τ τ') (p : Nat) {f : Nat} (hf : f < 3) (t : Int) : zx_sr τ p f t = zx_sr τ' p f t := by
  unfold zx_sr
  rw [zx_sl_E h p hf]
theorem zx_L_E (h : zx_E τ τ') (s : Nat) {f : Nat} (hf : f < 3) (t : Int) : zx_L τ s f t = zx_L τ' s f t := by
  unfold zx_L
  rw [zx_ps_E h s hf, zx_sl_E h _ hf, h.1]
theorem zx_R_E (h : zx_E τ τ') (s : Nat) {f : Nat} (hf : f < 3) (t : Int) : zx_R τ s f t = zx_R τ' s f t := by
  unfold zx_R
  rw [zx_ps_E h s hf, zx_sr_E h _ hf, h.1]
theorem zx_X_E (h : zx_E τ τ') (s : Nat) {f : Nat} (hf : f < 3) (t : Int) : zx_X τ s f t = zx_X τ' s f t := by
  unfold zx_X
  rw [zx_ps_E h s hf, zx_sl_E h _ hf, h.1]
theorem zx_Y_E (h : zx_E τ τ') (s : Nat) {f : Nat} (hf : f < 3) (t : Int) : zx_Y τ s f t = zx_Y τ' s f t := by
  unfold zx_Y
  rw [zx_ps_E h s hf, zx_sr_E h _ hf, h.1]
theorem zx_T_E (h : zx_E τ τ') (cr : Int) (s : Nat) {f : Nat} (hf : f < 3) (t : Int) : zx_T τ cr s f t = zx_T τ' cr s f t := by
  unfold zx_T
  rw [zx_X_E h s hf, zx_Y_E h s hf, zx_L_E h s hf, zx_R_E h s hf]
theorem zx_B_E (h : zx_E τ τ') (cr : Int) (s : Nat) {f : Nat} (hf : f < 3) (t : Int) : zx_B τ cr s f t = zx_B τ' cr s f t := by
  unfold zx_B
  rw [zx_L_E h s hf, zx_R_E h s hf]
theorem zx_lean_E (h : zx_E τ τ') (s : Nat) {f : Nat} (hf : f < 3) (t : Int) : zx_lean τ s f t = zx_lean τ' s f t := by
  unfold zx_lean
  rw [zx_L_E h s hf, zx_R_E h s hf]
theorem zx_vl_E (h : zx_E τ τ') (p : Nat) {f : Nat} (hf : f < 3) (x : Int) : zx_vl τ p f x ↔ zx_vl τ' p f x := by
  constructor
  · rintro ⟨r, q1, q2, q3⟩
    exact ⟨r, by rw [← h.1]; exact q1, q2, by rw [← h.2 r q1 f hf]; exact q3⟩
  · rintro ⟨r, q1, q2, q3⟩
    have q1' : r < τ.2.2.2 := by rw [h.1]; exact q1
    exact ⟨r, q1', q2, by rw [h.2 r q1' f hf]; exact q3⟩
theorem zx_cut_E (h : zx_E τ τ') (p : Nat) {f : Nat} (hf : f < 3) (t : Int) : zx_cut τ p f t ↔ zx_cut τ' p f t := by
  unfold zx_cut
  constructor
  · rintro ⟨u, v, h1, h2, h3, h4, h5⟩
    exact ⟨u, v, (zx_vl_E h p hf u).mp h1, (zx_vl_E h p hf v).mp h2, h3, fun x hx => h4 x ((zx_vl_E h p hf x).mpr hx), h5⟩
  · rintro ⟨u, v, h1, h2, h3, h4, h5⟩
    exact ⟨u, v, (zx_vl_E h p hf u).mpr h1, (zx_vl_E h p hf v).mpr h2, h3, fun x hx => h4 x ((zx_vl_E h p hf x).mp hx), h5⟩
theorem zx_Ca_E (h : zx_E τ τ') (lf : Int) (s f : Nat) (t : Int) : zx_Ca τ lf s f t ↔ zx_Ca τ' lf s f t := by
  constructor
  · rintro ⟨⟨a, b, c⟩, hf⟩
    exact ⟨⟨by rw [← zx_ps_E h s hf]; exact (zx_cut_E h _ hf t).mp a, by rw [← zx_L_E h s hf]; exact b, by rw [← zx_R_E h s hf]; exact c⟩, hf⟩
  · rintro ⟨⟨a, b, c⟩, hf⟩
    exact ⟨⟨by rw [zx_ps_E h s hf]; exact (zx_cut_E h _ hf t).mpr a, by rw [zx_L_E h s hf]; exact b, by rw [zx_R_E h s hf]; exact c⟩, hf⟩
theorem zx_best_E1 (h : zx_E τ τ') {cr lf : Int} {s f0 : Nat} {t0 : Int} (hb : zx_best τ cr s (zx_Ca τ lf s) f0 t0) : zx_best τ' cr s (zx_Ca τ' lf s) f0 t0 := by
  obtain ⟨h1, h2, h3⟩ := hb
  have hf0 : f0 < 3 := h1.2
  refine ⟨(zx_Ca_E h lf s f0 t0).mp h1, by rw [← zx_T_E h cr s hf0]; exact h2, fun f t hc => ?_⟩
  have hf : f < 3 := hc.2
  have := h3 f t ((zx_Ca_E h lf s f t).mpr hc)
  rw [← zx_T_E h cr s hf0, ← zx_B_E h cr s hf0, ← zx_T_E h cr s hf, ← zx_B_E h cr s hf]
  exact this
theorem zx_best_E (h : zx_E τ τ') (cr lf : Int) (s f0 : Nat) (t0 : Int) : zx_best τ cr s (zx_Ca τ lf s) f0 t0 ↔ zx_best τ' cr s (zx_Ca τ' lf s) f0 t0 := ⟨zx_best_E1 h, zx_best_E1 (zx_E_sy h)⟩
theorem zy_bo_E (h : zx_E τ τ') (s : Nat) {f g : Nat} (hf : f < 3) (hg : g < 3) : zy_bo τ s f g = zy_bo τ' s f g := by
  unfold zy_bo
  rw [zx_ps_E h s hf, zx_ps_E h _ hg]
theorem zy_le_E (h : zx_E τ τ') (s : Nat) {f g : Nat} (hf : f < 3) (hg : g < 3) (l : Int) : zy_le τ s f l g = zy_le τ' s f l g := by
  unfold zy_le
  rw [zy_bo_E h s hf hg, zx_sl_E h _ hf]
theorem zy_al_E (h : zx_E τ τ') (s : Nat) {f g : Nat} (hf : f < 3) (hg : g < 3) : zy_al τ s f g = zy_al τ' s f g := by
  unfold zy_al
  rw [zy_bo_E h s hf hg, h.1]
theorem zy_lw_E (h : zx_E τ τ') (s : Nat) {f g : Nat} (hf : f < 3) (hg : g < 3) (l : Int) : zy_lw τ s f l g = zy_lw τ' s f l g := by
  unfold zy_lw
  rw [zy_le_E h s hf hg, h.1]
theorem zy_fl_E (h : zx_E τ τ') (s : Nat) {f g : Nat} (hf : f < 3) (hg : g < 3) (l : Int) : zy_fl τ s f l g = zy_fl τ' s f l g := by
  unfold zy_fl
  rw [zy_al_E h s hf hg, zy_lw_E h s hf hg]
theorem zy_A_E (h : zx_E τ τ') (s : Nat) {f g : Nat} (hf : f < 3) (hg : g < 3) (l t : Int) : zy_A τ s f l g t = zy_A τ' s f l g t := by
  unfold zy_A
  rw [zy_bo_E h s hf hg, zy_le_E h s hf hg, zx_sl_E h _ hg, h.1]
theorem zy_ag_E (h : zx_E τ τ') (s : Nat) {f g : Nat} (hf : f < 3) (hg : g < 3) (l : Int) : zy_ag τ s f l g = zy_ag τ' s f l g := by
  funext t u
  unfold zy_ag
  rw [zy_al_E h s hf hg, zy_A_E h s hf hg]
theorem zy_is_E (h : zx_E τ τ') {s f0 g : Nat} (hf : f0 < 3) (hg : g < 3) {l0 : Int} {e : Option zw_E} (hi : zy_is τ s f0 l0 g e) : zy_is τ' s f0 l0 g e := by
  cases e with
  | none =>
    intro t u ht
    rw [← zy_ag_E h s hf hg, ← zy_fl_E h s hf hg]
    exact hi t u ((zx_cut_E h _ hg _).mpr (by rw [zy_bo_E h s hf hg]; exact ht))
  | some x =>
    obtain ⟨h1, h2, h3, h4, h5⟩ := hi
    refine ⟨h1, by rw [← zy_bo_E h s hf hg]; exact (zx_cut_E h _ hg _).mp h2, by rw [← zy_ag_E h s hf hg]; exact h3, by rw [← zy_fl_E h s hf hg]; exact h4, fun t u ht => ?_⟩
    rw [← zy_ag_E h s hf hg]
    exact h5 t u ((zx_cut_E h _ hg _).mpr (by rw [zy_bo_E h s hf hg]; exact ht))
theorem zy_Ls_E1 (h : zx_E τ τ') {s f0 m : Nat} (hf : f0 < 3) (hm : m ≤ 3) {l0 : Int} {L : List zw_E} (hL : zy_Ls τ s f0 l0 m L) : zy_Ls τ' s f0 l0 m L := by
  obtain ⟨e, he, rfl⟩ := hL
  exact ⟨e, fun g hg => ⟨(he g hg).1, fun q => zy_is_E h hf (by omega) ((he g hg).2 q)⟩, rfl⟩
theorem zy_Ls_E (h : zx_E τ τ') {s f0 : Nat} (hf : f0 < 3) (l0 : Int) (L : List zw_E) : zy_Ls τ s f0 l0 3 L ↔ zy_Ls τ' s f0 l0 3 L := ⟨zy_Ls_E1 h hf (Nat.le_refl 3), zy_Ls_E1 (zx_E_sy h) hf (Nat.le_refl 3)⟩
end ZEE
/-! ### the stand-ins' entries -/
theorem zy_in_mem {L : List zw_E} {e x : zw_E} (hl : L.length ≤ 1) (h : x ∈ zy_in L e) : x = e ∨ x ∈ L := by
  match L, hl with
  | [], _ =>
    have : x ∈ [e] := h
    simpa using this
  | [y], _ =>
    have h' : x ∈ (if y.2.2.2 < e.2.2.2 then [e, y] else [y, e]) := h
    split at h'
    · simpa using h'
    · have : x = y ∨ x = e := by simpa using h'
      rcases this with q | q
      · exact Or.inr (by simp [q])
      · exact Or.inl q
  | _ :: _ :: _, hl => simp at hl
theorem zy_fo_mem {e : Nat → Option zw_E} {f0 : Nat} (h0 : ∀ g, g < 3 → g = f0 → e g = none) (hf : f0 < 3) : (zy_fo e 3).length ≤ 2 ∧ ∀ x, x ∈ zy_fo e 3 → ∃ g, g < 3 ∧ g ≠ f0 ∧ e g = some x := by
  have key : ∀ m, m ≤ 3 → (zy_fo e m).length ≤ (if f0 < m then m - 1 else m) ∧ ∀ x, x ∈ zy_fo e m → ∃ g, g < m ∧ g ≠ f0 ∧ e g = some x := by
    intro m
    induction m with
    | zero => intro _; exact ⟨by split <;> simp [zy_fo], fun x hx => by simp [zy_fo] at hx⟩
    | succ m ih =>
      intro hm
      obtain ⟨i1, i2⟩ := ih (by omega)
      have e0 : zy_fo e (m + 1) = zy_ad (e m) (zy_fo e m) := rfl
      rw [e0]
      cases hem : e m with
      | none =>
        have e1 : zy_ad none (zy_fo e m) = zy_fo e m := rfl
        rw [e1]
        refine ⟨?_, fun x hx => ?_⟩
        · split at i1 <;> split <;> omega
        · obtain ⟨g, g1, g2, g3⟩ := i2 x hx
          exact ⟨g, by omega, g2, g3⟩
      | some y =>
        have hmf : m ≠ f0 := fun q => by rw [h0 m (by omega) q] at hem; cases hem
        have e1 : zy_ad (some y) (zy_fo e m) = zy_in (zy_fo e m) y := rfl
        rw [e1]
        have hl1 : (zy_fo e m).length ≤ 1 := by split at i1 <;> omega
        refine ⟨?_, fun x hx => ?_⟩
        · rw [zy_in_len hl1]
          split at i1 <;> split <;> omega
        · rcases zy_in_mem hl1 hx with q | q
          · exact ⟨m, by omega, hmf, by rw [hem, q]⟩
          · obtain ⟨g, g1, g2, g3⟩ := i2 x q
            exact ⟨g, by omega, g2, g3⟩
  obtain ⟨k1, k2⟩ := key 3 (by omega)
  rw [if_pos hf] at k1
  exact ⟨k1, k2⟩
/-- the entries of the list of stand-ins -/
theorem zy_Ls_mem {τ : zx_τ} {s f0 : Nat} {l0 : Int} {L : List zw_E} (hf : f0 < 3) (h : zy_Ls τ s f0 l0 3 L) : L.length ≤ 2 ∧ ∀ x, x ∈ L → x.1 < 3 ∧ x.1 ≠ f0 ∧ zy_is τ s f0 l0 x.1 (some x) := by
  obtain ⟨e, he, rfl⟩ := h
  obtain ⟨h1, h2⟩ := zy_fo_mem (fun g hg q => (he g hg).1 q) hf
  refine ⟨h1, fun x hx => ?_⟩
  obtain ⟨g, g1, g2, g3⟩ := h2 x hx
  have := (he g g1).2 g2
  rw [g3] at this
  have hx1 : x.1 = g := this.1
  rw [hx1]
  exact ⟨g1, g2, this⟩
theorem zw_go_c {x y : Nat → Int} (h : ∀ f, f < 3 → x f = y f) : ∀ (L : List zw_E), (∀ e, e ∈ L → e.1 < 3) → ∀ lean, zw_go L x lean = zw_go L y lean
  | [], _, _ => rfl
  | e :: L, hL, lean => by
    unfold zw_go
    rw [h e.1 (hL e (by simp)), zw_go_c h L (fun e' he' => hL e' (by simp [he'])) lean]
/-! ### the one best split, the one list of stand-ins, the turn -/
noncomputable def zj_pk (C : Nat × Int → Prop) : Option (Nat × Int) := by
  classical exact if h : ∃ q, C q then some h.choose else none
theorem zj_pk_s {C : Nat × Int → Prop} {q : Nat × Int} (h : C q) (hu : ∀ q', C q' → q' = q) : zj_pk C = some q := by
  unfold zj_pk
  have hE : ∃ q, C q := ⟨q, h⟩
  rw [dif_pos hE, hu _ hE.choose_spec]
theorem zj_pk_n {C : Nat × Int → Prop} (h : ∀ q, ¬ C q) : zj_pk C = none := by
  unfold zj_pk
  rw [dif_neg (fun ⟨q, hq⟩ => h q hq)]
noncomputable def zj_ch (C : List zw_E → Prop) : List zw_E := by
  classical exact if h : ∃ q, C q then h.choose else []
theorem zj_ch_s {C : List zw_E → Prop} {q : List zw_E} (h : C q) (hu : ∀ q', C q' → q' = q) : zj_ch C = q := by
  unfold zj_ch
  have hE : ∃ q, C q := ⟨q, h⟩
  rw [dif_pos hE, hu _ hE.choose_spec]
noncomputable def zj_Bs (τ : zx_τ) (cr lf : Int) (s : Nat) : Option (Nat × Int) := zj_pk (fun q => zx_best τ cr s (zx_Ca τ lf s) q.1 q.2)
noncomputable def zj_Ls (τ : zx_τ) (s f0 : Nat) (l0 : Int) : List zw_E := zj_ch (fun L => zy_Ls τ s f0 l0 3 L)
theorem zj_Ls_is {τ : zx_τ} {s f0 : Nat} {l0 : Int} {L : List zw_E} (h : zy_Ls τ s f0 l0 3 L) : zj_Ls τ s f0 l0 = L := zj_ch_s h (fun _ h' => zy_Ls_u h' h)
theorem zj_Ls_E {τ τ' : zx_τ} (h : zx_E τ τ') (s : Nat) {f0 : Nat} (hf : f0 < 3) (l0 : Int) : zj_Ls τ s f0 l0 = zj_Ls τ' s f0 l0 := by
  unfold zj_Ls
  congr 1
  funext L
  exact propext (zy_Ls_E h hf l0 L)
theorem zj_Bs_E {τ τ' : zx_τ} (h : zx_E τ τ') (cr lf : Int) (s : Nat) : zj_Bs τ cr lf s = zj_Bs τ' cr lf s := by
  unfold zj_Bs
  congr 1
  funext q
  exact propext (zx_best_E h cr lf s q.1 q.2)
theorem zj_Bs_s {τ : zx_τ} {cr lf : Int} {s f0 : Nat} {t0 : Int} (h : zx_best τ cr s (zx_Ca τ lf s) f0 t0) : zj_Bs τ cr lf s = some (f0, t0) := by
  refine zj_pk_s h (fun q hq => ?_)
  obtain ⟨e1, e2⟩ := zx_best_u hq h
  exact Prod.ext e1 e2
theorem zj_Bs_n {τ : zx_τ} {cr lf : Int} {s : Nat} (h : ∀ f t, zx_Ca τ lf s f t → zx_T τ cr s f t = 0) : zj_Bs τ cr lf s = none := by
  refine zj_pk_n (fun q hq => ?_)
  have := h q.1 q.2 hq.1
  have := hq.2.1
  omega
/-- kinds, rows, features, borders of a tree -/
abbrev zj_T : Type := (Nat → Int) × (Nat → Nat) × (Nat → Nat) × (Nat → Int)
def zj_u {α : Type} (f : Nat → α) (k : Nat) (x : α) : Nat → α := fun j => if j = k then x else f j
theorem zj_u_i {α : Type} (f : Nat → α) (k : Nat) (x : α) : zj_u f k x k = x := by simp [zj_u]
theorem zj_u_o {α : Type} (f : Nat → α) (k : Nat) (x : α) {j : Nat} (h : j ≠ k) : zj_u f k x j = f j := by simp [zj_u, h]
def zj_gl (τ : zx_τ) (s f0 : Nat) (t0 : Int) (L : List zw_E) (r : Nat) : Bool := zw_go ((f0, t0, false, 0) :: L) (τ.1 r) (zx_lean τ s f0 t0)
theorem zj_gl_E {τ τ' : zx_τ} (h : zx_E τ τ') (s : Nat) {f0 : Nat} (hf : f0 < 3) (t0 : Int) {L : List zw_E} (hL : ∀ e, e ∈ L → e.1 < 3) {r : Nat} (hr : r < τ.2.2.2) : zj_gl τ s f0 t0 L r = zj_gl τ' s f0 t0 L r := by
  unfold zj_gl
  rw [zx_lean_E h s hf]
  exact zw_go_c (h.2 r hr) _ (fun e he => by
    rcases List.mem_cons.mp he with q | q
    · subst q; exact hf
    · exact hL e q) _
def zj_le (τ : zx_τ) (s f0 : Nat) (t0 : Int) (L : List zw_E) : Nat := zs_mk (fun r => s.testBit r && zj_gl τ s f0 t0 L r) τ.2.2.2
def zj_ri (τ : zx_τ) (s f0 : Nat) (t0 : Int) (L : List zw_E) : Nat := zs_mk (fun r => s.testBit r && !zj_gl τ s f0 t0 L r) τ.2.2.2
theorem zj_df {s n : Nat} {p : Nat → Bool} (hs : s < 2 ^ n) : zb_df s (zs_mk (fun r => s.testBit r && p r) n) = zs_mk (fun r => s.testBit r && !p r) n := by
  apply Nat.eq_of_testBit_eq
  intro i
  rw [zb_df_bit, zs_mk_bit, zs_mk_bit]
  by_cases hi : i < n
  · simp only [hi, decide_true, Bool.true_and]
    cases s.testBit i <;> cases p i <;> rfl
  · have : s.testBit i = false := Nat.testBit_lt_two_pow (Nat.lt_of_lt_of_le hs (Nat.pow_le_pow_right (by omega) (by omega)))
    rw [this]
    simp
/-- the turn at node k -/
noncomputable def zj_st (τ : zx_τ) (cr lf : Int) (lim : Nat) (T : zj_T) (k : Nat) : zj_T :=
  match (if 2 ^ lim ≤ k then none else zj_Bs τ cr lf (T.2.1 k)) with
  | none => (zj_u T.1 k 1, T.2.1, T.2.2.1, T.2.2.2)
  | some q => (zj_u (zj_u (zj_u T.1 k 2) (2 * k) 0) (2 * k + 1) 0, zj_u (zj_u T.2.1 (2 * k) (zj_le τ (T.2.1 k) q.1 q.2 (zj_Ls τ (T.2.1 k) q.1 q.2))) (2 * k + 1) (zj_ri τ (T.2.1 k) q.1 q.2 (zj_Ls τ (T.2.1 k) q.1 q.2)), zj_u T.2.2.1 k q.1, zj_u T.2.2.2 k q.2)
theorem zj_st_l {τ : zx_τ} {cr lf : Int} {lim : Nat} {T : zj_T} {k : Nat} (h : 2 ^ lim ≤ k ∨ ∀ f t, zx_Ca τ lf (T.2.1 k) f t → zx_T τ cr (T.2.1 k) f t = 0) : zj_st τ cr lf lim T k = (zj_u T.1 k 1, T.2.1, T.2.2.1, T.2.2.2) := by
  have : (if 2 ^ lim ≤ k then none else zj_Bs τ cr lf (T.2.1 k)) = none := by
    rcases h with h | h
    · rw [if_pos h]
    · rw [zj_Bs_n h]; split <;> rfl
  unfold zj_st
  rw [this]
theorem zj_st_s {τ : zx_τ} {cr lf : Int} {lim : Nat} {T : zj_T} {k f0 : Nat} {t0 : Int} {L : List zw_E} (h : k < 2 ^ lim) (hb : zx_best τ cr (T.2.1 k) (zx_Ca τ lf (T.2.1 k)) f0 t0) (hL : zy_Ls τ (T.2.1 k) f0 t0 3 L) :
    zj_st τ cr lf lim T k = (zj_u (zj_u (zj_u T.1 k 2) (2 * k) 0) (2 * k + 1) 0, zj_u (zj_u T.2.1 (2 * k) (zj_le τ (T.2.1 k) f0 t0 L)) (2 * k + 1) (zj_ri τ (T.2.1 k) f0 t0 L), zj_u T.2.2.1 k f0, zj_u T.2.2.2 k t0) := by
  have : (if 2 ^ lim ≤ k then none else zj_Bs τ cr lf (T.2.1 k)) = some (f0, t0) := by
    rw [if_neg (by omega)]
    exact zj_Bs_s hb
  unfold zj_st
  rw [this]
  show (_, zj_u (zj_u T.2.1 (2 * k) (zj_le τ (T.2.1 k) f0 t0 (zj_Ls τ (T.2.1 k) f0 t0))) (2 * k + 1) (zj_ri τ (T.2.1 k) f0 t0 (zj_Ls τ (T.2.1 k) f0 t0)), _, _) = _
  rw [zj_Ls_is hL]
theorem zj_st_E {τ τ' : zx_τ} (h : zx_E τ τ') (cr lf : Int) (lim : Nat) (T : zj_T) (k : Nat) (hex : ∀ s f0 t0, f0 < 3 → ∃ L, zy_Ls τ s f0 t0 3 L) : zj_st τ cr lf lim T k = zj_st τ' cr lf lim T k := by
  by_cases hl : 2 ^ lim ≤ k
  · rw [zj_st_l (Or.inl hl), zj_st_l (Or.inl hl)]
  · by_cases hb : ∃ q : Nat × Int, zx_best τ cr (T.2.1 k) (zx_Ca τ lf (T.2.1 k)) q.1 q.2
    · obtain ⟨⟨f0, t0⟩, hb⟩ := hb
      have hf : f0 < 3 := hb.1.2
      obtain ⟨L, hL⟩ := hex (T.2.1 k) f0 t0 hf
      have hb' := zx_best_E1 h hb
      have hL' := zy_Ls_E1 h hf (Nat.le_refl 3) hL
      rw [zj_st_s (by omega) hb hL, zj_st_s (by omega) hb' hL']
      have hm := (zy_Ls_mem hf hL).2
      have e1 : zj_le τ (T.2.1 k) f0 t0 L = zj_le τ' (T.2.1 k) f0 t0 L := by
        unfold zj_le
        rw [← h.1]
        exact zs_mk_congr (fun i hi => by rw [zj_gl_E h _ hf t0 (fun e he => (hm e he).1) hi])
      have e2 : zj_ri τ (T.2.1 k) f0 t0 L = zj_ri τ' (T.2.1 k) f0 t0 L := by
        unfold zj_ri
        rw [← h.1]
        exact zs_mk_congr (fun i hi => by rw [zj_gl_E h _ hf t0 (fun e he => (hm e he).1) hi])
      rw [e1, e2]
    · have n1 : zj_Bs τ cr lf (T.2.1 k) = none := zj_pk_n (fun q hq => hb ⟨q, hq⟩)
      have n2 : zj_Bs τ' cr lf (T.2.1 k) = none := by rw [← zj_Bs_E h]; exact n1
      unfold zj_st
      rw [n1, n2, if_neg hl]

