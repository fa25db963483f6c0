/-! costs do not look at absent nodes -/
def zj_D (e : Nat → Int) (S : Nat → Bool) (e' : Nat → Int) (S' : Nat → Bool) (D : Nat → Prop) : Prop := ∀ k, 1 ≤ k → k < 32 → S k = S' k ∧ (S k = true → D k ∧ k < 16 ∧ D (2 * k) ∧ D (2 * k + 1)) ∧ (D k → e k = e' k)
section ZJD
variable {e e' : Nat → Int} {S S' : Nat → Bool} {D : Nat → Prop}
theorem zj_C_c (h : zj_D e S e' S' D) (p q : Int) : ∀ k, 1 ≤ k → k < 32 → (D k → zc_C e S p q k = zc_C e' S' p q k) ∧ (zc_k e S p q k ↔ zc_k e' S' p q k) := by
  apply zc_ind
  intro k hk ih hk2
  obtain ⟨h2, h3, h1⟩ := h k hk hk2
  have hkk : zc_k e S p q k ↔ zc_k e' S' p q k := by
    unfold zc_k
    rw [h2]
    constructor
    · rintro ⟨a, b, c⟩
      obtain ⟨d0, d1, d2, d3⟩ := h3 (by rw [h2]; exact b)
      have i := ih hk2
      rw [(i.1 (by omega)).1 d2, (i.2 (by omega)).1 d3, h1 d0] at c
      exact ⟨a, b, c⟩
    · rintro ⟨a, b, c⟩
      obtain ⟨d0, d1, d2, d3⟩ := h3 (by rw [h2]; exact b)
      have i := ih hk2
      rw [← (i.1 (by omega)).1 d2, ← (i.2 (by omega)).1 d3, ← h1 d0] at c
      exact ⟨a, b, c⟩
  refine ⟨fun hD => ?_, hkk⟩
  by_cases g : zc_k e S p q k
  · obtain ⟨d0, d1, d2, d3⟩ := h3 g.2.1
    have i := ih hk2
    rw [zc_C_k g, zc_C_k (hkk.mp g), (i.1 (by omega)).1 d2, (i.2 (by omega)).1 d3]
  · rw [zc_C_n g, zc_C_n (fun z => g (hkk.mpr z)), h1 hD]
theorem zj_L_c (h : zj_D e S e' S' D) (p q : Int) : ∀ k, 1 ≤ k → k < 32 → zc_L e S p q k = zc_L e' S' p q k := by
  apply zc_ind
  intro k hk ih hk2
  have hkk := (zj_C_c h p q k hk hk2).2
  by_cases g : zc_k e S p q k
  · have := ((h k hk hk2).2.1 g.2.1).2.1
    have i := ih hk2
    rw [zc_L_k g, zc_L_k (hkk.mp g), i.1 (by omega), i.2 (by omega)]
  · rw [zc_L_n g, zc_L_n (fun z => g (hkk.mpr z))]
theorem zj_sh_c (h : zj_D e S e' S' D) {kd kd' : Nat → Int} (hk : ∀ k, 1 ≤ k → k < 32 → kd k = kd' k) (p q : Int) : ∀ k, 1 ≤ k → k < 32 → zc_sh e S kd p q k = zc_sh e' S' kd' p q k := by
  unfold zc_sh
  apply zt_do_c
  intro j j1 j2
  unfold zc_kk
  rw [hk j j1 j2]
  have hkk := (zj_C_c h p q j j1 j2).2
  by_cases g : zc_kb e S p q j = true
  · rw [if_pos g, if_pos (zc_kb_iff.mpr (hkk.mp (zc_kb_iff.mp g)))]
  · rw [if_neg g, if_neg (fun z => g (zc_kb_iff.mpr (hkk.mpr (zc_kb_iff.mp z))))]
theorem zj_Br_c (h : zj_D e S e' S' D) (x y : Int) : zc_Br e S x y ↔ zc_Br e' S' x y := by
  unfold zc_Br
  rw [zj_L_c h x y 1 (by omega) (by omega), zj_L_c h (1000 * x - 1) (1000 * y) 1 (by omega) (by omega)]
theorem zj_nb_c (h : zj_D e S e' S' D) (p q x y : Int) : zc_nb e S p q x y ↔ zc_nb e' S' p q x y := by
  unfold zc_nb
  constructor
  · rintro ⟨a, b, c⟩
    exact ⟨(zj_Br_c h x y).mp a, b, fun u v q => c u v ((zj_Br_c h u v).mpr q)⟩
  · rintro ⟨a, b, c⟩
    exact ⟨(zj_Br_c h x y).mpr a, b, fun u v q => c u v ((zj_Br_c h u v).mp q)⟩
theorem zj_kt_c (h : zj_D e S e' S' D) : ∀ m x y, zc_kt e S m x y ↔ zc_kt e' S' m x y
  | 0, x, y => zj_nb_c h 0 1 x y
  | m + 1, x, y => by
    constructor
    · rintro ⟨p, q, a, b⟩; exact ⟨p, q, (zj_kt_c h m p q).mp a, (zj_nb_c h p q x y).mp b⟩
    · rintro ⟨p, q, a, b⟩; exact ⟨p, q, (zj_kt_c h m p q).mpr a, (zj_nb_c h p q x y).mpr b⟩
end ZJD
theorem zt_lv_b2 (f : Nat → Int) : ∀ (m i : Nat), zt_lv f (m + 1) i = zt_lv f m i + (if f (i + m) = 1 then 1 else 0)
  | 0, i => by
    rw [zt_lv_s]
    show (if f i = 1 then 1 else 0) + (0 : Int) = 0 + (if f (i + 0) = 1 then 1 else 0)
    rw [Nat.add_zero]
    omega
  | m + 1, i => by
    rw [zt_lv_s, zt_lv_b2 f m (i + 1), zt_lv_s f m i, show i + 1 + m = i + (m + 1) by omega]
    omega
theorem zt_lv_sum (f : Nat → Int) (i : Nat) : ∀ m, zt_lv f m i = zs_sum (fun j => if f (i + j) = 1 then 1 else 0) m
  | 0 => rfl
  | m + 1 => by rw [zt_lv_b2, zs_sum_s, zt_lv_sum f i m]
/-! ### what holds between two calls of the law -/
def zj_P (V : zg_V) (n : Nat) : Prop := V 19 = V 225 ∧ V 20 = V 226 ∧ (∀ r, n ≤ r → V 20 r = 0) ∧ ∀ r f, r < 16 → f < 3 → V (3 + r) f = V 224 (3 * r + f)
def zj_S (V : zg_V) : Prop := zt_kd (V 203) ∧ zt_kd (V 217) ∧ V 217 0 ≠ 2
def zj_W (V : zg_V) (sh : Nat) (T : zj_T) : Prop := (sh = 200 ∧ V 223 12 = 0) ∨ (sh = 202 ∧ V 223 12 = 1 ∧ (0 ≤ V 223 13 ∧ V 223 13 ≤ 1000) ∧ (0 ≤ V 223 14 ∧ V 223 14 ≤ 1000) ∧ (∀ k, 1 ≤ k → k < 32 → T.1 k ≠ 0) ∧ ∀ k, 1 ≤ k → k < 32 → V 203 k = zc_sh (zt_er V) (zt_sp V) (V 201) (V 223 13) (V 223 14) k)
def zj_K (V : zg_V) (cr : Int) (lim : Nat) (lf : Int) : Prop := (V 0 10 = cr ∧ V 0 11 = (lim : Int) ∧ V 0 12 = lf) ∧ (V 223 5 = cr ∧ V 223 6 = (lim : Int) ∧ V 223 7 = lf) ∧ (0 ≤ cr ∧ cr ≤ 2) ∧ lim ≤ 4 ∧ (1 ≤ lf ∧ lf ≤ 8)
def zj_O (V : zg_V) (m : Nat) : Prop := ∀ r c, r < 16 → c < 4 → V (23 + r) c = V 227 (4 * r + c) ∧ 0 ≤ V (23 + r) c ∧ V (23 + r) c ≤ (m : Int)
def zj_J (V : zg_V) (sh n : Nat) (T : zj_T) (cr : Int) (lim : Nat) (lf : Int) (m : Nat) : Prop := zj_C V n T cr ∧ zj_R V n T cr ∧ zj_I T n lim ∧ zj_P V n ∧ zj_S V ∧ zj_W V sh T ∧ zj_K V cr lim lf ∧ zj_O V m
def zj_A (V : zg_V) (sh m : Nat) : Prop := ∃ n T cr lim lf, zj_J V sh n T cr lim lf m
theorem zj_P_E {V : zg_V} {n : Nat} (hn : n ≤ 16) (h : zj_P V n) : zx_E (zt_τ V n) (zr_τ V n) := by
  refine ⟨?_, fun r hr f hf => ?_⟩
  · show (V 19, V 20, n) = (V 225, V 226, n)
    rw [h.1, h.2.1]
  · have hr : r < n := hr
    exact h.2.2.2 r f (by omega) hf
theorem zj_rows {T : zj_T} {n lim : Nat} (hI : zj_I T n lim) (hn : n ≤ 16) {k : Nat} (hk : k < 32) : T.2.1 k < 65536 := Nat.lt_of_lt_of_le (hI.2.2.1 k hk) (Nat.pow_le_pow_right (n := 2) (by omega) hn)
section ZJ4
variable {V : zg_V} {sh n lim m : Nat} {T : zj_T} {cr lf : Int}
theorem zj_In (h : zj_J V sh n T cr lim lf m) : zr_In V n T.2.1 ∧ zr_Fe V T.2.2.1 ∧ zr_sc V := by
  obtain ⟨-, ⟨r1, r2, r3, r4⟩, hI, -, -, hW, -, -⟩ := h
  refine ⟨⟨fun k hk => ⟨(r2 k hk).2, zj_rows hI r1.2.1 hk⟩, fun k hk => ?_, fun k hk q => ?_, r1, ?_, ?_⟩, fun k hk q => ?_, r4⟩
  · have := hI.1 k hk
    have := (r2 k hk).1
    omega
  · have := (r2 k hk).1
    exact (hI.2.2.2.2.1 k hk (by omega)).1
  · rcases hW with q | q
    · exact Or.inl q.2
    · exact Or.inr q.2.1
  · intro h1
    rcases hW with q | ⟨-, -, q3, q4, q5, -⟩
    · have := q.2; omega
    · refine ⟨q3, q4, fun k k1 k2 z => ?_⟩
      have := (r2 k k2).1
      exact q5 k k1 k2 (by omega)
  · have := (r2 k hk).1
    have hk2 : T.1 k = 2 := by omega
    obtain ⟨a, b, c, -⟩ := hI.2.2.2.2.1 k hk hk2
    obtain ⟨d, e, -⟩ := r3 k hk hk2
    exact ⟨d, b, by rw [e]; exact c⟩
theorem zj_ms (h : zj_J V sh n T cr lim lf m) (s : Nat) : zt_mj (V 19) (V 20) s n 4 = (zr_ci (zt_ms (V 225) (V 226) s n) 3, zt_ms (V 225) (V 226) s n (zr_ci (zt_ms (V 225) (V 226) s n) 3)) ∧ zt_w (V 20) s n - (zt_mj (V 19) (V 20) s n 4).2 = zr_ek V n s := by
  have hP := h.2.2.2.1
  have hT := h.1.1
  have e : zt_mj (V 19) (V 20) s n 4 = (zr_ci (zt_ms (V 19) (V 20) s n) 3, zt_ms (V 19) (V 20) s n (zr_ci (zt_ms (V 19) (V 20) s n) 3)) := zt_mj_ci (zt_w_b hT.2.2.2.2.1 hT.2.1 _).1 3
  rw [hP.1, hP.2.1] at e
  rw [hP.1, hP.2.1]
  refine ⟨e, ?_⟩
  rw [e]
  rfl
/-- the nodes of both sides -/
theorem zj_node (h : zj_J V sh n T cr lim lf m) {k : Nat} (k1 : 1 ≤ k) (k2 : k < 32) (hp : T.1 k ≠ -1) : V (40 + 5 * k) 0 = (T.2.1 k : Int) ∧ V (40 + 5 * k) 1 = ((zr_ci (zt_ms (V 225) (V 226) (T.2.1 k) n) 3 : Nat) : Int) ∧ V (40 + 5 * k) 2 = zr_ek V n (T.2.1 k) := by
  obtain ⟨a, b, c⟩ := h.1.2.2.2.1 k k1 k2 hp
  obtain ⟨e1, e2⟩ := zj_ms h (T.2.1 k)
  refine ⟨a, ?_, ?_⟩
  · rw [b, e1]
  · rw [c, e2]
theorem zj_Dc (h : zj_J V sh n T cr lim lf m) : zj_D (zt_er V) (zt_sp V) (zr_er V n T.2.1) (zr_sp V) (fun k => T.1 k ≠ -1) := by
  intro k k1 k2
  have c2 := h.1.2.1 k k2
  have r2 := (h.2.1.2.1 k k2).1
  refine ⟨?_, fun q => ?_, fun q => ?_⟩
  · show decide (V 201 k = 2) = decide (V 228 k = 3)
    by_cases e : T.1 k = 2
    · rw [decide_eq_true (by omega), decide_eq_true (by omega)]
    · rw [decide_eq_false (by omega), decide_eq_false (by omega)]
  · have q : V 201 k = 2 := of_decide_eq_true q
    obtain ⟨a, -, -, b, c⟩ := h.2.2.1.2.2.2.2.1 k k2 (by omega)
    exact ⟨by omega, a, b, c⟩
  · show V (40 + 5 * k) 2 = if 0 < V 228 k then zr_ek V n (T.2.1 k) else 0
    have := h.2.2.1.1 k k2
    rw [if_pos (by omega), (zj_node h k1 k2 q).2.2]
theorem zj_kd (h : zj_J V sh n T cr lim lf m) : ∀ k, 1 ≤ k → k < 32 → V 201 k = zr_kd V k := by
  intro k k1 k2
  have c2 := h.1.2.1 k k2
  have r2 := (h.2.1.2.1 k k2).1
  unfold zr_kd
  omega
/-- both show the same kinds -/
theorem zj_kv (h : zj_J V sh n T cr lim lf m) (k : Int) : zt_at (V (sh + 1)) k = zr_kv V n T.2.1 k := by
  unfold zt_at zr_kv
  by_cases hk : 1 ≤ k ∧ k < 32
  · rw [if_pos hk, if_pos hk]
    have k1 : 1 ≤ k.toNat := by omega
    have k2 : k.toNat < 32 := by omega
    rcases h.2.2.2.2.2.1 with ⟨rfl, q⟩ | ⟨rfl, q, -, -, -, q6⟩
    · rw [if_neg (by omega)]
      exact zj_kd h _ k1 k2
    · rw [if_pos q]
      show V 203 k.toNat = _
      rw [q6 _ k1 k2]
      exact zj_sh_c (zj_Dc h) (zj_kd h) _ _ _ k1 k2
  · rw [if_neg hk, if_neg hk]
theorem zj_shk (h : zj_J V sh n T cr lim lf m) : zk_sh sh ∧ zt_kd (V (sh + 1)) := by
  rcases h.2.2.2.2.2.1 with ⟨rfl, -⟩ | ⟨rfl, -⟩
  · refine ⟨Or.inl rfl, fun k hk => ?_⟩
    show -1 ≤ V 201 k ∧ V 201 k ≤ 2
    rw [h.1.2.1 k hk]
    exact h.2.2.1.1 k hk
  · exact ⟨Or.inr (Or.inl rfl), h.2.2.2.2.1.1⟩
/-- what is shown is there -/
theorem zj_kv_p (h : zj_J V sh n T cr lim lf m) {k : Int} (hk : zr_kv V n T.2.1 k ≠ -1) : (1 ≤ k ∧ k < 32) ∧ T.1 k.toNat ≠ -1 ∧ (zr_kv V n T.2.1 k = 2 → T.1 k.toNat = 2) := by
  obtain ⟨b1, b2, b3, b4⟩ := zr_kv_b (zj_In h).1 k
  have hr := b3 (by omega)
  have r2 := (h.2.1.2.1 k.toNat (by omega)).1
  refine ⟨hr, fun q => hk ?_, fun q => ?_⟩
  · unfold zr_kv
    rw [if_pos hr]
    have hkd : zr_kd V k.toNat = -1 := by unfold zr_kd; omega
    split
    · have hS : zr_sp V k.toNat = false := by
        unfold zr_sp
        exact decide_eq_false (by omega)
      have hkk : zc_kk (zr_er V n T.2.1) (zr_sp V) (zr_kd V) (V 223 13) (V 223 14) k.toNat = -1 := by
        unfold zc_kk zc_kb
        rw [hS, hkd]
        simp
      rcases zt_do_f (zc_kk (zr_er V n T.2.1) (zr_sp V) (zr_kd V) (V 223 13) (V 223 14)) k.toNat with e | e
      · unfold zc_sh
        rw [e, hkk]
      · exact e
    · exact hkd
  · have := b4 q
    omega
theorem zj_Lf (h : zj_J V sh n T cr lim lf m) {k : Nat} (k1 : 1 ≤ k) (k2 : k < 32) (hk : T.1 k = 2) : ∃ L, zy_Ls (zt_τ V n) (T.2.1 k) (T.2.2.1 k) (T.2.2.2 k) 3 L ∧ zy_Ls (zr_τ V n) (T.2.1 k) (T.2.2.1 k) (V 231 k) 3 L ∧ zt_nd V (40 + 5 * k) (T.2.2.1 k) (T.2.2.2 k) L (zx_lean (zt_τ V n) (T.2.1 k) (T.2.2.1 k) (T.2.2.2 k)) ∧ V 231 k = T.2.2.2 k ∧ zx_lean (zt_τ V n) (T.2.1 k) (T.2.2.1 k) (T.2.2.2 k) = zr_lean (zr_τ V n) (T.2.1 k) (T.2.2.1 k) (V 231 k) := by
  obtain ⟨L, l1, l2, -⟩ := h.1.2.2.2.2 k k1 k2 hk
  have hE := zj_P_E h.1.1.2.1 h.2.2.2.1
  obtain ⟨-, e, -⟩ := h.2.1.2.2.1 k k2 hk
  rw [e]
  exact ⟨L, l1, zy_Ls_E1 hE l2.2.1 (Nat.le_refl 3) l1, l2, rfl, zx_lean_E hE _ l2.2.1 _⟩
end ZJ4

