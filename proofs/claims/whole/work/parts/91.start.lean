/-! the law's start -/
theorem zj_init {V2 : zg_V} (h : zr_an (zg_u (zg_u (zt_an zi_U 0) 223 6 4) 223 7 1) V2 0) : zj_A V2 200 0 := by
  have w0 : ∀ x, x ≠ 223 → zg_u (zg_u (zt_an zi_U 0) 223 6 4) 223 7 1 x = zt_an zi_U 0 x := fun x hx => by rw [zg_u_out _ _ _ _ hx, zg_u_out _ _ _ _ hx]
  have z : ∀ b, 222 < b → ∀ j, zt_an zi_U 0 b j = 0 := fun b hb j => by
    rw [zt_an_o _ _ (by omega) (by omega)]
    exact zi_U_0 (by omega) (by omega) (by omega) (by omega) (by omega) (by omega) (by omega) (fun i hi => by omega) j
  have u : ∀ b, 1 ≤ b → b ≤ 40 → ∀ j, zi_U b j = 0 := fun b b1 b2 j => zi_U_0 (by omega) (by omega) (by omega) (by omega) (by omega) (by omega) (by omega) (fun i hi => by omega) j
  have wf : ∀ j, j ≠ 6 → j ≠ 7 → zg_u (zg_u (zt_an zi_U 0) 223 6 4) 223 7 1 223 j = 0 := fun j j1 j2 => by rw [zg_u_off _ _ _ _ j2, zg_u_off _ _ _ _ j1]; exact z 223 (by decide) j
  refine ⟨0, _, 0, 4, 1, zj_J_new (U := zi_U) (W := zg_u (zg_u (zt_an zi_U 0) 223 6 4) 223 7 1) (fun b hb => ?_) zi_U_T (fun k hk => ?_) zi_U_S h ?_ ?_ ?_ ?_ ?_ ?_ ⟨zi_U_f.1, zi_U_f.2.1, zi_U_f.2.2⟩ ⟨wf 5 (by decide) (by decide), ?_, ?_⟩ ⟨by omega, by omega, by omega⟩ ?_⟩
  · rw [h.1 b (by omega), w0 b (by omega)]
  · rw [zi_U_0 (by omega) (by omega) (by omega) (by omega) (by omega) (by omega) (by omega) (fun i hi => by omega)]
    omega
  · refine ⟨by rw [wf 0 (by decide) (by decide)]; rfl, by decide, fun r f _ _ => by rw [w0 224 (by decide), z 224 (by decide)]; omega, fun r _ => by rw [w0 225 (by decide), z 225 (by decide)]; omega, fun r _ => by rw [w0 226 (by decide), z 226 (by decide)]; omega, ?_⟩
    show (0 : Int) ≤ 16
    omega
  · refine ⟨?_, ?_, ?_⟩
    · rw [wf 18 (by decide) (by decide)]; omega
    · rw [wf 24 (by decide) (by decide)]; omega
    · rw [wf 25 (by decide) (by decide)]; omega
  · rw [w0 225 (by decide)]
    funext j
    rw [u 19 (by decide) (by decide), z 225 (by decide)]
  · rw [w0 226 (by decide)]
    funext j
    rw [u 20 (by decide) (by decide), z 226 (by decide)]
  · intro r _
    exact u 20 (by decide) (by decide) r
  · intro r f hr hf
    rw [u (3 + r) (by omega) (by omega), w0 224 (by decide), z 224 (by decide)]
  · rw [zg_u_off _ _ _ _ (by decide), zg_u_in]; rfl
  · rw [zg_u_in]
  · intro r c hr hc
    rw [u (23 + r) (by omega) (by omega), w0 227 (by decide), z 227 (by decide)]
    exact ⟨rfl, by omega, by omega⟩
theorem zn_ins (ci : Nat) (h : ci < zn_nc) : Cond.instantiable (zn_C ci) (zn_n ci) ∈ zn_TS := by
  match ci, h with
  | 0, _ => exact zw_16
  | 1, _ => exact zw_24
  | 2, _ => exact zw_54
  | 3, _ => exact zw_67
  | 4, _ => exact zw_73
  | 5, _ => exact zw_92
  | 6, _ => exact zw_163
  | 7, _ => exact zw_179
  | 8, _ => exact zw_185
  | 9, _ => exact zw_219
  | 10, _ => exact zw_236
  | 11, _ => exact zw_632
section ZT91
variable {Γ : zg_C} {nm : String} {b L : Nat} {xs : Nat → Int32}
theorem zl_main (hL : L ≤ 2560) : zg_G Γ (zl_Ξ Γ b L xs) (zm_L nm) room_1 zl_Z 630056 7212080 0 [some (Value.ref b), none, none, none] [] zk_K 0 zi_0 zi_V0 := by
  have hz : ∀ x, 222 < x → ∀ j, zt_an zi_U 0 x j = 0 := fun x hb j => by
    rw [zt_an_o _ _ (by omega) (by omega)]
    exact zi_U_0 (by omega) (by omega) (by omega) (by omega) (by omega) (by omega) (by omega) (fun i hi => by omega) j
  refine zg_new (ci := 0) zd_Law_law_0 (by decide) zw_15 zw_16 zw_1 rfl (fun j => rfl) (fun j => rfl) (by decide) (by decide) ?_
  refine zg_dup zd_Law_law_3 rfl ?_
  refine zg_cI zd_Law_law_4 zM_Tree_init rfl zw_17 zi_Tree_init rfl (ci_Tree) (by decide) (by decide) (by omega) (by first | omega | (simp only [zn_n]; omega)) (Nat.le_of_ble_eq_true rfl) ?_
  refine zg_as1 zd_Law_law_7 (fun w h => by cases h <;> rfl) (Nat.le_of_ble_eq_true rfl) ?_
  refine zg_new (ci := 11) zd_Law_law_8 (by decide) zw_631 zw_632 zw_12 rfl (hz 223 (by decide)) (fun j => by rw [zg_up_out _ _ _ _ (by decide)]; rfl) (by decide) (by decide) ?_
  refine zg_dup zd_Law_law_11 rfl ?_
  refine zg_invI (As := []) (a := 223) zd_Law_law_12 zM_Ref_init rfl zw_633 zi_Ref_init rfl (ci_Ref (fun x hx j => hz x (by omega) j) (hz 223 (by decide)) zi_PQE) (by decide) (by decide) (by decide) (by decide) rfl (Nat.le_of_ble_eq_true rfl) rfl (fun r K1 N1 P1 V1 hq => ?_)
  obtain ⟨rfl, rfl, rfl, rfl, hq⟩ := hq
  refine zg_as2 zd_Law_law_15 (fun w h => by cases h <;> rfl) (Nat.le_of_ble_eq_true rfl) ?_
  refine zg_iconst zd_Law_law_16 ?_
  refine zg_is3 zd_Law_law_17 (fun w h => by cases h <;> rfl) (Nat.le_of_ble_eq_true rfl) ?_
  exact zg_bud (Nat.zero_le _) (Nat.zero_le _) (zl_loop hL (L + 1) 0 V1 200 0 (by omega) (by omega) (by omega) (zj_init hq))
end ZT91

