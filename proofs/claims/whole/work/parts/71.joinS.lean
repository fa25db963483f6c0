/-! the reference's search for breaks -/
def zr_bi (V U : zg_V) (e : Nat → Int) (S : Nat → Bool) (p q m : Nat) : Prop := zv_on (fun b => b = 223 ∨ (236 ≤ b ∧ b ≤ 241)) V U ∧ (∀ j, j ≠ 31 → U 223 j = V 223 j) ∧ U 223 31 = (m : Int) ∧ U 236 = e ∧ zr_bl (U 240) (U 241) m (fun x y => zc_Br e S x y ∧ (x < (p : Int) ∨ (x = (p : Int) ∧ y < (q : Int))))
section ZJ11
variable {V U W : zg_V} {e : Nat → Int} {S : Nat → Bool} {p q m : Nat}
theorem zr_bi_w (hW : zv_on (fun b => 237 ≤ b ∧ b ≤ 239) U W) (h : zr_bi V U e S p q m) : zr_bi V W e S p q m := by
  obtain ⟨a, b, c, d, f⟩ := h
  refine ⟨fun x hx => by rw [hW x (by omega)]; exact a x hx, ?_, ?_, ?_, ?_⟩
  · rw [hW 223 (by omega)]; exact b
  · rw [hW 223 (by omega)]; exact c
  · rw [hW 236 (by omega)]; exact d
  · rw [hW 240 (by omega), hW 241 (by omega)]; exact f
theorem zr_bi_no (hn : ¬ zc_Br e S (p : Int) (q : Int)) (h : zr_bi V U e S p q m) : zr_bi V U e S p (q + 1) m := by
  obtain ⟨a, b, c, d, f⟩ := h
  refine ⟨a, b, c, d, zr_bl_iff f (fun x y => ⟨fun z => ⟨z.1, by omega⟩, fun z => ⟨z.1, ?_⟩⟩)⟩
  by_cases hx : x = (p : Int) ∧ y = (q : Int)
  · obtain ⟨rfl, rfl⟩ := hx
    exact absurd z.1 hn
  · omega
theorem zr_bi_nl (h : zr_bi V U e S p 16 m) : zr_bi V U e S (p + 1) 1 m := by
  obtain ⟨a, b, c, d, f⟩ := h
  refine ⟨a, b, c, d, zr_bl_iff f (fun x y => ⟨fun z => ⟨z.1, by omega⟩, fun z => ⟨z.1, ?_⟩⟩)⟩
  have := z.1.1
  have := z.1.2.1
  omega
theorem zr_bi_pos (h : zr_bi V U e S p q m) : ∀ i, i < m → (1 ≤ U 240 i ∧ U 240 i ≤ 16) ∧ (1 ≤ U 241 i ∧ U 241 i ≤ 15) := fun i hi => ⟨(h.2.2.2.2.2.1 i hi).1.1, (h.2.2.2.2.2.1 i hi).1.2.1⟩
theorem zr_bi_15 (h16 : ∀ k, 1 ≤ k → k < 32 → S k = true → k < 16) (h : zr_bi V U e S p q m) : m ≤ 15 := zr_bl_15 (e := e) (S := S) h16 (fun _ _ z => z.1) h.2.2.2.2
theorem zr_bi_in (hb : zc_Br e S (p : Int) (q : Int)) (h : zr_bi V U e S p q m) (hi : zr_ins U W (p : Int) (q : Int) m) (h31 : W 223 31 = (m : Int) + 1) (hf : ∀ j, j ≠ 31 → W 223 j = U 223 j) (hW : zv_on (fun b => b = 223 ∨ b = 240 ∨ b = 241) U W) : zr_bi V W e S p (q + 1) (m + 1) := by
  have hpos := zr_bi_pos h
  obtain ⟨a, b, c, d, f⟩ := h
  refine ⟨fun x hx => by rw [hW x (by omega)]; exact a x hx, fun j hj => by rw [hf j hj]; exact b j hj, by rw [h31]; omega, by rw [hW 236 (by omega)]; exact d, ?_⟩
  refine zr_bl_ins f (fun i hi => ⟨(hpos i hi).1.1, (hpos i hi).2.1⟩) hb.2.1.1 (fun x y => ⟨fun z => ?_, fun z => ?_⟩) (fun i hi => ?_) hi
  · by_cases hx : x = (p : Int) ∧ y = (q : Int)
    · exact Or.inr hx
    · exact Or.inl ⟨z.1, by omega⟩
  · rcases z with z | ⟨rfl, rfl⟩
    · exact ⟨z.1, by omega⟩
    · exact ⟨hb, by omega⟩
  · obtain ⟨g1, g2⟩ := f.2.1 i hi
    have := hpos i hi
    exact zr_ne_lt (by omega) (by omega) (by have := hb.1; omega) (by have := hb.2.1; omega) g1.2.2.1 hb.2.2.1 (by omega)
theorem zr_bi_end (h : zr_bi V U e S 17 1 m) : (∀ i, i < m → zc_kt e S i (U 240 i) (U 241 i)) ∧ ∀ i, m ≤ i → ∀ x y, ¬ zc_kt e S i x y :=
  zr_bl_kt (zr_bl_iff h.2.2.2.2 (fun x y => ⟨fun z => z.1, fun z => ⟨z, by have := z.1; omega⟩⟩))
theorem zr_bi_qq (hs : zr_sc V) (h : zr_bi V U e S p q m) : zr_qq V U := by
  refine ⟨fun b hb => h.1 b (by omega), fun j hj => h.2.1 j (by omega), ?_⟩
  unfold zr_sc
  rw [h.2.1 18 (by decide), h.2.1 24 (by decide), h.2.1 25 (by decide)]
  exact hs
end ZJ11

