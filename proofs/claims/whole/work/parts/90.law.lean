/-! the law -/
def zm_L (nm : String) : zg_M := (⟨"SurrogateTreeLaw", nm, "([I)Z"⟩, code, 4, some .boolean)
def zl_Ξ (Γ : zg_C) (b L : Nat) (xs : Nat → Int32) : State → Prop := fun s => s.heap.size = Γ.2.1 ∧ va_X b L xs s s.heap ∧ b < s.heap.size
def zl_Z (below : List Frame) (a : Array Value) (s : State) : State → Prop := fun t => ∃ o, t.status = .running ∧ Ended t below o ∧ o = .returned (some (.int 1)) ∧ Framed s o t [] 630056 7212080
theorem zj_A_up {V : zg_V} {sh m : Nat} (h : zj_A V sh m) : zj_A V sh (m + 1) := by
  obtain ⟨n, T, cr, lim, lf, hJ⟩ := h
  exact zj_A_id hJ
theorem zl_r (x : Int32) : -2147483648 ≤ x.toInt ∧ x.toInt < 2147483648 := ⟨Int32.le_toInt x, Int32.toInt_lt x⟩
theorem zl_and (x : Int32) : ∃ z : Nat, z < 32 ∧ Int32.ofInt x.toInt &&& Int32.ofInt 31 = Int32.ofInt (z : Int) := by
  refine ⟨x.toBitVec.toNat &&& 31, ?_, ?_⟩
  · have : x.toBitVec.toNat &&& 31 ≤ 31 := Nat.and_le_right
    omega
  · rw [Int32.ofInt_toInt]
    apply Int32.toBitVec_inj.1
    show x.toBitVec &&& BitVec.ofInt 32 31 = BitVec.ofInt 32 ((x.toBitVec.toNat &&& 31 : Nat) : Int)
    rw [BitVec.ofInt_natCast]
    apply BitVec.eq_of_toNat_eq
    rw [BitVec.toNat_and, BitVec.toNat_ofNat, Nat.mod_eq_of_lt]
    · rfl
    · have : x.toBitVec.toNat &&& 31 ≤ 31 := Nat.and_le_right
      omega
section ZL
variable {Γ : zg_C} {nm : String} {b L : Nat} {xs : Nat → Int32} {R : Room} {Ω : List Frame → Array Value → State → State → Prop} {bc bs pc N : Nat} {ls : List (Option Value)} {st : List Value} {K : zg_K} {P : zg_P} {V : zg_V}
theorem zl_len (hd : decode code pc = .ok (.arraylength, 1)) (k : zg_G Γ (zl_Ξ Γ b L xs) (zm_L nm) R Ω bc bs (pc + 1) ls (zg_i (L : Int) :: st) K N P V) : zg_G Γ (zl_Ξ Γ b L xs) (zm_L nm) R Ω bc bs pc ls (Value.ref b :: st) K N P V := by
  intro p e s m args below meth c H locs cells slots lz X Y
  obtain ⟨g1, g2, g3⟩ := X.2.2.2.2.2.2.2.2.2.2
  have e0 : Int32.ofNat L = Int32.ofInt (L : Int) := by
    apply Int32.toBitVec_inj.1
    show BitVec.ofNat 32 L = BitVec.ofInt 32 (L : Int)
    rw [BitVec.ofInt_natCast]
  refine va_slen X.1 X.2.1 g2 g3 (by show ¬ Γ.2.1 ≤ b; omega) Y.2.2.1 hd ?_
  rw [e0]
  exact k p e s m args below meth c H locs cells slots lz X Y
theorem zl_al0 {a : Addr} {rs : List (Option Value)} (hd : decode code pc = .ok (.aload_n 0, 1)) (k : zg_G Γ (zl_Ξ Γ b L xs) (zm_L nm) R Ω bc bs (pc + 1) (some (Value.ref a) :: rs) (Value.ref a :: st) K N P V) : zg_G Γ (zl_Ξ Γ b L xs) (zm_L nm) R Ω bc bs pc (some (Value.ref a) :: rs) st K N P V := by
  intro p e s m args below meth c H locs cells slots lz X Y
  exact lv_aload_n X.1 X.2.1 hd rfl (Y.1.2.2 0 _ rfl) (k p e s m args below meth c H locs cells slots lz X Y)
theorem zl_ld {j : Nat} {z : Int} (hd : decode code pc = .ok (.iaload, 1)) (hz : z = (j : Int)) (hj : j < L) (hL : L ≤ 2560) (k : zg_G Γ (zl_Ξ Γ b L xs) (zm_L nm) R Ω bc bs (pc + 1) ls (zg_i (xs j).toInt :: st) K N P V) : zg_G Γ (zl_Ξ Γ b L xs) (zm_L nm) R Ω bc bs pc ls (zg_i z :: Value.ref b :: st) K N P V := by
  intro p e s m args below meth c H locs cells slots lz X Y
  obtain ⟨g1, g2, g3⟩ := X.2.2.2.2.2.2.2.2.2.2
  refine va_sld X.1 X.2.1 g2 g3 (by show ¬ Γ.2.1 ≤ b; omega) Y.2.2.1 (zg_in hz hj (by omega)) hd ?_
  have h := k p e s m args below meth c H locs cells slots lz X Y
  have e1 : zg_i (xs j).toInt = Value.int (xs j) := by
    show Value.int (Int32.ofInt (xs j).toInt) = _
    rw [Int32.ofInt_toInt]
  rw [e1] at h
  rw [zg_nat hz (by omega)]
  exact h
theorem zl_tsI {dflt hi off : Int} {offs : Array Int} {len x tgt : Nat} (hd : decode code pc = .ok (.tableswitch dflt 0 hi offs, len)) (hx : (x : Int) ≤ hi) (hx2 : x < 2147483648) (ho : offs[x]? = some off) (ht : (pc : Int) + off = (tgt : Int)) (k : zg_G Γ (zl_Ξ Γ b L xs) (zm_L nm) R Ω bc bs tgt ls st K N P V) : zg_G Γ (zl_Ξ Γ b L xs) (zm_L nm) R Ω bc bs pc ls (zg_i (x : Nat) :: st) K N P V := by
  intro p e s m args below meth c H locs cells slots lz X Y
  have e0 : (Int32.ofInt (x : Int)).toInt = (x : Int) := Int32.toInt_ofInt_of_le (by omega) (by omega)
  exact lv_tableIn (x := Int32.ofInt (x : Int)) X.1 X.2.1 hd (by rw [e0]; omega) (by rw [e0]; omega) (by rw [e0, show ((x : Int) - 0).toNat = x by omega]; exact ho) ht (k p e s m args below meth c H locs cells slots lz X Y)
theorem zl_tsO {dflt hi : Int} {offs : Array Int} {len x tgt : Nat} (hd : decode code pc = .ok (.tableswitch dflt 0 hi offs, len)) (hx : hi < (x : Int)) (hx2 : x < 2147483648) (ht : (pc : Int) + dflt = (tgt : Int)) (k : zg_G Γ (zl_Ξ Γ b L xs) (zm_L nm) R Ω bc bs tgt ls st K N P V) : zg_G Γ (zl_Ξ Γ b L xs) (zm_L nm) R Ω bc bs pc ls (zg_i (x : Nat) :: st) K N P V := by
  intro p e s m args below meth c H locs cells slots lz X Y
  have e0 : (Int32.ofInt (x : Int)).toInt = (x : Int) := Int32.toInt_ofInt_of_le (by omega) (by omega)
  exact lv_tableOut (x := Int32.ofInt (x : Int)) X.1 X.2.1 hd (by rw [e0]; omega) ht (k p e s m args below meth c H locs cells slots lz X Y)
/-- the law's end -/
theorem zl_ret (hd : decode code pc = .ok (.ireturn, 1)) : zg_G Γ (zl_Ξ Γ b L xs) (zm_L nm) room_1 zl_Z bc bs pc ls [zg_i 1] K N P V := by
  intro p e s m args below meth c H locs cells slots lz X Y
  obtain ⟨g1, g2, g3⟩ := X.2.2.2.2.2.2.2.2.2.2
  have hc : cells + bc ≤ 630056 := Y.2.2.2.1
  have hs : slots + bs ≤ 7212080 := Y.2.2.2.2
  refine va_forget (fun q hq => ?_) (W.widen (k := 630056) (n := 7212080) (by omega) (by omega) ?_)
  · have : Γ.2.1 ≤ q.base := Y.2.2.1.2.2 q hq
    rw [g1]
    exact this
  have hx := X.1
  have hb := X.2.1
  have hr : meth.sig.returnType = ret := X.2.2.2.1
  have hlocks := X.2.2.2.2.1
  intro T hT XS
  obtain ⟨fs, hret, hrun, hended, hW, hframe⟩ := XS.leave (v := some (.int 1)) (hlocks := hlocks) (fun h => by rw [hr] at h; cases h)
  have hmeth' : T.vm.method? m = some meth := XS.method'
  refine ⟨T.setFrames fs, ?_, .returned (some (.int 1)), hrun, hended, rfl, ⟨_, rfl⟩, hW, hframe⟩
  have hb' : c.code = code := hb
  show Steps p.tables e below (T.setTop (F0 m pc lz [.int 1])) _
  jvm_step XS.here [XS.here.top, hx, hb', hd, hmeth', hr, ret, narrow_b1]
  (try refine ⟨rfl, ?_⟩); (try refine ⟨rfl, ?_⟩)
  first | (intro acts; rw [hret _ acts rfl rfl rfl]) | rw [hret _ _ rfl rfl rfl]
  exact Steps.refl _
end ZL
section ZLoop
variable {Γ : zg_C} {nm : String} {b L : Nat} {xs : Nat → Int32}
theorem zl_body {i m sh z : Nat} {V : zg_V} (hL : L ≤ 2560) (h5 : i + 5 ≤ L) (hm : m ≤ i) (hA : zj_A V sh m) (nxt : ∀ (V2 : zg_V) (sh1 : Nat), zj_A V2 sh1 (m + 1) → zg_G Γ (zl_Ξ Γ b L xs) (zm_L nm) room_1 zl_Z 0 0 670 [some (Value.ref b), some (zg_r Γ (0)), some (zg_r Γ (223)), some (zg_i ((i : Nat)))] [] zk_K (242) (zk_P sh1) (V2))
    (r1 : -2147483648 ≤ (xs (i + 1)).toInt ∧ (xs (i + 1)).toInt < 2147483648) (r2 : -2147483648 ≤ (xs (i + 2)).toInt ∧ (xs (i + 2)).toInt < 2147483648) (r3 : -2147483648 ≤ (xs (i + 3)).toInt ∧ (xs (i + 3)).toInt < 2147483648) (r4 : -2147483648 ≤ (xs (i + 4)).toInt ∧ (xs (i + 4)).toInt < 2147483648) (hz : z < 32) (hzand : Int32.ofInt (xs (i + 0)).toInt &&& Int32.ofInt 31 = Int32.ofInt (z : Int)) : zg_G Γ (zl_Ξ Γ b L xs) (zm_L nm) room_1 zl_Z 0 0 26 [some (Value.ref b), some (zg_r Γ (0)), some (zg_r Γ (223)), some (zg_i ((i : Nat)))] [] zk_K (242) ((zk_P sh)) (V) := by
  have c0 : zg_G Γ (zl_Ξ Γ b L xs) (zm_L nm) room_1 zl_Z 0 0 124 [some (Value.ref b), some (zg_r Γ (0)), some (zg_r Γ (223)), some (zg_i ((i : Nat)))] [] zk_K (242) ((zk_P sh)) (V) := by
    refine zg_al1 zd_Law_law_124 ?_
    refine zl_al0 zd_Law_law_125 ?_
    refine zg_il3 zd_Law_law_126 ?_
    refine zg_iconst zd_Law_law_127 ?_
    refine zg_iadd zd_Law_law_128 ?_
    refine zl_ld (j := i + 1) zd_Law_law_129 (by omega) (by omega) hL ?_
    refine zl_al0 zd_Law_law_130 ?_
    refine zg_il3 zd_Law_law_131 ?_
    refine zg_iconst zd_Law_law_132 ?_
    refine zg_iadd zd_Law_law_133 ?_
    refine zl_ld (j := i + 2) zd_Law_law_134 (by omega) (by omega) hL ?_
    refine zl_al0 zd_Law_law_135 ?_
    refine zg_il3 zd_Law_law_136 ?_
    refine zg_iconst zd_Law_law_137 ?_
    refine zg_iadd zd_Law_law_138 ?_
    refine zl_ld (j := i + 3) zd_Law_law_139 (by omega) (by omega) hL ?_
    refine zl_al0 zd_Law_law_140 ?_
    refine zg_il3 zd_Law_law_141 ?_
    refine zg_iconst zd_Law_law_142 ?_
    refine zg_iadd zd_Law_law_143 ?_
    refine zl_ld (j := i + 4) zd_Law_law_144 (by omega) (by omega) hL ?_
    refine zg_cVs4 zd_Law_law_145 zM_Tree_addRow zw_333 zi_Tree_addRow zs_Tree_addRow (zo_addRow hA r1 r2 r3 r4) (by decide) (by decide) (by omega) (by first | assumption | rfl) (by decide) rfl (Nat.le_of_ble_eq_true rfl) ?_
    intro r P1 V1 hq
    obtain ⟨sh1, rfl, ⟨y, rfl⟩, hS⟩ := hq
    refine zg_al2 zd_Law_law_148 ?_
    refine zl_al0 zd_Law_law_149 ?_
    refine zg_il3 zd_Law_law_150 ?_
    refine zg_iconst zd_Law_law_151 ?_
    refine zg_iadd zd_Law_law_152 ?_
    refine zl_ld (j := i + 1) zd_Law_law_153 (by omega) (by omega) hL ?_
    refine zl_al0 zd_Law_law_154 ?_
    refine zg_il3 zd_Law_law_155 ?_
    refine zg_iconst zd_Law_law_156 ?_
    refine zg_iadd zd_Law_law_157 ?_
    refine zl_ld (j := i + 2) zd_Law_law_158 (by omega) (by omega) hL ?_
    refine zl_al0 zd_Law_law_159 ?_
    refine zg_il3 zd_Law_law_160 ?_
    refine zg_iconst zd_Law_law_161 ?_
    refine zg_iadd zd_Law_law_162 ?_
    refine zl_ld (j := i + 3) zd_Law_law_163 (by omega) (by omega) hL ?_
    refine zl_al0 zd_Law_law_164 ?_
    refine zg_il3 zd_Law_law_165 ?_
    refine zg_iconst zd_Law_law_166 ?_
    refine zg_iadd zd_Law_law_167 ?_
    refine zl_ld (j := i + 4) zd_Law_law_168 (by omega) (by omega) hL ?_
    refine zg_cVr4 zd_Law_law_169 zM_Ref_addRow zw_746 zi_Ref_addRow zs_Ref_addRow (hS) (by decide) (by decide) (by omega) (by first | assumption | rfl) (by decide) rfl (Nat.le_of_ble_eq_true rfl) ?_
    intro r2 V2 hq2
    obtain ⟨rfl, hA2⟩ := hq2
    refine zg_icmp_eq_rf (tgt := 670) zd_Law_law_172 (by decide) ?_
    exact nxt V2 sh1 hA2
  have c1 : zg_G Γ (zl_Ξ Γ b L xs) (zm_L nm) room_1 zl_Z 0 0 177 [some (Value.ref b), some (zg_r Γ (0)), some (zg_r Γ (223)), some (zg_i ((i : Nat)))] [] zk_K (242) ((zk_P sh)) (V) := by
    refine zg_al1 zd_Law_law_177 ?_
    refine zl_al0 zd_Law_law_178 ?_
    refine zg_il3 zd_Law_law_179 ?_
    refine zg_iconst zd_Law_law_180 ?_
    refine zg_iadd zd_Law_law_181 ?_
    refine zl_ld (j := i + 1) zd_Law_law_182 (by omega) (by omega) hL ?_
    refine zl_al0 zd_Law_law_183 ?_
    refine zg_il3 zd_Law_law_184 ?_
    refine zg_iconst zd_Law_law_185 ?_
    refine zg_iadd zd_Law_law_186 ?_
    refine zl_ld (j := i + 2) zd_Law_law_187 (by omega) (by omega) hL ?_
    refine zl_al0 zd_Law_law_188 ?_
    refine zg_il3 zd_Law_law_189 ?_
    refine zg_iconst zd_Law_law_190 ?_
    refine zg_iadd zd_Law_law_191 ?_
    refine zl_ld (j := i + 3) zd_Law_law_192 (by omega) (by omega) hL ?_
    refine zg_cVs3 zd_Law_law_193 zM_Tree_begin zw_352 zi_Tree_begin zs_Tree_begin (zo_begin hA r1 r2 r3) (by decide) (by decide) (by omega) (by first | assumption | rfl) (by decide) rfl (Nat.le_of_ble_eq_true rfl) ?_
    intro r P1 V1 hq
    obtain ⟨sh1, rfl, ⟨y, rfl⟩, hS⟩ := hq
    refine zg_al2 zd_Law_law_196 ?_
    refine zl_al0 zd_Law_law_197 ?_
    refine zg_il3 zd_Law_law_198 ?_
    refine zg_iconst zd_Law_law_199 ?_
    refine zg_iadd zd_Law_law_200 ?_
    refine zl_ld (j := i + 1) zd_Law_law_201 (by omega) (by omega) hL ?_
    refine zl_al0 zd_Law_law_202 ?_
    refine zg_il3 zd_Law_law_203 ?_
    refine zg_iconst zd_Law_law_204 ?_
    refine zg_iadd zd_Law_law_205 ?_
    refine zl_ld (j := i + 2) zd_Law_law_206 (by omega) (by omega) hL ?_
    refine zl_al0 zd_Law_law_207 ?_
    refine zg_il3 zd_Law_law_208 ?_
    refine zg_iconst zd_Law_law_209 ?_
    refine zg_iadd zd_Law_law_210 ?_
    refine zl_ld (j := i + 3) zd_Law_law_211 (by omega) (by omega) hL ?_
    refine zg_cVr3 zd_Law_law_212 zM_Ref_begin zw_754 zi_Ref_begin zs_Ref_begin (hS) (by decide) (by decide) (by omega) (by first | assumption | rfl) (by decide) rfl (Nat.le_of_ble_eq_true rfl) ?_
    intro r2 V2 hq2
    obtain ⟨rfl, hA2⟩ := hq2
    refine zg_icmp_eq_rf (tgt := 670) zd_Law_law_215 (by decide) ?_
    exact nxt V2 sh1 hA2
  have c2 : zg_G Γ (zl_Ξ Γ b L xs) (zm_L nm) room_1 zl_Z 0 0 220 [some (Value.ref b), some (zg_r Γ (0)), some (zg_r Γ (223)), some (zg_i ((i : Nat)))] [] zk_K (242) ((zk_P sh)) (V) := by
    refine zg_al1 zd_Law_law_220 ?_
    refine zl_al0 zd_Law_law_221 ?_
    refine zg_il3 zd_Law_law_222 ?_
    refine zg_iconst zd_Law_law_223 ?_
    refine zg_iadd zd_Law_law_224 ?_
    refine zl_ld (j := i + 1) zd_Law_law_225 (by omega) (by omega) hL ?_
    refine zg_i2l zd_Law_law_226 (by omega) ?_
    refine zg_bipush zd_Law_law_227 (by decide) ?_
    refine zg_lshl _ zd_Law_law_229 (Int64.ofInt_toInt _).symm ?_
    refine zl_al0 zd_Law_law_230 ?_
    refine zg_il3 zd_Law_law_231 ?_
    refine zg_iconst zd_Law_law_232 ?_
    refine zg_iadd zd_Law_law_233 ?_
    refine zl_ld (j := i + 2) zd_Law_law_234 (by omega) (by omega) hL ?_
    refine zg_i2l zd_Law_law_235 (by omega) ?_
    refine zg_ldc2 (4294967295) zd_Law_law_236 zw_919 (by decide) ?_
    refine zg_land _ zd_Law_law_239 (Int64.ofInt_toInt _).symm ?_
    refine zg_lor _ zd_Law_law_240 (Int64.ofInt_toInt _).symm ?_
    refine zg_cVs1 zd_Law_law_241 zM_Tree_bag zw_356 zi_Tree_bag zs_Tree_bag (zo_bag hA) (by decide) (by decide) (by omega) (by first | assumption | rfl) (by decide) rfl (Nat.le_of_ble_eq_true rfl) ?_
    intro r P1 V1 hq
    obtain ⟨sh1, rfl, ⟨y, rfl⟩, hS⟩ := hq
    refine zg_al2 zd_Law_law_244 ?_
    refine zl_al0 zd_Law_law_245 ?_
    refine zg_il3 zd_Law_law_246 ?_
    refine zg_iconst zd_Law_law_247 ?_
    refine zg_iadd zd_Law_law_248 ?_
    refine zl_ld (j := i + 1) zd_Law_law_249 (by omega) (by omega) hL ?_
    refine zg_i2l zd_Law_law_250 (by omega) ?_
    refine zg_bipush zd_Law_law_251 (by decide) ?_
    refine zg_lshl _ zd_Law_law_253 (Int64.ofInt_toInt _).symm ?_
    refine zl_al0 zd_Law_law_254 ?_
    refine zg_il3 zd_Law_law_255 ?_
    refine zg_iconst zd_Law_law_256 ?_
    refine zg_iadd zd_Law_law_257 ?_
    refine zl_ld (j := i + 2) zd_Law_law_258 (by omega) (by omega) hL ?_
    refine zg_i2l zd_Law_law_259 (by omega) ?_
    refine zg_ldc2 (4294967295) zd_Law_law_260 zw_919 (by decide) ?_
    refine zg_land _ zd_Law_law_263 (Int64.ofInt_toInt _).symm ?_
    refine zg_lor _ zd_Law_law_264 (Int64.ofInt_toInt _).symm ?_
    refine zg_cVr1 zd_Law_law_265 zM_Ref_bag zw_758 zi_Ref_bag zs_Ref_bag (hS) (by decide) (by decide) (by omega) (by first | assumption | rfl) (by decide) rfl (Nat.le_of_ble_eq_true rfl) ?_
    intro r2 V2 hq2
    obtain ⟨rfl, hA2⟩ := hq2
    refine zg_icmp_eq_rf (tgt := 670) zd_Law_law_268 (by decide) ?_
    exact nxt V2 sh1 hA2
  have c3 : zg_G Γ (zl_Ξ Γ b L xs) (zm_L nm) room_1 zl_Z 0 0 273 [some (Value.ref b), some (zg_r Γ (0)), some (zg_r Γ (223)), some (zg_i ((i : Nat)))] [] zk_K (242) ((zk_P sh)) (V) := by
    refine zg_al1 zd_Law_law_273 ?_
    refine zg_cVs0 zd_Law_law_274 zM_Tree_even zw_377 zi_Tree_even zs_Tree_even (zo_even hA) (by decide) (by decide) (by omega) (by first | assumption | rfl) (by decide) rfl (Nat.le_of_ble_eq_true rfl) ?_
    intro r P1 V1 hq
    obtain ⟨sh1, rfl, rfl, hS⟩ := hq
    refine zg_al2 zd_Law_law_277 ?_
    refine zg_cVr0 zd_Law_law_278 zM_Ref_even zw_764 zi_Ref_even zs_Ref_even (hS) (by decide) (by decide) (by omega) (by first | assumption | rfl) (by decide) rfl (Nat.le_of_ble_eq_true rfl) ?_
    intro r2 V2 hq2
    obtain ⟨rfl, hA2⟩ := hq2
    refine zg_goto (tgt := 670) zd_Law_law_281 (by decide) ?_
    exact nxt V2 sh1 hA2
  have c4 : zg_G Γ (zl_Ξ Γ b L xs) (zm_L nm) room_1 zl_Z 0 0 284 [some (Value.ref b), some (zg_r Γ (0)), some (zg_r Γ (223)), some (zg_i ((i : Nat)))] [] zk_K (242) ((zk_P sh)) (V) := by
    refine zg_al1 zd_Law_law_284 ?_
    refine zl_al0 zd_Law_law_285 ?_
    refine zg_il3 zd_Law_law_286 ?_
    refine zg_iconst zd_Law_law_287 ?_
    refine zg_iadd zd_Law_law_288 ?_
    refine zl_ld (j := i + 1) zd_Law_law_289 (by omega) (by omega) hL ?_
    refine zg_cVs1 zd_Law_law_290 zM_Tree_weight zw_381 zi_Tree_weight zs_Tree_weight (zo_weight hA r1) (by decide) (by decide) (by omega) (by first | assumption | rfl) (by decide) rfl (Nat.le_of_ble_eq_true rfl) ?_
    intro r P1 V1 hq
    obtain ⟨sh1, rfl, ⟨y, rfl⟩, hS⟩ := hq
    refine zg_al2 zd_Law_law_293 ?_
    refine zl_al0 zd_Law_law_294 ?_
    refine zg_il3 zd_Law_law_295 ?_
    refine zg_iconst zd_Law_law_296 ?_
    refine zg_iadd zd_Law_law_297 ?_
    refine zl_ld (j := i + 1) zd_Law_law_298 (by omega) (by omega) hL ?_
    refine zg_cVr1 zd_Law_law_299 zM_Ref_weight zw_765 zi_Ref_weight zs_Ref_weight (hS) (by decide) (by decide) (by omega) (by first | assumption | rfl) (by decide) rfl (Nat.le_of_ble_eq_true rfl) ?_
    intro r2 V2 hq2
    obtain ⟨rfl, hA2⟩ := hq2
    refine zg_icmp_eq_rf (tgt := 670) zd_Law_law_302 (by decide) ?_
    exact nxt V2 sh1 hA2
  have c5 : zg_G Γ (zl_Ξ Γ b L xs) (zm_L nm) room_1 zl_Z 0 0 307 [some (Value.ref b), some (zg_r Γ (0)), some (zg_r Γ (223)), some (zg_i ((i : Nat)))] [] zk_K (242) ((zk_P sh)) (V) := by
    refine zg_al1 zd_Law_law_307 ?_
    refine zl_al0 zd_Law_law_308 ?_
    refine zg_il3 zd_Law_law_309 ?_
    refine zg_iconst zd_Law_law_310 ?_
    refine zg_iadd zd_Law_law_311 ?_
    refine zl_ld (j := i + 1) zd_Law_law_312 (by omega) (by omega) hL ?_
    refine zg_cVs1 zd_Law_law_313 zM_Tree_grow zw_389 zi_Tree_grow zs_Tree_grow (zo_grow hA r1) (by decide) (by decide) (by omega) (by first | assumption | rfl) (by decide) rfl (Nat.le_of_ble_eq_true rfl) ?_
    intro r P1 V1 hq
    obtain ⟨sh1, rfl, ⟨y, rfl⟩, hS⟩ := hq
    refine zg_al2 zd_Law_law_316 ?_
    refine zl_al0 zd_Law_law_317 ?_
    refine zg_il3 zd_Law_law_318 ?_
    refine zg_iconst zd_Law_law_319 ?_
    refine zg_iadd zd_Law_law_320 ?_
    refine zl_ld (j := i + 1) zd_Law_law_321 (by omega) (by omega) hL ?_
    refine zg_cVr1 zd_Law_law_322 zM_Ref_grow zw_769 zi_Ref_grow zs_Ref_grow (hS) (by decide) (by decide) (by omega) (by first | assumption | rfl) (by decide) rfl (Nat.le_of_ble_eq_true rfl) ?_
    intro r2 V2 hq2
    obtain ⟨rfl, hA2⟩ := hq2
    refine zg_icmp_eq_rf (tgt := 670) zd_Law_law_325 (by decide) ?_
    exact nxt V2 sh1 hA2
  have c6 : zg_G Γ (zl_Ξ Γ b L xs) (zm_L nm) room_1 zl_Z 0 0 330 [some (Value.ref b), some (zg_r Γ (0)), some (zg_r Γ (223)), some (zg_i ((i : Nat)))] [] zk_K (242) ((zk_P sh)) (V) := by
    refine zg_al1 zd_Law_law_330 ?_
    refine zl_al0 zd_Law_law_331 ?_
    refine zg_il3 zd_Law_law_332 ?_
    refine zg_iconst zd_Law_law_333 ?_
    refine zg_iadd zd_Law_law_334 ?_
    refine zl_ld (j := i + 1) zd_Law_law_335 (by omega) (by omega) hL ?_
    refine zg_cVs1 zd_Law_law_336 zM_Tree_kind zw_524 zi_Tree_kind zs_Tree_kind (zo_kind hA r1) (by decide) (by decide) (by omega) (by first | assumption | rfl) (by decide) rfl (Nat.le_of_ble_eq_true rfl) ?_
    intro r P1 V1 hq
    obtain ⟨sh1, rfl, ⟨y, rfl⟩, hS⟩ := hq
    refine zg_al2 zd_Law_law_339 ?_
    refine zl_al0 zd_Law_law_340 ?_
    refine zg_il3 zd_Law_law_341 ?_
    refine zg_iconst zd_Law_law_342 ?_
    refine zg_iadd zd_Law_law_343 ?_
    refine zl_ld (j := i + 1) zd_Law_law_344 (by omega) (by omega) hL ?_
    refine zg_cVr1 zd_Law_law_345 zM_Ref_kind zw_840 zi_Ref_kind zs_Ref_kind (hS) (by decide) (by decide) (by omega) (by first | assumption | rfl) (by decide) rfl (Nat.le_of_ble_eq_true rfl) ?_
    intro r2 V2 hq2
    obtain ⟨rfl, hA2⟩ := hq2
    refine zg_icmp_eq_rf (tgt := 670) zd_Law_law_348 (by decide) ?_
    exact nxt V2 sh1 hA2
  have c7 : zg_G Γ (zl_Ξ Γ b L xs) (zm_L nm) room_1 zl_Z 0 0 353 [some (Value.ref b), some (zg_r Γ (0)), some (zg_r Γ (223)), some (zg_i ((i : Nat)))] [] zk_K (242) ((zk_P sh)) (V) := by
    refine zg_al1 zd_Law_law_353 ?_
    refine zl_al0 zd_Law_law_354 ?_
    refine zg_il3 zd_Law_law_355 ?_
    refine zg_iconst zd_Law_law_356 ?_
    refine zg_iadd zd_Law_law_357 ?_
    refine zl_ld (j := i + 1) zd_Law_law_358 (by omega) (by omega) hL ?_
    refine zl_al0 zd_Law_law_359 ?_
    refine zg_il3 zd_Law_law_360 ?_
    refine zg_iconst zd_Law_law_361 ?_
    refine zg_iadd zd_Law_law_362 ?_
    refine zl_ld (j := i + 2) zd_Law_law_363 (by omega) (by omega) hL ?_
    refine zg_cVs2 zd_Law_law_364 zM_Tree_rule zw_532 zi_Tree_rule zs_Tree_rule (zo_rule hA r1 r2) (by decide) (by decide) (by omega) (by first | assumption | rfl) (by decide) rfl (Nat.le_of_ble_eq_true rfl) ?_
    intro r P1 V1 hq
    obtain ⟨sh1, rfl, ⟨y, rfl⟩, hS⟩ := hq
    refine zg_al2 zd_Law_law_367 ?_
    refine zl_al0 zd_Law_law_368 ?_
    refine zg_il3 zd_Law_law_369 ?_
    refine zg_iconst zd_Law_law_370 ?_
    refine zg_iadd zd_Law_law_371 ?_
    refine zl_ld (j := i + 1) zd_Law_law_372 (by omega) (by omega) hL ?_
    refine zl_al0 zd_Law_law_373 ?_
    refine zg_il3 zd_Law_law_374 ?_
    refine zg_iconst zd_Law_law_375 ?_
    refine zg_iadd zd_Law_law_376 ?_
    refine zl_ld (j := i + 2) zd_Law_law_377 (by omega) (by omega) hL ?_
    refine zg_cVr2 zd_Law_law_378 zM_Ref_rule zw_856 zi_Ref_rule zs_Ref_rule (hS) (by decide) (by decide) (by omega) (by first | assumption | rfl) (by decide) rfl (Nat.le_of_ble_eq_true rfl) ?_
    intro r2 V2 hq2
    obtain ⟨rfl, hA2⟩ := hq2
    refine zg_icmp_eq_rf (tgt := 670) zd_Law_law_381 (by decide) ?_
    exact nxt V2 sh1 hA2
  have c8 : zg_G Γ (zl_Ξ Γ b L xs) (zm_L nm) room_1 zl_Z 0 0 386 [some (Value.ref b), some (zg_r Γ (0)), some (zg_r Γ (223)), some (zg_i ((i : Nat)))] [] zk_K (242) ((zk_P sh)) (V) := by
    refine zg_al1 zd_Law_law_386 ?_
    refine zl_al0 zd_Law_law_387 ?_
    refine zg_il3 zd_Law_law_388 ?_
    refine zg_iconst zd_Law_law_389 ?_
    refine zg_iadd zd_Law_law_390 ?_
    refine zl_ld (j := i + 1) zd_Law_law_391 (by omega) (by omega) hL ?_
    refine zl_al0 zd_Law_law_392 ?_
    refine zg_il3 zd_Law_law_393 ?_
    refine zg_iconst zd_Law_law_394 ?_
    refine zg_iadd zd_Law_law_395 ?_
    refine zl_ld (j := i + 2) zd_Law_law_396 (by omega) (by omega) hL ?_
    refine zg_cVs2 zd_Law_law_397 zM_Tree_threshold zw_544 zi_Tree_threshold zs_Tree_threshold (zo_threshold hA r1 r2) (by decide) (by decide) (by omega) (by first | assumption | rfl) (by decide) rfl (Nat.le_of_ble_eq_true rfl) ?_
    intro r P1 V1 hq
    obtain ⟨sh1, rfl, ⟨y, rfl⟩, hS⟩ := hq
    refine zg_al2 zd_Law_law_400 ?_
    refine zl_al0 zd_Law_law_401 ?_
    refine zg_il3 zd_Law_law_402 ?_
    refine zg_iconst zd_Law_law_403 ?_
    refine zg_iadd zd_Law_law_404 ?_
    refine zl_ld (j := i + 1) zd_Law_law_405 (by omega) (by omega) hL ?_
    refine zl_al0 zd_Law_law_406 ?_
    refine zg_il3 zd_Law_law_407 ?_
    refine zg_iconst zd_Law_law_408 ?_
    refine zg_iadd zd_Law_law_409 ?_
    refine zl_ld (j := i + 2) zd_Law_law_410 (by omega) (by omega) hL ?_
    refine zg_cVr2 zd_Law_law_411 zM_Ref_threshold zw_861 zi_Ref_threshold zs_Ref_threshold (hS) (by decide) (by decide) (by omega) (by first | assumption | rfl) (by decide) rfl (Nat.le_of_ble_eq_true rfl) ?_
    intro r2 V2 hq2
    obtain ⟨rfl, hA2⟩ := hq2
    refine zg_icmp_eq_rf (tgt := 670) zd_Law_law_414 (by decide) ?_
    exact nxt V2 sh1 hA2
  have c9 : zg_G Γ (zl_Ξ Γ b L xs) (zm_L nm) room_1 zl_Z 0 0 419 [some (Value.ref b), some (zg_r Γ (0)), some (zg_r Γ (223)), some (zg_i ((i : Nat)))] [] zk_K (242) ((zk_P sh)) (V) := by
    refine zg_al1 zd_Law_law_419 ?_
    refine zl_al0 zd_Law_law_420 ?_
    refine zg_il3 zd_Law_law_421 ?_
    refine zg_iconst zd_Law_law_422 ?_
    refine zg_iadd zd_Law_law_423 ?_
    refine zl_ld (j := i + 1) zd_Law_law_424 (by omega) (by omega) hL ?_
    refine zg_cVs1 zd_Law_law_425 zM_Tree_gain zw_548 zi_Tree_gain zs_Tree_gain (zo_gain hA r1) (by decide) (by decide) (by omega) (by first | assumption | rfl) (by decide) rfl (Nat.le_of_ble_eq_true rfl) ?_
    intro r P1 V1 hq
    obtain ⟨sh1, rfl, ⟨y, rfl⟩, hS⟩ := hq
    refine zg_al2 zd_Law_law_428 ?_
    refine zl_al0 zd_Law_law_429 ?_
    refine zg_il3 zd_Law_law_430 ?_
    refine zg_iconst zd_Law_law_431 ?_
    refine zg_iadd zd_Law_law_432 ?_
    refine zl_ld (j := i + 1) zd_Law_law_433 (by omega) (by omega) hL ?_
    refine zg_cVr1 zd_Law_law_434 zM_Ref_gain zw_866 zi_Ref_gain zs_Ref_gain (hS) (by decide) (by decide) (by omega) (by first | assumption | rfl) (by decide) rfl (Nat.le_of_ble_eq_true rfl) ?_
    intro r2 V2 hq2
    obtain ⟨rfl, hA2⟩ := hq2
    refine zg_lcmp_rf zd_Law_law_437 ?_
    refine zg_if_eq (tgt := 670) zd_Law_law_438 (by decide) (by omega) (fun _ => ?_) (fun h => absurd rfl h)
    exact nxt V2 sh1 hA2
  have c10 : zg_G Γ (zl_Ξ Γ b L xs) (zm_L nm) room_1 zl_Z 0 0 443 [some (Value.ref b), some (zg_r Γ (0)), some (zg_r Γ (223)), some (zg_i ((i : Nat)))] [] zk_K (242) ((zk_P sh)) (V) := by
    refine zg_al1 zd_Law_law_443 ?_
    refine zl_al0 zd_Law_law_444 ?_
    refine zg_il3 zd_Law_law_445 ?_
    refine zg_iconst zd_Law_law_446 ?_
    refine zg_iadd zd_Law_law_447 ?_
    refine zl_ld (j := i + 1) zd_Law_law_448 (by omega) (by omega) hL ?_
    refine zg_cVs1 zd_Law_law_449 zM_Tree_rowsOf zw_553 zi_Tree_rowsOf zs_Tree_rowsOf (zo_rowsOf hA r1) (by decide) (by decide) (by omega) (by first | assumption | rfl) (by decide) rfl (Nat.le_of_ble_eq_true rfl) ?_
    intro r P1 V1 hq
    obtain ⟨sh1, rfl, ⟨y, rfl⟩, hS⟩ := hq
    refine zg_al2 zd_Law_law_452 ?_
    refine zl_al0 zd_Law_law_453 ?_
    refine zg_il3 zd_Law_law_454 ?_
    refine zg_iconst zd_Law_law_455 ?_
    refine zg_iadd zd_Law_law_456 ?_
    refine zl_ld (j := i + 1) zd_Law_law_457 (by omega) (by omega) hL ?_
    refine zg_cVr1 zd_Law_law_458 zM_Ref_rowsOf zw_871 zi_Ref_rowsOf zs_Ref_rowsOf (hS) (by decide) (by decide) (by omega) (by first | assumption | rfl) (by decide) rfl (Nat.le_of_ble_eq_true rfl) ?_
    intro r2 V2 hq2
    obtain ⟨rfl, hA2⟩ := hq2
    refine zg_icmp_eq_rf (tgt := 670) zd_Law_law_461 (by decide) ?_
    exact nxt V2 sh1 hA2
  have c11 : zg_G Γ (zl_Ξ Γ b L xs) (zm_L nm) room_1 zl_Z 0 0 466 [some (Value.ref b), some (zg_r Γ (0)), some (zg_r Γ (223)), some (zg_i ((i : Nat)))] [] zk_K (242) ((zk_P sh)) (V) := by
    refine zg_al1 zd_Law_law_466 ?_
    refine zl_al0 zd_Law_law_467 ?_
    refine zg_il3 zd_Law_law_468 ?_
    refine zg_iconst zd_Law_law_469 ?_
    refine zg_iadd zd_Law_law_470 ?_
    refine zl_ld (j := i + 1) zd_Law_law_471 (by omega) (by omega) hL ?_
    refine zg_cVs1 zd_Law_law_472 zM_Tree_classOf zw_557 zi_Tree_classOf zs_Tree_classOf (zo_classOf hA r1) (by decide) (by decide) (by omega) (by first | assumption | rfl) (by decide) rfl (Nat.le_of_ble_eq_true rfl) ?_
    intro r P1 V1 hq
    obtain ⟨sh1, rfl, ⟨y, rfl⟩, hS⟩ := hq
    refine zg_al2 zd_Law_law_475 ?_
    refine zl_al0 zd_Law_law_476 ?_
    refine zg_il3 zd_Law_law_477 ?_
    refine zg_iconst zd_Law_law_478 ?_
    refine zg_iadd zd_Law_law_479 ?_
    refine zl_ld (j := i + 1) zd_Law_law_480 (by omega) (by omega) hL ?_
    refine zg_cVr1 zd_Law_law_481 zM_Ref_classOf zw_875 zi_Ref_classOf zs_Ref_classOf (hS) (by decide) (by decide) (by omega) (by first | assumption | rfl) (by decide) rfl (Nat.le_of_ble_eq_true rfl) ?_
    intro r2 V2 hq2
    obtain ⟨rfl, hA2⟩ := hq2
    refine zg_icmp_eq_rf (tgt := 670) zd_Law_law_484 (by decide) ?_
    exact nxt V2 sh1 hA2
  have c12 : zg_G Γ (zl_Ξ Γ b L xs) (zm_L nm) room_1 zl_Z 0 0 489 [some (Value.ref b), some (zg_r Γ (0)), some (zg_r Γ (223)), some (zg_i ((i : Nat)))] [] zk_K (242) ((zk_P sh)) (V) := by
    refine zg_al1 zd_Law_law_489 ?_
    refine zl_al0 zd_Law_law_490 ?_
    refine zg_il3 zd_Law_law_491 ?_
    refine zg_iconst zd_Law_law_492 ?_
    refine zg_iadd zd_Law_law_493 ?_
    refine zl_ld (j := i + 1) zd_Law_law_494 (by omega) (by omega) hL ?_
    refine zg_cVs1 zd_Law_law_495 zM_Tree_error zw_561 zi_Tree_error zs_Tree_error (zo_error hA r1) (by decide) (by decide) (by omega) (by first | assumption | rfl) (by decide) rfl (Nat.le_of_ble_eq_true rfl) ?_
    intro r P1 V1 hq
    obtain ⟨sh1, rfl, ⟨y, rfl⟩, hS⟩ := hq
    refine zg_al2 zd_Law_law_498 ?_
    refine zl_al0 zd_Law_law_499 ?_
    refine zg_il3 zd_Law_law_500 ?_
    refine zg_iconst zd_Law_law_501 ?_
    refine zg_iadd zd_Law_law_502 ?_
    refine zl_ld (j := i + 1) zd_Law_law_503 (by omega) (by omega) hL ?_
    refine zg_cVr1 zd_Law_law_504 zM_Ref_error zw_879 zi_Ref_error zs_Ref_error (hS) (by decide) (by decide) (by omega) (by first | assumption | rfl) (by decide) rfl (Nat.le_of_ble_eq_true rfl) ?_
    intro r2 V2 hq2
    obtain ⟨rfl, hA2⟩ := hq2
    refine zg_icmp_eq_rf (tgt := 670) zd_Law_law_507 (by decide) ?_
    exact nxt V2 sh1 hA2
  have c13 : zg_G Γ (zl_Ξ Γ b L xs) (zm_L nm) room_1 zl_Z 0 0 512 [some (Value.ref b), some (zg_r Γ (0)), some (zg_r Γ (223)), some (zg_i ((i : Nat)))] [] zk_K (242) ((zk_P sh)) (V) := by
    refine zg_al1 zd_Law_law_512 ?_
    refine zl_al0 zd_Law_law_513 ?_
    refine zg_il3 zd_Law_law_514 ?_
    refine zg_iconst zd_Law_law_515 ?_
    refine zg_iadd zd_Law_law_516 ?_
    refine zl_ld (j := i + 1) zd_Law_law_517 (by omega) (by omega) hL ?_
    refine zl_al0 zd_Law_law_518 ?_
    refine zg_il3 zd_Law_law_519 ?_
    refine zg_iconst zd_Law_law_520 ?_
    refine zg_iadd zd_Law_law_521 ?_
    refine zl_ld (j := i + 2) zd_Law_law_522 (by omega) (by omega) hL ?_
    refine zl_al0 zd_Law_law_523 ?_
    refine zg_il3 zd_Law_law_524 ?_
    refine zg_iconst zd_Law_law_525 ?_
    refine zg_iadd zd_Law_law_526 ?_
    refine zl_ld (j := i + 3) zd_Law_law_527 (by omega) (by omega) hL ?_
    refine zg_cVs3 zd_Law_law_528 zM_Tree_reach zw_565 zi_Tree_reach zs_Tree_reach (zo_reach hA r1 r2 r3) (by decide) (by decide) (by omega) (by first | assumption | rfl) (by decide) rfl (Nat.le_of_ble_eq_true rfl) ?_
    intro r P1 V1 hq
    obtain ⟨sh1, rfl, ⟨y, rfl⟩, hS⟩ := hq
    refine zg_al2 zd_Law_law_531 ?_
    refine zl_al0 zd_Law_law_532 ?_
    refine zg_il3 zd_Law_law_533 ?_
    refine zg_iconst zd_Law_law_534 ?_
    refine zg_iadd zd_Law_law_535 ?_
    refine zl_ld (j := i + 1) zd_Law_law_536 (by omega) (by omega) hL ?_
    refine zl_al0 zd_Law_law_537 ?_
    refine zg_il3 zd_Law_law_538 ?_
    refine zg_iconst zd_Law_law_539 ?_
    refine zg_iadd zd_Law_law_540 ?_
    refine zl_ld (j := i + 2) zd_Law_law_541 (by omega) (by omega) hL ?_
    refine zl_al0 zd_Law_law_542 ?_
    refine zg_il3 zd_Law_law_543 ?_
    refine zg_iconst zd_Law_law_544 ?_
    refine zg_iadd zd_Law_law_545 ?_
    refine zl_ld (j := i + 3) zd_Law_law_546 (by omega) (by omega) hL ?_
    refine zg_cVr3 zd_Law_law_547 zM_Ref_reach zw_883 zi_Ref_reach zs_Ref_reach (hS) (by decide) (by decide) (by omega) (by first | assumption | rfl) (by decide) rfl (Nat.le_of_ble_eq_true rfl) ?_
    intro r2 V2 hq2
    obtain ⟨rfl, hA2⟩ := hq2
    refine zg_icmp_eq_rf (tgt := 670) zd_Law_law_550 (by decide) ?_
    exact nxt V2 sh1 hA2
  have c14 : zg_G Γ (zl_Ξ Γ b L xs) (zm_L nm) room_1 zl_Z 0 0 555 [some (Value.ref b), some (zg_r Γ (0)), some (zg_r Γ (223)), some (zg_i ((i : Nat)))] [] zk_K (242) ((zk_P sh)) (V) := by
    refine zg_al1 zd_Law_law_555 ?_
    refine zl_al0 zd_Law_law_556 ?_
    refine zg_il3 zd_Law_law_557 ?_
    refine zg_iconst zd_Law_law_558 ?_
    refine zg_iadd zd_Law_law_559 ?_
    refine zl_ld (j := i + 1) zd_Law_law_560 (by omega) (by omega) hL ?_
    refine zl_al0 zd_Law_law_561 ?_
    refine zg_il3 zd_Law_law_562 ?_
    refine zg_iconst zd_Law_law_563 ?_
    refine zg_iadd zd_Law_law_564 ?_
    refine zl_ld (j := i + 2) zd_Law_law_565 (by omega) (by omega) hL ?_
    refine zg_cVs2 zd_Law_law_566 zM_Tree_cut zw_574 zi_Tree_cut zs_Tree_cut (zo_cut hA r1 r2) (by decide) (by decide) (by omega) (by first | assumption | rfl) (by decide) rfl (Nat.le_of_ble_eq_true rfl) ?_
    intro r P1 V1 hq
    obtain ⟨sh1, rfl, ⟨y, rfl⟩, hS⟩ := hq
    refine zg_al2 zd_Law_law_569 ?_
    refine zl_al0 zd_Law_law_570 ?_
    refine zg_il3 zd_Law_law_571 ?_
    refine zg_iconst zd_Law_law_572 ?_
    refine zg_iadd zd_Law_law_573 ?_
    refine zl_ld (j := i + 1) zd_Law_law_574 (by omega) (by omega) hL ?_
    refine zl_al0 zd_Law_law_575 ?_
    refine zg_il3 zd_Law_law_576 ?_
    refine zg_iconst zd_Law_law_577 ?_
    refine zg_iadd zd_Law_law_578 ?_
    refine zl_ld (j := i + 2) zd_Law_law_579 (by omega) (by omega) hL ?_
    refine zg_cVr2 zd_Law_law_580 zM_Ref_cut zw_887 zi_Ref_cut zs_Ref_cut (hS) (by decide) (by decide) (by omega) (by first | assumption | rfl) (by decide) rfl (Nat.le_of_ble_eq_true rfl) ?_
    intro r2 V2 hq2
    obtain ⟨rfl, hA2⟩ := hq2
    refine zg_icmp_eq_rf (tgt := 670) zd_Law_law_583 (by decide) ?_
    exact nxt V2 sh1 hA2
  have c15 : zg_G Γ (zl_Ξ Γ b L xs) (zm_L nm) room_1 zl_Z 0 0 588 [some (Value.ref b), some (zg_r Γ (0)), some (zg_r Γ (223)), some (zg_i ((i : Nat)))] [] zk_K (242) ((zk_P sh)) (V) := by
    refine zg_al1 zd_Law_law_588 ?_
    refine zl_al0 zd_Law_law_589 ?_
    refine zg_il3 zd_Law_law_590 ?_
    refine zg_iconst zd_Law_law_591 ?_
    refine zg_iadd zd_Law_law_592 ?_
    refine zl_ld (j := i + 1) zd_Law_law_593 (by omega) (by omega) hL ?_
    refine zg_cVs1 zd_Law_law_594 zM_Tree_breakAt zw_594 zi_Tree_breakAt zs_Tree_breakAt (zo_breakAt hA r1) (by decide) (by decide) (by omega) (by first | assumption | rfl) (by decide) rfl (Nat.le_of_ble_eq_true rfl) ?_
    intro r P1 V1 hq
    obtain ⟨sh1, rfl, ⟨y, rfl⟩, hS⟩ := hq
    refine zg_al2 zd_Law_law_597 ?_
    refine zl_al0 zd_Law_law_598 ?_
    refine zg_il3 zd_Law_law_599 ?_
    refine zg_iconst zd_Law_law_600 ?_
    refine zg_iadd zd_Law_law_601 ?_
    refine zl_ld (j := i + 1) zd_Law_law_602 (by omega) (by omega) hL ?_
    refine zg_cVr1 zd_Law_law_603 zM_Ref_breakAt zw_891 zi_Ref_breakAt zs_Ref_breakAt (hS) (by decide) (by decide) (by omega) (by first | assumption | rfl) (by decide) rfl (Nat.le_of_ble_eq_true rfl) ?_
    intro r2 V2 hq2
    obtain ⟨rfl, hA2⟩ := hq2
    refine zg_icmp_eq_rf (tgt := 670) zd_Law_law_606 (by decide) ?_
    exact nxt V2 sh1 hA2
  have c16 : zg_G Γ (zl_Ξ Γ b L xs) (zm_L nm) room_1 zl_Z 0 0 611 [some (Value.ref b), some (zg_r Γ (0)), some (zg_r Γ (223)), some (zg_i ((i : Nat)))] [] zk_K (242) ((zk_P sh)) (V) := by
    refine zg_al1 zd_Law_law_611 ?_
    refine zg_cVs0 zd_Law_law_612 zM_Tree_tally zw_611 zi_Tree_tally zs_Tree_tally (zo_tally hA) (by decide) (by decide) (by omega) (by first | assumption | rfl) (by decide) rfl (Nat.le_of_ble_eq_true rfl) ?_
    intro r P1 V1 hq
    obtain ⟨sh1, rfl, ⟨y, rfl⟩, hS⟩ := hq
    refine zg_al2 zd_Law_law_615 ?_
    refine zg_cVr0 zd_Law_law_616 zM_Ref_tally zw_906 zi_Ref_tally zs_Ref_tally (hS) (by decide) (by decide) (by omega) (by first | assumption | rfl) (by decide) rfl (Nat.le_of_ble_eq_true rfl) ?_
    intro r2 V2 hq2
    obtain ⟨rfl, hA2⟩ := hq2
    refine zg_icmp_eq_rf (tgt := 670) zd_Law_law_619 (by decide) ?_
    exact nxt V2 sh1 hA2
  have c17 : zg_G Γ (zl_Ξ Γ b L xs) (zm_L nm) room_1 zl_Z 0 0 624 [some (Value.ref b), some (zg_r Γ (0)), some (zg_r Γ (223)), some (zg_i ((i : Nat)))] [] zk_K (242) ((zk_P sh)) (V) := by
    refine zg_al1 zd_Law_law_624 ?_
    refine zl_al0 zd_Law_law_625 ?_
    refine zg_il3 zd_Law_law_626 ?_
    refine zg_iconst zd_Law_law_627 ?_
    refine zg_iadd zd_Law_law_628 ?_
    refine zl_ld (j := i + 1) zd_Law_law_629 (by omega) (by omega) hL ?_
    refine zl_al0 zd_Law_law_630 ?_
    refine zg_il3 zd_Law_law_631 ?_
    refine zg_iconst zd_Law_law_632 ?_
    refine zg_iadd zd_Law_law_633 ?_
    refine zl_ld (j := i + 2) zd_Law_law_634 (by omega) (by omega) hL ?_
    refine zg_cVs2 zd_Law_law_635 zM_Tree_votes zw_619 zi_Tree_votes zs_Tree_votes (zo_votes hA r1 r2) (by decide) (by decide) (by omega) (by first | assumption | rfl) (by decide) rfl (Nat.le_of_ble_eq_true rfl) ?_
    intro r P1 V1 hq
    obtain ⟨sh1, rfl, ⟨y, rfl⟩, hS⟩ := hq
    refine zg_al2 zd_Law_law_638 ?_
    refine zl_al0 zd_Law_law_639 ?_
    refine zg_il3 zd_Law_law_640 ?_
    refine zg_iconst zd_Law_law_641 ?_
    refine zg_iadd zd_Law_law_642 ?_
    refine zl_ld (j := i + 1) zd_Law_law_643 (by omega) (by omega) hL ?_
    refine zl_al0 zd_Law_law_644 ?_
    refine zg_il3 zd_Law_law_645 ?_
    refine zg_iconst zd_Law_law_646 ?_
    refine zg_iadd zd_Law_law_647 ?_
    refine zl_ld (j := i + 2) zd_Law_law_648 (by omega) (by omega) hL ?_
    refine zg_cVr2 zd_Law_law_649 zM_Ref_votes zw_911 zi_Ref_votes zs_Ref_votes (hS) (by decide) (by decide) (by omega) (by first | assumption | rfl) (by decide) rfl (Nat.le_of_ble_eq_true rfl) ?_
    intro r2 V2 hq2
    obtain ⟨rfl, hA2⟩ := hq2
    refine zg_icmp_eq_rf (tgt := 670) zd_Law_law_652 (by decide) ?_
    exact nxt V2 sh1 hA2
  have c18 : zg_G Γ (zl_Ξ Γ b L xs) (zm_L nm) room_1 zl_Z 0 0 657 [some (Value.ref b), some (zg_r Γ (0)), some (zg_r Γ (223)), some (zg_i ((i : Nat)))] [] zk_K (242) ((zk_P sh)) (V) := by
    refine zg_al1 zd_Law_law_657 ?_
    refine zg_cVs0 zd_Law_law_658 zM_Tree_wrong zw_623 zi_Tree_wrong zs_Tree_wrong (zo_wrong hA (by omega)) (by decide) (by decide) (by omega) (by first | assumption | rfl) (by decide) rfl (Nat.le_of_ble_eq_true rfl) ?_
    intro r P1 V1 hq
    obtain ⟨sh1, rfl, ⟨y, rfl⟩, hS⟩ := hq
    refine zg_al2 zd_Law_law_661 ?_
    refine zg_cVr0 zd_Law_law_662 zM_Ref_wrong zw_915 zi_Ref_wrong zs_Ref_wrong (hS) (by decide) (by decide) (by omega) (by first | assumption | rfl) (by decide) rfl (Nat.le_of_ble_eq_true rfl) ?_
    intro r2 V2 hq2
    obtain ⟨rfl, hA2⟩ := hq2
    refine zg_icmp_eq_rf (tgt := 670) zd_Law_law_665 (by decide) ?_
    exact nxt V2 sh1 hA2
  have sw : zg_G Γ (zl_Ξ Γ b L xs) (zm_L nm) room_1 zl_Z 0 0 32 [some (Value.ref b), some (zg_r Γ (0)), some (zg_r Γ (223)), some (zg_i ((i : Nat)))] [(zg_i ((z : Nat)))] zk_K (242) ((zk_P sh)) (V) := by
    match z, hz with
    | 0, _ => exact zl_tsI (off := 92) (tgt := 124) zd_Law_law_32 (by decide) (by decide) rfl (by decide) c0
    | 1, _ => exact zl_tsI (off := 145) (tgt := 177) zd_Law_law_32 (by decide) (by decide) rfl (by decide) c1
    | 2, _ => exact zl_tsI (off := 188) (tgt := 220) zd_Law_law_32 (by decide) (by decide) rfl (by decide) c2
    | 3, _ => exact zl_tsI (off := 241) (tgt := 273) zd_Law_law_32 (by decide) (by decide) rfl (by decide) c3
    | 4, _ => exact zl_tsI (off := 252) (tgt := 284) zd_Law_law_32 (by decide) (by decide) rfl (by decide) c4
    | 5, _ => exact zl_tsI (off := 275) (tgt := 307) zd_Law_law_32 (by decide) (by decide) rfl (by decide) c5
    | 6, _ => exact zl_tsI (off := 298) (tgt := 330) zd_Law_law_32 (by decide) (by decide) rfl (by decide) c6
    | 7, _ => exact zl_tsI (off := 321) (tgt := 353) zd_Law_law_32 (by decide) (by decide) rfl (by decide) c7
    | 8, _ => exact zl_tsI (off := 354) (tgt := 386) zd_Law_law_32 (by decide) (by decide) rfl (by decide) c8
    | 9, _ => exact zl_tsI (off := 387) (tgt := 419) zd_Law_law_32 (by decide) (by decide) rfl (by decide) c9
    | 10, _ => exact zl_tsI (off := 411) (tgt := 443) zd_Law_law_32 (by decide) (by decide) rfl (by decide) c10
    | 11, _ => exact zl_tsI (off := 434) (tgt := 466) zd_Law_law_32 (by decide) (by decide) rfl (by decide) c11
    | 12, _ => exact zl_tsI (off := 457) (tgt := 489) zd_Law_law_32 (by decide) (by decide) rfl (by decide) c12
    | 13, _ => exact zl_tsI (off := 480) (tgt := 512) zd_Law_law_32 (by decide) (by decide) rfl (by decide) c13
    | 14, _ => exact zl_tsI (off := 523) (tgt := 555) zd_Law_law_32 (by decide) (by decide) rfl (by decide) c14
    | 15, _ => exact zl_tsI (off := 556) (tgt := 588) zd_Law_law_32 (by decide) (by decide) rfl (by decide) c15
    | 16, _ => exact zl_tsI (off := 579) (tgt := 611) zd_Law_law_32 (by decide) (by decide) rfl (by decide) c16
    | 17, _ => exact zl_tsI (off := 592) (tgt := 624) zd_Law_law_32 (by decide) (by decide) rfl (by decide) c17
    | 18, _ => exact zl_tsI (off := 625) (tgt := 657) zd_Law_law_32 (by decide) (by decide) rfl (by decide) c18
    | q + 19, hq => exact zl_tsO (tgt := 670) zd_Law_law_32 (by omega) (by omega) (by decide) (nxt V sh (zj_A_up hA))
  refine zl_al0 zd_Law_law_26 ?_
  refine zg_il3 zd_Law_law_27 ?_
  refine zl_ld (j := i + 0) zd_Law_law_28 (by omega) (by omega) hL ?_
  refine zg_bipush zd_Law_law_29 (by decide) ?_
  refine zg_iand (z : Int) zd_Law_law_31 hzand ?_
  exact sw
theorem zl_loop (hL : L ≤ 2560) : ∀ (f i : Nat) (V : zg_V) (sh m : Nat), L < i + f → i ≤ 4000 → m ≤ i → zj_A V sh m → zg_G Γ (zl_Ξ Γ b L xs) (zm_L nm) room_1 zl_Z 0 0 18 [some (Value.ref b), some (zg_r Γ (0)), some (zg_r Γ (223)), some (zg_i ((i : Nat)))] [] zk_K (242) ((zk_P sh)) (V) := by
  intro f
  induction f with
  | zero =>
    intro i V sh m hf hi hm hA
    refine zg_il3 zd_Law_law_18 ?_
    refine zl_al0 zd_Law_law_19 ?_
    refine zl_len zd_Law_law_20 ?_
    refine zg_iconst zd_Law_law_21 ?_
    refine zg_isub zd_Law_law_22 ?_
    refine zg_icmp_gt (tgt := 676) zd_Law_law_23 (by decide) (by omega) (by omega) (fun b23 => ?_) (fun b23 => ?_)
    · refine zg_iconst zd_Law_law_676 ?_
      exact zl_ret zd_Law_law_677
    · omega
  | succ f ih =>
    intro i V sh m hf hi hm hA
    have nxt : ∀ (V2 : zg_V) (sh1 : Nat), i + 5 ≤ L → zj_A V2 sh1 (m + 1) → zg_G Γ (zl_Ξ Γ b L xs) (zm_L nm) room_1 zl_Z 0 0 670 [some (Value.ref b), some (zg_r Γ (0)), some (zg_r Γ (223)), some (zg_i ((i : Nat)))] [] zk_K (242) (zk_P sh1) (V2) := by
      intro V2 sh1 h5 hA2
      have go := ih (i + 5) V2 sh1 (m + 1) (by omega) (by omega) (by omega) hA2
      refine zg_inc3 zd_Law_law_670 (fun w h => by cases h <;> rfl) (Nat.le_of_ble_eq_true rfl) ?_
      refine zg_goto (tgt := 18) zd_Law_law_673 (by decide) ?_
      exact go
    have body : i + 5 ≤ L → zg_G Γ (zl_Ξ Γ b L xs) (zm_L nm) room_1 zl_Z 0 0 26 [some (Value.ref b), some (zg_r Γ (0)), some (zg_r Γ (223)), some (zg_i ((i : Nat)))] [] zk_K (242) ((zk_P sh)) (V) := by
     intro h5
     have nxt := fun V2 sh1 => nxt V2 sh1 h5
     have r1 := zl_r (xs (i + 1))
     have r2 := zl_r (xs (i + 2))
     have r3 := zl_r (xs (i + 3))
     have r4 := zl_r (xs (i + 4))
     obtain ⟨z, hz, hzand⟩ := zl_and (xs (i + 0))
     exact zl_body hL h5 hm hA nxt r1 r2 r3 r4 hz hzand
    refine zg_il3 zd_Law_law_18 ?_
    refine zl_al0 zd_Law_law_19 ?_
    refine zl_len zd_Law_law_20 ?_
    refine zg_iconst zd_Law_law_21 ?_
    refine zg_isub zd_Law_law_22 ?_
    refine zg_icmp_gt (tgt := 676) zd_Law_law_23 (by decide) (by omega) (by omega) (fun b23 => ?_) (fun b23 => ?_)
    · refine zg_iconst zd_Law_law_676 ?_
      exact zl_ret zd_Law_law_677
    · exact body (by omega)
end ZLoop

