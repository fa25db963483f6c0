/-! where each cell lies, counted from the base, once both objects are made -/
abbrev zk_N : Nat := 242
/-- class and reference: what each cell is -/
def zk_K : zg_K := fun a =>
  bif Nat.blt a 40 then
    bif Nat.blt a 19 then (bif Nat.blt a 2 then (bif Nat.beq a 0 then (0, 0) else (0, 1)) else bif Nat.beq a 2 then (6, 16) else (1, 3))
    else bif Nat.blt a 23 then (bif Nat.blt a 21 then (1, 16) else bif Nat.beq a 21 then (0, 2) else (6, 16))
    else (bif Nat.blt a 39 then (1, 4) else (4, 32))
  else bif Nat.blt a 200 then
    (bif Nat.beq ((a - 40) % 5) 0 then (0, 3) else bif Nat.beq ((a - 40) % 5) 1 then (0, 4) else bif Nat.beq ((a - 40) % 5) 2 then (5, 2) else (0, 5))
  else bif Nat.blt a 214 then
    bif Nat.blt a 207 then (bif Nat.blt a 204 then (bif Nat.beq (a % 2) 0 then (0, 6) else (1, 32)) else bif Nat.beq a 204 then (0, 7) else bif Nat.beq a 205 then (0, 8) else (1, 16))
    else bif Nat.blt a 210 then (bif Nat.beq a 209 then (0, 4) else (1, 4)) else bif Nat.beq a 210 then (0, 9) else bif Nat.beq a 211 then (0, 8) else bif Nat.beq a 212 then (1, 16) else (0, 5)
  else bif Nat.blt a 223 then
    bif Nat.blt a 217 then (bif Nat.beq a 214 then (0, 10) else bif Nat.beq a 215 then (0, 4) else (0, 6))
    else bif Nat.beq a 218 then (0, 4) else bif Nat.beq a 222 then (1, 3) else (1, 32)
  else bif Nat.blt a 228 then
    (bif Nat.beq a 223 then (0, 11) else bif Nat.beq a 224 then (1, 48) else bif Nat.beq a 227 then (1, 64) else (1, 16))
  else bif Nat.blt a 232 then (1, 32)
  else bif Nat.blt a 236 then (1, 2)
  else bif Nat.blt a 240 then (bif Nat.beq a 237 then (2, 32) else bif Nat.beq a 239 then (3, 32) else (1, 32))
  else (1, 16)
/-- what each cell names; sh: the shape that is shown -/
def zk_P (sh : Nat) : zg_P := fun a j =>
  bif Nat.blt a 40 then
    bif Nat.beq a 0 then
      (bif Nat.blt j 4 then (bif Nat.beq j 0 then some 1 else bif Nat.beq j 1 then some 21 else bif Nat.beq j 2 then some 39 else some 200)
       else bif Nat.beq j 4 then some 202 else bif Nat.beq j 5 then some 204 else bif Nat.beq j 6 then some 210 else bif Nat.beq j 7 then some 214 else bif Nat.beq j 8 then some 222 else bif Nat.beq j 9 then some sh else none)
    else bif Nat.beq a 1 then (bif Nat.beq j 0 then some 2 else bif Nat.beq j 1 then some 19 else bif Nat.beq j 2 then some 20 else none)
    else bif Nat.beq a 2 then (bif Nat.blt j 16 then some (3 + j) else none)
    else bif Nat.beq a 21 then (bif Nat.beq j 0 then some 22 else none)
    else bif Nat.beq a 22 then (bif Nat.blt j 16 then some (23 + j) else none)
    else bif Nat.beq a 39 then (bif Nat.blt j 32 then some (40 + 5 * j) else none)
    else none
  else bif Nat.blt a 200 then
    (bif Nat.beq ((a - 40) % 5) 0 then (bif Nat.beq j 5 then some (a + 1) else bif Nat.beq j 7 then some (a + 2) else none)
     else bif Nat.beq ((a - 40) % 5) 2 then (bif Nat.beq j 0 then some (a + 1) else bif Nat.beq j 1 then some (a + 2) else none) else none)
  else bif Nat.beq a 200 then (bif Nat.beq j 0 then some 201 else none)
  else bif Nat.beq a 202 then (bif Nat.beq j 0 then some 203 else none)
  else bif Nat.beq a 204 then (bif Nat.beq j 0 then some 205 else bif Nat.beq j 1 then some 207 else bif Nat.beq j 2 then some 208 else bif Nat.beq j 5 then some 209 else none)
  else bif Nat.beq a 205 then (bif Nat.beq j 0 then some 206 else none)
  else bif Nat.beq a 210 then (bif Nat.beq j 0 then some 211 else bif Nat.beq j 1 then some 213 else none)
  else bif Nat.beq a 211 then (bif Nat.beq j 0 then some 212 else none)
  else bif Nat.beq a 214 then (bif Nat.beq j 0 then some 215 else bif Nat.beq j 1 then some 216 else bif Nat.beq j 2 then some 218 else bif Nat.beq j 3 then some 219 else bif Nat.beq j 4 then some 220 else bif Nat.beq j 5 then some 221 else none)
  else bif Nat.beq a 216 then (bif Nat.beq j 0 then some 217 else none)
  else bif Nat.beq a 223 then
    (bif Nat.blt j 8 then (bif Nat.beq j 1 then some 224 else bif Nat.beq j 2 then some 225 else bif Nat.beq j 3 then some 226 else bif Nat.beq j 4 then some 227 else none)
     else bif Nat.beq j 8 then some 228 else bif Nat.beq j 9 then some 229 else bif Nat.beq j 10 then some 230 else bif Nat.beq j 11 then some 231
     else bif Nat.blt j 20 then none
     else bif Nat.beq j 20 then some 232 else bif Nat.beq j 21 then some 233 else bif Nat.beq j 22 then some 234 else bif Nat.beq j 23 then some 235
     else bif Nat.blt j 27 then none
     else bif Nat.beq j 27 then some 236 else bif Nat.beq j 28 then some 237 else bif Nat.beq j 29 then some 238 else bif Nat.beq j 30 then some 239
     else bif Nat.beq j 31 then none
     else bif Nat.beq j 32 then some 240 else bif Nat.beq j 33 then some 241 else none)
  else none
theorem zk_node : ∀ k, k < 32 → zk_K (40 + 5 * k) = (0, 3) ∧ zk_K (41 + 5 * k) = (0, 4) ∧ zk_K (42 + 5 * k) = (5, 2) ∧ zk_K (43 + 5 * k) = (0, 5) ∧ zk_K (44 + 5 * k) = (0, 5) := by decide +kernel
theorem zk_row : ∀ r, r < 16 → zk_K (3 + r) = (1, 3) ∧ zk_K (23 + r) = (1, 4) := by decide +kernel
theorem zp_nodes {sh : Nat} {k : Nat} (h : k < 32) : zk_P sh 39 k = some (40 + 5 * k) := by
  show (bif Nat.blt k 32 then some (40 + 5 * k) else none) = _
  rw [show Nat.blt k 32 = true from Nat.ble_eq_true_of_le h]; rfl
theorem zp_values {sh : Nat} {r : Nat} (h : r < 16) : zk_P sh 2 r = some (3 + r) := by
  show (bif Nat.blt r 16 then some (3 + r) else none) = _
  rw [show Nat.blt r 16 = true from Nat.ble_eq_true_of_le h]; rfl
theorem zp_counts {sh : Nat} {r : Nat} (h : r < 16) : zk_P sh 22 r = some (23 + r) := by
  show (bif Nat.blt r 16 then some (23 + r) else none) = _
  rw [show Nat.blt r 16 = true from Nat.ble_eq_true_of_le h]; rfl
theorem zp_node0 (sh : Nat) : ∀ k, k < 32 → zk_P 0 (40 + 5 * k) 5 = some (41 + 5 * k) ∧ zk_P 0 (40 + 5 * k) 7 = some (42 + 5 * k) ∧ zk_P 0 (42 + 5 * k) 0 = some (43 + 5 * k) ∧ zk_P 0 (42 + 5 * k) 1 = some (44 + 5 * k) := by decide +kernel
theorem zp_sh {sh : Nat} {a : Nat} (h : 0 < a) (j : Nat) : zk_P sh a j = zk_P 0 a j := by
  have e : Nat.beq a 0 = false := by cases a with | zero => omega | succ n => rfl
  unfold zk_P
  rw [e]
  rfl
theorem zp_node {sh : Nat} {k : Nat} (h : k < 32) : zk_P sh (40 + 5 * k) 5 = some (41 + 5 * k) ∧ zk_P sh (40 + 5 * k) 7 = some (42 + 5 * k) ∧ zk_P sh (42 + 5 * k) 0 = some (43 + 5 * k) ∧ zk_P sh (42 + 5 * k) 1 = some (44 + 5 * k) := by
  rw [zp_sh (sh := sh) (show 0 < 40 + 5 * k by omega), zp_sh (sh := sh) (show 0 < 40 + 5 * k by omega), zp_sh (sh := sh) (show 0 < 42 + 5 * k by omega), zp_sh (sh := sh) (show 0 < 42 + 5 * k by omega)]
  exact zp_node0 sh k h
