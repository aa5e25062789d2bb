/-! words of 64 bits by their bits; rows of a table -/
def nB (g : Nat → Bool) : Nat → Nat
  | 0 => 0
  | k + 1 => nB g k + (if g k = true then 2 ^ k else 0)
theorem nB_lt (g : Nat → Bool) : ∀ k, nB g k < 2 ^ k
  | 0 => by simp [nB]
  | k + 1 => by
    have := nB_lt g k
    have h2 : 2 ^ (k + 1) = 2 ^ k + 2 ^ k := by rw [Nat.pow_succ]; omega
    unfold nB
    split <;> omega
theorem nB_bit (g : Nat → Bool) : ∀ k j, (nB g k).testBit j = (decide (j < k) && g j)
  | 0, j => by simp [nB]
  | k + 1, j => by
    have ih := nB_bit g k j
    have hl := nB_lt g k
    unfold nB
    by_cases hg : g k = true
    · rw [if_pos hg, Nat.add_comm]
      rcases Nat.lt_trichotomy j k with h | h | h
      · rw [Nat.testBit_two_pow_add_gt h, ih]
        simp [h, Nat.lt_succ_of_lt h]
      · subst h
        rw [Nat.testBit_two_pow_add_eq, ih]
        simp [hg]
      · have h2 : 2 ^ k + nB g k < 2 ^ j := by
          have h3 : 2 ^ (k + 1) ≤ 2 ^ j := Nat.pow_le_pow_right (by decide) h
          have h4 : 2 ^ (k + 1) = 2 ^ k + 2 ^ k := by rw [Nat.pow_succ]; omega
          omega
        rw [Nat.testBit_lt_two_pow h2]
        simp [show ¬ j < k + 1 by omega]
    · rw [if_neg hg, Nat.add_zero, ih]
      rcases Nat.lt_trichotomy j k with h | h | h
      · simp [h, Nat.lt_succ_of_lt h]
      · subst h; simp [hg]
      · simp [show ¬ j < k by omega, show ¬ j < k + 1 by omega]
theorem nB_congr {f g : Nat → Bool} : ∀ k, (∀ j, j < k → f j = g j) → nB f k = nB g k
  | 0, _ => rfl
  | k + 1, h => by unfold nB; rw [nB_congr k (fun j hj => h j (by omega)), h k (by omega)]
def wL (g : Nat → Bool) : Int64 := Int64.ofBitVec (BitVec.ofNat 64 (nB g 64))
def bA (x : Int64) (j : Nat) : Bool := x.toBitVec.getLsbD j
theorem wL_bit (g : Nat → Bool) (j : Nat) : bA (wL g) j = (decide (j < 64) && g j) := by
  unfold bA wL
  rw [Int64.toBitVec_ofBitVec, BitVec.getLsbD_ofNat, nB_bit]
  by_cases h : j < 64 <;> simp [h]
theorem bA_ext {x y : Int64} (h : ∀ j, j < 64 → bA x j = bA y j) : x = y :=
  Int64.toBitVec_inj.mp (BitVec.eq_of_getLsbD_eq (fun j hj => h j hj))
theorem wL_ext {x : Int64} {g : Nat → Bool} (h : ∀ j, j < 64 → bA x j = g j) : x = wL g :=
  bA_ext (fun j hj => by rw [h j hj, wL_bit]; simp [hj])
theorem wL_congr {f g : Nat → Bool} (h : ∀ j, j < 64 → f j = g j) : wL f = wL g := by unfold wL; rw [nB_congr 64 h]
theorem bA_or (x y : Int64) (j : Nat) : bA (x ||| y) j = (bA x j || bA y j) := by unfold bA; rw [Int64.toBitVec_or, BitVec.getLsbD_or]
theorem bA_and (x y : Int64) (j : Nat) : bA (x &&& y) j = (bA x j && bA y j) := by unfold bA; rw [Int64.toBitVec_and, BitVec.getLsbD_and]
theorem bA_not (x : Int64) {j : Nat} (h : j < 64) : bA (x ^^^ (-1)) j = !(bA x j) := by
  unfold bA
  rw [Int64.toBitVec_xor, BitVec.getLsbD_xor, show (-1 : Int64).toBitVec = BitVec.allOnes 64 from by decide, BitVec.getLsbD_allOnes]
  simp [h]
theorem bA_0 (j : Nat) : bA 0 j = false := by unfold bA; simp
theorem wL_0 : wL (fun _ => false) = 0 := (wL_ext (fun j _ => bA_0 j)).symm
set_option maxRecDepth 100000 in
theorem bit1 : ∀ k : Nat, k < 64 → (1 : Int64) <<< ((iI (k : Int)).toInt64 &&& 63) = wL (fun j => j == k) := by decide +kernel
theorem and1_0 {x : Int64} {k : Nat} (h : k < 64) : x &&& wL (fun j => j == k) = 0 ↔ bA x k = false := by
  constructor
  · intro e
    have := congrArg (fun y => bA y k) e
    simpa [bA_and, wL_bit, h, bA_0] using this
  · intro e
    apply bA_ext
    intro j hj
    rw [bA_and, wL_bit, bA_0]
    by_cases q : j = k
    · subst q; simp [e]
    · simp [q]
theorem cmp0 {x : Int64} : (lg_cmp x 0).toInt = 0 ↔ x = 0 := by
  unfold lg_cmp
  constructor
  · intro h
    by_cases h1 : (0 : Int64) < x
    · rw [if_pos h1] at h; exact absurd h (by decide)
    · rw [if_neg h1] at h
      by_cases h2 : x = 0
      · exact h2
      · rw [if_neg h2] at h; exact absurd h (by decide)
  · intro h; subst h; decide
/-- a table's words: three to a row -/
def tw (B : Nat → Nat → Bool) : Nat → Int64 := fun w => wL (fun j => B (w / 3) (64 * (w % 3) + j))
theorem tw_0 : tw (fun _ _ => false) = fun _ => 0 := by funext w; exact wL_0
theorem tw_bit (B : Nat → Nat → Bool) (r p : Nat) (h : p < 192) : bA (tw B (3 * r + p / 64)) (p % 64) = B r p := by
  unfold tw
  rw [wL_bit, show (3 * r + p / 64) / 3 = r by omega, show (3 * r + p / 64) % 3 = p / 64 by omega, show 64 * (p / 64) + p % 64 = p by omega]
  simp [show p % 64 < 64 by omega]
theorem tw_ext {f : Nat → Int64} {B : Nat → Nat → Bool} (h : ∀ r k j, k < 3 → j < 64 → bA (f (3 * r + k)) j = B r (64 * k + j)) : f = tw B := by
  funext w
  refine wL_ext (fun j hj => ?_)
  have := h (w / 3) (w % 3) j (by omega) hj
  rwa [show 3 * (w / 3) + w % 3 = w by omega] at this
theorem tw_at (B : Nat → Nat → Bool) (r k j : Nat) (hk : k < 3) (hj : j < 64) : bA (tw B (3 * r + k)) j = B r (64 * k + j) := by
  unfold tw
  rw [wL_bit, show (3 * r + k) / 3 = r by omega, show (3 * r + k) % 3 = k by omega]
  simp [hj]
/-- one bit set, one bit taken -/
def bP (B : Nat → Nat → Bool) (r p : Nat) (b : Bool) : Nat → Nat → Bool := fun x y => if x = r ∧ y = p then b else B x y
theorem tw_put {B : Nat → Nat → Bool} {r p : Nat} (h : p < 192) : va_up (tw B) (3 * r + p / 64) (tw B (3 * r + p / 64) ||| wL (fun j => j == p % 64)) = tw (bP B r p true) := by
  refine tw_ext (fun x k j hk hj => ?_)
  unfold va_up bP
  by_cases e : 3 * x + k = 3 * r + p / 64
  · have h1 : x = r := by omega
    have h2 : k = p / 64 := by omega
    subst h1; subst h2
    rw [if_pos rfl, bA_or, tw_at B x (p / 64) j hk hj, wL_bit]
    by_cases q : j = p % 64
    · subst q
      rw [if_pos ⟨rfl, by omega⟩]; simp [show p % 64 < 64 by omega]
    · rw [if_neg (by omega)]; simp [q]
  · rw [if_neg e, tw_at B x k j hk hj, if_neg (by omega)]
theorem tw_take {B : Nat → Nat → Bool} {r p : Nat} (h : p < 192) : va_up (tw B) (3 * r + p / 64) (tw B (3 * r + p / 64) &&& (wL (fun j => j == p % 64) ^^^ (-1))) = tw (bP B r p false) := by
  refine tw_ext (fun x k j hk hj => ?_)
  unfold va_up bP
  by_cases e : 3 * x + k = 3 * r + p / 64
  · have h1 : x = r := by omega
    have h2 : k = p / 64 := by omega
    subst h1; subst h2
    rw [if_pos rfl, bA_and, bA_not _ hj, tw_at B x (p / 64) j hk hj, wL_bit]
    by_cases q : j = p % 64
    · subst q
      rw [if_pos ⟨rfl, by omega⟩]; simp [show p % 64 < 64 by omega]
    · rw [if_neg (by omega)]; simp [q]
  · rw [if_neg e, tw_at B x k j hk hj, if_neg (by omega)]
/-- how many of the first k -/
def cN (g : Nat → Bool) : Nat → Nat
  | 0 => 0
  | k + 1 => cN g k + (if g k = true then 1 else 0)
theorem bitAt {q : Int} (h : 0 ≤ q ∧ q < 192) : (1 : Int64) <<< ((iI (q % 64)).toInt64 &&& 63) = wL (fun j => j == q.toNat % 64) := by
  have h1 := bit1 (q.toNat % 64) (by omega)
  rwa [show ((q.toNat % 64 : Nat) : Int) = q % 64 by omega] at h1
theorem ixAt {r q : Int} (h0 : 0 ≤ r) (h : 0 ≤ q ∧ q < 192) : (r * 3 + q / 64).toNat = 3 * r.toNat + q.toNat / 64 := by omega
theorem hasAt {B : Nat → Nat → Bool} {r q : Int} (h0 : 0 ≤ r) (h : 0 ≤ q ∧ q < 192) : (lg_cmp (tw B (r * 3 + q / 64).toNat &&& wL (fun j => j == q.toNat % 64)) 0).toInt = 0 ↔ B r.toNat q.toNat = false := by
  rw [cmp0, and1_0 (by omega), ixAt h0 h, tw_bit _ _ _ (by omega)]
