/-! Long.bitCount: digits of a number, in a base that is a power of two -/
def dL (B : Nat) : (Nat → Nat) → Nat → Nat
  | _, 0 => 0
  | c, m + 1 => c 0 + B * dL B (fun k => c (k + 1)) m
theorem dL_lt {B : Nat} (hB : 0 < B) : ∀ (m : Nat) (c : Nat → Nat), (∀ k, c k < B) → dL B c m < B ^ m
  | 0, _, _ => by simp [dL]
  | m + 1, c, h => by
    have h1 := dL_lt hB m (fun k => c (k + 1)) (fun k => h (k + 1))
    have h2 := h 0
    unfold dL
    have h3 : B * (dL B (fun k => c (k + 1)) m + 1) ≤ B * B ^ m := Nat.mul_le_mul_left B h1
    rw [Nat.mul_add, Nat.mul_one] at h3
    rw [Nat.pow_succ, Nat.mul_comm (B ^ m) B]
    omega
theorem dL_add (B : Nat) : ∀ (m : Nat) (u v : Nat → Nat), dL B u m + dL B v m = dL B (fun k => u k + v k) m
  | 0, _, _ => rfl
  | m + 1, u, v => by
    have h := dL_add B m (fun k => u (k + 1)) (fun k => v (k + 1))
    show (u 0 + B * dL B (fun k => u (k + 1)) m) + (v 0 + B * dL B (fun k => v (k + 1)) m) = (u 0 + v 0) + B * dL B (fun k => u (k + 1) + v (k + 1)) m
    rw [← h, Nat.mul_add]
    omega
theorem dL_congr {B : Nat} : ∀ (m : Nat) (u v : Nat → Nat), (∀ k, k < m → u k = v k) → dL B u m = dL B v m
  | 0, _, _, _ => rfl
  | m + 1, u, v, h => by
    unfold dL
    rw [h 0 (by omega), dL_congr m _ _ (fun k hk => h (k + 1) (by omega))]
theorem dL_pair (B : Nat) : ∀ (m : Nat) (c : Nat → Nat), dL B c (2 * m) = dL (B * B) (fun k => c (2 * k) + B * c (2 * k + 1)) m
  | 0, _ => rfl
  | m + 1, c => by
    have h := dL_pair B m (fun k => c (k + 2))
    rw [show 2 * (m + 1) = 2 * m + 1 + 1 by omega]
    show c 0 + B * (c 1 + B * dL B (fun k => c (k + 2)) (2 * m)) = c 0 + B * c 1 + B * B * dL (B * B) (fun k => c (2 * (k + 1)) + B * c (2 * (k + 1) + 1)) m
    rw [h, Nat.mul_add, Nat.mul_assoc B B, Nat.add_assoc]
    rfl
theorem dL_more {B : Nat} : ∀ (m : Nat) (c : Nat → Nat), c m = 0 → dL B c (m + 1) = dL B c m
  | 0, c, h => by unfold dL; rw [h]; simp [dL]
  | m + 1, c, h => by
    have h1 := dL_more (B := B) m (fun k => c (k + 1)) h
    unfold dL
    rw [h1]
theorem dL_shr {B : Nat} (hB : 0 < B) (m : Nat) (c : Nat → Nat) (h0 : c 0 < B) (hm : c m = 0) : dL B c m / B = dL B (fun k => c (k + 1)) m := by
  rw [← dL_more m c hm]
  show (c 0 + B * dL B (fun k => c (k + 1)) m) / B = _
  rw [Nat.add_mul_div_left _ _ hB, Nat.div_eq_of_lt h0, Nat.zero_add]
theorem and_low {w a b x y : Nat} (ha : a < 2 ^ w) (hb : b < 2 ^ w) : (a + 2 ^ w * x) &&& (b + 2 ^ w * y) = (a &&& b) + 2 ^ w * (x &&& y) := by
  apply Nat.eq_of_testBit_eq
  intro j
  have hab : a &&& b < 2 ^ w := Nat.and_lt_two_pow a hb
  rw [Nat.testBit_and, Nat.add_comm a, Nat.add_comm b, Nat.add_comm (a &&& b), Nat.testBit_two_pow_mul_add _ ha, Nat.testBit_two_pow_mul_add _ hb, Nat.testBit_two_pow_mul_add _ hab]
  split <;> simp [Nat.testBit_and]
theorem dL_mask {w B : Nat} (hB : 2 ^ w = B) : ∀ (m : Nat) (c : Nat → Nat), (∀ k, c k < B) → dL (B * B) (fun k => c (2 * k) + B * c (2 * k + 1)) m &&& dL (B * B) (fun _ => B - 1) m = dL (B * B) (fun k => c (2 * k)) m
  | 0, _, _ => by simp [dL]
  | m + 1, c, h => by
    have ih := dL_mask hB m (fun k => c (k + 2)) (fun k => h (k + 2))
    have h0 := h 0
    have h1 := h 1
    have hp : 0 < B := by rw [← hB]; exact Nat.pow_pos (by decide)
    have hBB : 2 ^ (w + w) = B * B := by rw [Nat.pow_add, hB]
    have hlt : c 0 + B * c 1 < B * B := by
      have : B * (c 1 + 1) ≤ B * B := Nat.mul_le_mul_left B h1
      rw [Nat.mul_add, Nat.mul_one] at this
      omega
    have hlt2 : B - 1 < B * B := by
      have : B * 1 ≤ B * B := Nat.mul_le_mul_left B hp
      omega
    show (c 0 + B * c 1 + B * B * dL (B * B) (fun k => c (2 * (k + 1)) + B * c (2 * (k + 1) + 1)) m) &&& (B - 1 + B * B * dL (B * B) (fun _ => B - 1) m) = c 0 + B * B * dL (B * B) (fun k => c (2 * (k + 1))) m
    rw [← hBB] at hlt hlt2 ⊢
    rw [and_low hlt hlt2, hBB]
    have e1 : (c 0 + B * c 1) &&& (B - 1) = c 0 := by
      rw [← hB, Nat.and_two_pow_sub_one_eq_mod, hB, Nat.add_mul_mod_self_left, Nat.mod_eq_of_lt h0]
    rw [e1]
    congr 2
theorem zl_tn {n : Nat} (h : n < 2 ^ 64) : (UInt64.ofNat n).toNat = n := Nat.mod_eq_of_lt h
theorem zl_and {a b c : Nat} (ha : a < 2 ^ 64) (hb : b < 2 ^ 64) (hc : a &&& b = c) : lN a &&& lN b = lN c := by
  subst hc
  have h : UInt64.ofNat a &&& UInt64.ofNat b = UInt64.ofNat (a &&& b) := UInt64.toNat_inj.mp (by rw [UInt64.toNat_and, zl_tn ha, zl_tn hb, zl_tn (Nat.and_lt_two_pow a hb)])
  have h2 := congrArg UInt64.toInt64 h
  exact h2
theorem zl_ushr {a k p : Nat} {y : UInt64} (hy : y = UInt64.ofNat k) (hk : k < 64) (hp : 2 ^ k = p) (ha : a < 2 ^ 64) : ((lN a).toUInt64 >>> y).toInt64 = lN (a / p) := by
  subst hy hp
  have h : UInt64.ofNat a >>> UInt64.ofNat k = UInt64.ofNat (a / 2 ^ k) := UInt64.toNat_inj.mp (by rw [UInt64.toNat_shiftRight, zl_tn ha, zl_tn (by omega), zl_tn (Nat.lt_of_le_of_lt (Nat.div_le_self _ _) ha), Nat.mod_eq_of_lt hk, Nat.shiftRight_eq_div_pow])
  have h2 := congrArg UInt64.toInt64 h
  exact h2
/-- the digits on the way -/
def bb (g : Nat → Bool) : Nat → Nat := fun k => if k < 64 ∧ g k = true then 1 else 0
def c1 (g : Nat → Bool) : Nat → Nat := fun k => bb g (2 * k) + bb g (2 * k + 1)
def c2 (g : Nat → Bool) : Nat → Nat := fun k => c1 g (2 * k) + c1 g (2 * k + 1)
def c3 (g : Nat → Bool) : Nat → Nat := fun k => c2 g (2 * k) + c2 g (2 * k + 1)
def c4 (g : Nat → Bool) : Nat → Nat := fun k => c3 g k + c3 g (k + 1)
def c5 (g : Nat → Bool) : Nat → Nat := fun k => c4 g k + c4 g (k + 2)
def c6 (g : Nat → Bool) : Nat → Nat := fun k => c5 g k + c5 g (k + 4)
theorem bb_le (g : Nat → Bool) (k : Nat) : bb g k ≤ 1 := by unfold bb; split <;> omega
theorem bb_z (g : Nat → Bool) {k : Nat} (h : 64 ≤ k) : bb g k = 0 := by unfold bb; rw [if_neg (by omega)]
theorem c1_le (g : Nat → Bool) (k : Nat) : c1 g k ≤ 2 := by have := bb_le g (2 * k); have := bb_le g (2 * k + 1); unfold c1; omega
theorem c1_z (g : Nat → Bool) {k : Nat} (h : 32 ≤ k) : c1 g k = 0 := by unfold c1; rw [bb_z g (by omega), bb_z g (by omega)]
theorem c2_le (g : Nat → Bool) (k : Nat) : c2 g k ≤ 4 := by have := c1_le g (2 * k); have := c1_le g (2 * k + 1); unfold c2; omega
theorem c2_z (g : Nat → Bool) {k : Nat} (h : 16 ≤ k) : c2 g k = 0 := by unfold c2; rw [c1_z g (by omega), c1_z g (by omega)]
theorem c3_le (g : Nat → Bool) (k : Nat) : c3 g k ≤ 8 := by have := c2_le g (2 * k); have := c2_le g (2 * k + 1); unfold c3; omega
theorem c3_z (g : Nat → Bool) {k : Nat} (h : 8 ≤ k) : c3 g k = 0 := by unfold c3; rw [c2_z g (by omega), c2_z g (by omega)]
theorem c4_le (g : Nat → Bool) (k : Nat) : c4 g k ≤ 16 := by have := c3_le g k; have := c3_le g (k + 1); unfold c4; omega
theorem c4_z (g : Nat → Bool) {k : Nat} (h : 8 ≤ k) : c4 g k = 0 := by unfold c4; rw [c3_z g (by omega), c3_z g (by omega)]
theorem c5_le (g : Nat → Bool) (k : Nat) : c5 g k ≤ 32 := by have := c4_le g k; have := c4_le g (k + 2); unfold c5; omega
theorem c5_z (g : Nat → Bool) {k : Nat} (h : 8 ≤ k) : c5 g k = 0 := by unfold c5; rw [c4_z g (by omega), c4_z g (by omega)]
theorem c6_le (g : Nat → Bool) (k : Nat) : c6 g k ≤ 64 := by have := c5_le g k; have := c5_le g (k + 4); unfold c6; omega
theorem nB_low (g : Nat → Bool) : ∀ k, nB g (k + 1) = (if g 0 = true then 1 else 0) + 2 * nB (fun j => g (j + 1)) k
  | 0 => by simp [nB]
  | k + 1 => by
    have h := nB_low g k
    rw [show nB g (k + 1 + 1) = nB g (k + 1) + (if g (k + 1) = true then 2 ^ (k + 1) else 0) from rfl, h]
    rw [show nB (fun j => g (j + 1)) (k + 1) = nB (fun j => g (j + 1)) k + (if g (k + 1) = true then 2 ^ k else 0) from rfl, Nat.mul_add]
    have hp : 2 ^ (k + 1) = 2 * 2 ^ k := by rw [Nat.pow_succ]; omega
    by_cases q : g (k + 1) = true
    · rw [if_pos q, if_pos q]; omega
    · rw [if_neg q, if_neg q]; omega
theorem nB_dL : ∀ (k : Nat) (g : Nat → Bool), nB g k = dL 2 (fun j => if g j = true then 1 else 0) k
  | 0, _ => rfl
  | k + 1, g => by rw [nB_low, nB_dL k]; rfl
theorem sw0 (g : Nat → Bool) : wL g = lN (dL 2 (bb g) 64) := by
  have h : nB g 64 = dL 2 (bb g) 64 := by
    rw [nB_dL]
    exact dL_congr 64 _ _ (fun k hk => by unfold bb; by_cases q : g k = true <;> simp [q, hk])
  unfold wL
  rw [h]
  rfl
theorem two64 {n : Nat} (h : n < 18446744073709551616) : n < 2 ^ 64 := h
theorem n0_lt (g : Nat → Bool) : dL 2 (bb g) 64 < 2 ^ 64 := dL_lt (by decide) 64 _ (fun k => by have := bb_le g k; omega)
theorem n1_lt (g : Nat → Bool) : dL 4 (c1 g) 32 < 2 ^ 64 := Nat.lt_of_lt_of_eq (dL_lt (by decide) 32 _ (fun k => by have := c1_le g k; omega)) (by decide)
theorem n2_lt (g : Nat → Bool) : dL 16 (c2 g) 16 < 2 ^ 64 := Nat.lt_of_lt_of_eq (dL_lt (by decide) 16 _ (fun k => by have := c2_le g k; omega)) (by decide)
theorem n3_lt (g : Nat → Bool) : dL 256 (c3 g) 8 < 2 ^ 64 := Nat.lt_of_lt_of_eq (dL_lt (by decide) 8 _ (fun k => by have := c3_le g k; omega)) (by decide)
theorem n4_lt (g : Nat → Bool) : dL 256 (c4 g) 8 < 2 ^ 64 := Nat.lt_of_lt_of_eq (dL_lt (by decide) 8 _ (fun k => by have := c4_le g k; omega)) (by decide)
theorem n5_lt (g : Nat → Bool) : dL 256 (c5 g) 8 < 2 ^ 64 := Nat.lt_of_lt_of_eq (dL_lt (by decide) 8 _ (fun k => by have := c5_le g k; omega)) (by decide)
theorem au1 {n0 h v n1 : Nat} (hn : n0 < 2 ^ 64) (e1 : n0 / 2 = h) (e3 : h &&& 6148914691236517205 = v) (e5 : n1 + v = n0) : lN n0 - (((lN n0).toUInt64 >>> ((iI 1).toInt64.toUInt64 &&& Int64.toUInt64 63)).toInt64 &&& 6148914691236517205) = lN n1 := by
  rw [zl_ushr (k := 1) (p := 2) (by decide) (by decide) (by decide) hn, e1, show (6148914691236517205 : Int64) = lN 6148914691236517205 from rfl, zl_and (by omega) (by decide) e3, lN_sub (by omega)]
  congr 1
  omega
theorem au2 {n1 h u v n2 : Nat} (hn : n1 < 2 ^ 64) (e1 : n1 / 4 = h) (e2 : n1 &&& 3689348814741910323 = u) (e3 : h &&& 3689348814741910323 = v) (e5 : u + v = n2) : (lN n1 &&& 3689348814741910323) + (((lN n1).toUInt64 >>> ((iI 2).toInt64.toUInt64 &&& Int64.toUInt64 63)).toInt64 &&& 3689348814741910323) = lN n2 := by
  rw [zl_ushr (k := 2) (p := 4) (by decide) (by decide) (by decide) hn, e1, show (3689348814741910323 : Int64) = lN 3689348814741910323 from rfl, zl_and (by omega) (by decide) e3, zl_and hn (by decide) e2, lN_add, e5]
theorem au3 {n2 h t n3 : Nat} (hn : n2 < 2 ^ 64) (e1 : n2 / 16 = h) (e2 : n2 + h = t) (ht : t < 2 ^ 64) (e3 : t &&& 1085102592571150095 = n3) : (lN n2 + ((lN n2).toUInt64 >>> ((iI 4).toInt64.toUInt64 &&& Int64.toUInt64 63)).toInt64) &&& 1085102592571150095 = lN n3 := by
  rw [zl_ushr (k := 4) (p := 16) (by decide) (by decide) (by decide) hn, e1, lN_add, e2, show (1085102592571150095 : Int64) = lN 1085102592571150095 from rfl, zl_and ht (by decide) e3]
theorem au4 {n h t : Nat} {k p : Nat} {y : Int} (hy : ((iI y).toInt64.toUInt64 &&& Int64.toUInt64 63) = UInt64.ofNat k) (hk : k < 64) (hp : 2 ^ k = p) (hn : n < 2 ^ 64) (e1 : n / p = h) (e2 : n + h = t) : lN n + ((lN n).toUInt64 >>> ((iI y).toInt64.toUInt64 &&& Int64.toUInt64 63)).toInt64 = lN t := by
  rw [zl_ushr hy hk hp hn, e1, lN_add, e2]
theorem sw1 (g : Nat → Bool) : wL g - (((wL g).toUInt64 >>> ((iI 1).toInt64.toUInt64 &&& Int64.toUInt64 63)).toInt64 &&& 6148914691236517205) = lN (dL 4 (c1 g) 32) := by
  have e0 : dL 2 (bb g) 64 = dL 4 (fun k => bb g (2 * k) + 2 * bb g (2 * k + 1)) 32 := dL_pair 2 32 (bb g)
  have e1 : dL 2 (bb g) 64 / 2 = dL 2 (fun k => bb g (k + 1)) 64 := dL_shr (by decide) 64 _ (by have := bb_le g 0; omega) (bb_z g (by omega))
  have e2 : dL 2 (fun k => bb g (k + 1)) 64 = dL 4 (fun k => bb g (2 * k + 1) + 2 * bb g (2 * k + 1 + 1)) 32 := dL_pair 2 32 (fun k => bb g (k + 1))
  have e3 : dL 4 (fun k => bb g (2 * k + 1) + 2 * bb g (2 * k + 1 + 1)) 32 &&& dL 4 (fun _ => 1) 32 = dL 4 (fun k => bb g (2 * k + 1)) 32 := dL_mask (w := 1) (B := 2) rfl 32 (fun k => bb g (k + 1)) (fun k => by have := bb_le g (k + 1); omega)
  have e4 : dL 4 (fun _ => 1) 32 = 6148914691236517205 := by decide +kernel
  rw [e4] at e3
  have e5 : dL 4 (c1 g) 32 + dL 4 (fun k => bb g (2 * k + 1)) 32 = dL 2 (bb g) 64 := by
    rw [dL_add, e0]
    exact dL_congr 32 _ _ (fun k _ => by unfold c1; omega)
  have h0 := n0_lt g
  have hs := sw0 g
  generalize dL 2 (bb g) 64 = n0 at *
  generalize dL 2 (fun k => bb g (k + 1)) 64 = n9 at *
  generalize dL 4 (c1 g) 32 = n1 at *
  rw [hs]
  rw [← e2] at e3
  exact au1 h0 e1 e3 e5
theorem sw2 (g : Nat → Bool) : (lN (dL 4 (c1 g) 32) &&& 3689348814741910323) + (((lN (dL 4 (c1 g) 32)).toUInt64 >>> ((iI 2).toInt64.toUInt64 &&& Int64.toUInt64 63)).toInt64 &&& 3689348814741910323) = lN (dL 16 (c2 g) 16) := by
  have e0 : dL 4 (c1 g) 32 = dL 16 (fun k => c1 g (2 * k) + 4 * c1 g (2 * k + 1)) 16 := dL_pair 4 16 (c1 g)
  have e1 : dL 4 (c1 g) 32 / 4 = dL 4 (fun k => c1 g (k + 1)) 32 := dL_shr (by decide) 32 _ (by have := c1_le g 0; omega) (c1_z g (by omega))
  have e2 : dL 4 (fun k => c1 g (k + 1)) 32 = dL 16 (fun k => c1 g (2 * k + 1) + 4 * c1 g (2 * k + 1 + 1)) 16 := dL_pair 4 16 (fun k => c1 g (k + 1))
  have e3 : dL 16 (fun k => c1 g (2 * k + 1) + 4 * c1 g (2 * k + 1 + 1)) 16 &&& dL 16 (fun _ => 3) 16 = dL 16 (fun k => c1 g (2 * k + 1)) 16 := dL_mask (w := 2) (B := 4) rfl 16 (fun k => c1 g (k + 1)) (fun k => by have := c1_le g (k + 1); omega)
  have e3' : dL 16 (fun k => c1 g (2 * k) + 4 * c1 g (2 * k + 1)) 16 &&& dL 16 (fun _ => 3) 16 = dL 16 (fun k => c1 g (2 * k)) 16 := dL_mask (w := 2) (B := 4) rfl 16 (c1 g) (fun k => by have := c1_le g k; omega)
  have e4 : dL 16 (fun _ => 3) 16 = 3689348814741910323 := by decide +kernel
  rw [e4] at e3 e3'
  have e5 : dL 16 (fun k => c1 g (2 * k)) 16 + dL 16 (fun k => c1 g (2 * k + 1)) 16 = dL 16 (c2 g) 16 := dL_add 16 16 _ _
  have h0 := n1_lt g
  generalize dL 4 (c1 g) 32 = n1 at *
  generalize dL 4 (fun k => c1 g (k + 1)) 32 = n9 at *
  generalize dL 16 (c2 g) 16 = n2 at *
  rw [← e2] at e3
  rw [← e0] at e3'
  exact au2 h0 e1 e3' e3 e5
theorem sw3 (g : Nat → Bool) : (lN (dL 16 (c2 g) 16) + ((lN (dL 16 (c2 g) 16)).toUInt64 >>> ((iI 4).toInt64.toUInt64 &&& Int64.toUInt64 63)).toInt64) &&& 1085102592571150095 = lN (dL 256 (c3 g) 8) := by
  have e1 : dL 16 (c2 g) 16 / 16 = dL 16 (fun k => c2 g (k + 1)) 16 := dL_shr (by decide) 16 _ (by have := c2_le g 0; omega) (c2_z g (by omega))
  have hs : dL 16 (fun k => c2 g k + c2 g (k + 1)) 16 < 2 ^ 64 := Nat.lt_of_lt_of_eq (dL_lt (by decide) 16 _ (fun k => by have := c2_le g k; have := c2_le g (k + 1); omega)) (by decide)
  have e2 : dL 16 (fun k => c2 g k + c2 g (k + 1)) 16 = dL 256 (fun k => (c2 g (2 * k) + c2 g (2 * k + 1)) + 16 * (c2 g (2 * k + 1) + c2 g (2 * k + 1 + 1))) 8 := dL_pair 16 8 (fun k => c2 g k + c2 g (k + 1))
  have e3 : dL 256 (fun k => (c2 g (2 * k) + c2 g (2 * k + 1)) + 16 * (c2 g (2 * k + 1) + c2 g (2 * k + 1 + 1))) 8 &&& dL 256 (fun _ => 15) 8 = dL 256 (c3 g) 8 := dL_mask (w := 4) (B := 16) rfl 8 (fun k => c2 g k + c2 g (k + 1)) (fun k => by have := c2_le g k; have := c2_le g (k + 1); omega)
  have e4 : dL 256 (fun _ => 15) 8 = 1085102592571150095 := by decide +kernel
  rw [e4] at e3
  have e5 : dL 16 (c2 g) 16 + dL 16 (fun k => c2 g (k + 1)) 16 = dL 16 (fun k => c2 g k + c2 g (k + 1)) 16 := dL_add 16 16 _ _
  have h0 := n2_lt g
  generalize dL 16 (c2 g) 16 = n1 at *
  generalize dL 16 (fun k => c2 g (k + 1)) 16 = n9 at *
  generalize dL 16 (fun k => c2 g k + c2 g (k + 1)) 16 = n8 at *
  generalize dL 256 (c3 g) 8 = n3 at *
  rw [← e2] at e3
  exact au3 h0 e1 e5 hs e3
theorem sw4 (g : Nat → Bool) : lN (dL 256 (c3 g) 8) + ((lN (dL 256 (c3 g) 8)).toUInt64 >>> ((iI 8).toInt64.toUInt64 &&& Int64.toUInt64 63)).toInt64 = lN (dL 256 (c4 g) 8) := by
  have e1 : dL 256 (c3 g) 8 / 256 = dL 256 (fun k => c3 g (k + 1)) 8 := dL_shr (by decide) 8 _ (by have := c3_le g 0; show c3 g 0 < 256; omega) (c3_z g (by omega))
  have e9 : dL 256 (c3 g) 8 + dL 256 (fun k => c3 g (k + 1)) 8 = dL 256 (c4 g) 8 := dL_add 256 8 _ _
  have h0 := n3_lt g
  generalize dL 256 (c3 g) 8 = x0 at *
  generalize dL 256 (fun k => c3 g (k + 1)) 8 = x1 at *
  generalize dL 256 (c4 g) 8 = y at *
  exact au4 (k := 8) (by decide) (by decide) (by decide : 2 ^ 8 = 256) h0 (by omega) e9
theorem sw5 (g : Nat → Bool) : lN (dL 256 (c4 g) 8) + ((lN (dL 256 (c4 g) 8)).toUInt64 >>> ((iI 16).toInt64.toUInt64 &&& Int64.toUInt64 63)).toInt64 = lN (dL 256 (c5 g) 8) := by
  have e1 : dL 256 (c4 g) 8 / 256 = dL 256 (fun k => c4 g (k + 1)) 8 := dL_shr (by decide) 8 _ (by have := c4_le g 0; show c4 g 0 < 256; omega) (c4_z g (by omega))
  have e2 : dL 256 (fun k => c4 g (k + 1)) 8 / 256 = dL 256 (fun k => c4 g (k + 2)) 8 := dL_shr (by decide) 8 _ (by have := c4_le g 1; show c4 g 1 < 256; omega) (c4_z g (by omega))
  have e9 : dL 256 (c4 g) 8 + dL 256 (fun k => c4 g (k + 2)) 8 = dL 256 (c5 g) 8 := dL_add 256 8 _ _
  have h0 := n4_lt g
  generalize dL 256 (c4 g) 8 = x0 at *
  generalize dL 256 (fun k => c4 g (k + 1)) 8 = x1 at *
  generalize dL 256 (fun k => c4 g (k + 2)) 8 = x2 at *
  generalize dL 256 (c5 g) 8 = y at *
  exact au4 (k := 16) (by decide) (by decide) (by decide : 2 ^ 16 = 65536) h0 (by omega) e9
theorem sw6 (g : Nat → Bool) : lN (dL 256 (c5 g) 8) + ((lN (dL 256 (c5 g) 8)).toUInt64 >>> ((iI 32).toInt64.toUInt64 &&& Int64.toUInt64 63)).toInt64 = lN (dL 256 (c6 g) 8) := by
  have e1 : dL 256 (c5 g) 8 / 256 = dL 256 (fun k => c5 g (k + 1)) 8 := dL_shr (by decide) 8 _ (by have := c5_le g 0; show c5 g 0 < 256; omega) (c5_z g (by omega))
  have e2 : dL 256 (fun k => c5 g (k + 1)) 8 / 256 = dL 256 (fun k => c5 g (k + 2)) 8 := dL_shr (by decide) 8 _ (by have := c5_le g 1; show c5 g 1 < 256; omega) (c5_z g (by omega))
  have e3 : dL 256 (fun k => c5 g (k + 2)) 8 / 256 = dL 256 (fun k => c5 g (k + 3)) 8 := dL_shr (by decide) 8 _ (by have := c5_le g 2; show c5 g 2 < 256; omega) (c5_z g (by omega))
  have e4 : dL 256 (fun k => c5 g (k + 3)) 8 / 256 = dL 256 (fun k => c5 g (k + 4)) 8 := dL_shr (by decide) 8 _ (by have := c5_le g 3; show c5 g 3 < 256; omega) (c5_z g (by omega))
  have e9 : dL 256 (c5 g) 8 + dL 256 (fun k => c5 g (k + 4)) 8 = dL 256 (c6 g) 8 := dL_add 256 8 _ _
  have h0 := n5_lt g
  generalize dL 256 (c5 g) 8 = x0 at *
  generalize dL 256 (fun k => c5 g (k + 1)) 8 = x1 at *
  generalize dL 256 (fun k => c5 g (k + 2)) 8 = x2 at *
  generalize dL 256 (fun k => c5 g (k + 3)) 8 = x3 at *
  generalize dL 256 (fun k => c5 g (k + 4)) 8 = x4 at *
  generalize dL 256 (c6 g) 8 = y at *
  exact au4 (k := 32) (by decide) (by decide) (by decide : 2 ^ 32 = 4294967296) h0 (by omega) e9
theorem cN_bb (g : Nat → Bool) : cN g 64 = c6 g 0 := by
  have hb : ∀ k, k < 64 → (if g k = true then 1 else 0) = bb g k := fun k hk => by unfold bb; by_cases q : g k = true <;> simp [q, hk]
  simp only [cN, c6, c5, c4, c3, c2, c1, Nat.reduceMul, Nat.reduceAdd, Nat.mul_zero, Nat.zero_add]
  rw [hb 0 (by decide), hb 1 (by decide), hb 2 (by decide), hb 3 (by decide), hb 4 (by decide), hb 5 (by decide), hb 6 (by decide), hb 7 (by decide), hb 8 (by decide), hb 9 (by decide), hb 10 (by decide), hb 11 (by decide), hb 12 (by decide), hb 13 (by decide), hb 14 (by decide), hb 15 (by decide), hb 16 (by decide), hb 17 (by decide), hb 18 (by decide), hb 19 (by decide), hb 20 (by decide), hb 21 (by decide), hb 22 (by decide), hb 23 (by decide), hb 24 (by decide), hb 25 (by decide), hb 26 (by decide), hb 27 (by decide), hb 28 (by decide), hb 29 (by decide), hb 30 (by decide), hb 31 (by decide), hb 32 (by decide), hb 33 (by decide), hb 34 (by decide), hb 35 (by decide), hb 36 (by decide), hb 37 (by decide), hb 38 (by decide), hb 39 (by decide), hb 40 (by decide), hb 41 (by decide), hb 42 (by decide), hb 43 (by decide), hb 44 (by decide), hb 45 (by decide), hb 46 (by decide), hb 47 (by decide), hb 48 (by decide), hb 49 (by decide), hb 50 (by decide), hb 51 (by decide), hb 52 (by decide), hb 53 (by decide), hb 54 (by decide), hb 55 (by decide), hb 56 (by decide), hb 57 (by decide), hb 58 (by decide), hb 59 (by decide), hb 60 (by decide), hb 61 (by decide), hb 62 (by decide), hb 63 (by decide)]
  omega
theorem au7 {n c h : Nat} (e : n = c + 256 * h) (hc : c ≤ 64) : iI (lN n).toInt32.toInt &&& iI 127 = iI c := by
  rw [iI_of, lN_i]
  have e1 : nI n &&& 127 = nI ((nI n).toBitVec.toNat % 2 ^ 7) := pk_and _ 7 (by decide)
  have e2 : (nI n).toBitVec.toNat = n % 2 ^ 32 := rfl
  rw [show iI 127 = 127 from by decide, e1, e2, iI_nat]
  have e3 : n % 2 ^ 32 % 2 ^ 7 = c := by omega
  rw [e3]
  rfl
theorem sw7 (g : Nat → Bool) : iI (lN (dL 256 (c6 g) 8)).toInt32.toInt &&& iI 127 = iI (cN g 64) := by
  have e : dL 256 (c6 g) 8 = c6 g 0 + 256 * dL 256 (fun k => c6 g (k + 1)) 7 := rfl
  have h := c6_le g 0
  have hb := cN_bb g
  generalize dL 256 (c6 g) 8 = n at *
  generalize dL 256 (fun k => c6 g (k + 1)) 7 = y at *
  rw [hb]
  exact au7 e h
-- cells that agree below their length are one
section VVK
variable {p : Program} {l : Launch} {e : Env} {R : Room} {s : State} {m : MethodId} {args : Array Value} {below : List Frame} {meth : Method} {c : Code} {G : vv_G} {A : Nat → Prop} {nL : Nat} {Q : State → Prop} {pc kc ks : Nat} {lv : List (Nat × Value)} {rest st : List Value} {ws ws' : va_W}
theorem arrV_congr {cI : ClassId} {N : Nat} {f g : Nat → Value} (h : ∀ j, j < N → f j = g j) : arrV cI N f = arrV cI N g := by
  unfold arrV
  congr 1
  congr 1
  funext j
  exact h j.val j.isLt
theorem vv_con {a n : Nat} {cA : ClassId} {x y : vp_A} (q : Nat) (ha : ws[q]? = some (a, .inl (cA, x))) (hc : vp_cell cA x = vp_cell cA y) (hw : ws.set q (a, .inl (cA, y)) = ws')
    (k : vv_V p l e R s m args below meth c G A nL Q pc lv st ws' kc ks) : vv_V p l e R s m args below meth c G A nL Q pc lv st ws kc ks := by
  subst hw
  intro H locs ls hP hD hS hl
  refine k H locs ls ?_ (hD.set ha) hS hl
  intro i z hz
  rw [List.getElem?_set] at hz
  by_cases hi : q = i
  · subst hi
    rw [if_pos rfl] at hz
    split at hz
    · cases hz
      have h0 := hP q _ ha
      show H[a]? = some (vp_cell cA y)
      rw [← hc]; exact h0
    · cases hz
  · rw [if_neg hi] at hz
    exact hP i z hz
theorem vv_conJ {a n : Nat} {f g : Nat → Int64} (q : Nat) (ha : ws[q]? = some (ceJ G a n f)) (h : ∀ j, j < n → f j = g j) (hw : ws.set q (ceJ G a n g) = ws')
    (k : vv_V p l e R s m args below meth c G A nL Q pc lv st ws' kc ks) : vv_V p l e R s m args below meth c G A nL Q pc lv st ws kc ks :=
  vv_con (n := n) q ha (show vp_cell G.2.2.1 (n, .inr (.inl f)) = vp_cell G.2.2.1 (n, .inr (.inl g)) from arrV_congr (f := fun j => .long (f j)) (g := fun j => .long (g j)) (fun j hj => by show _ = _; rw [h j hj])) hw k
theorem vv_conI {a n : Nat} {f g : Nat → Int} (q : Nat) (ha : ws[q]? = some (ceI G a n f)) (h : ∀ j, j < n → f j = g j) (hw : ws.set q (ceI G a n g) = ws')
    (k : vv_V p l e R s m args below meth c G A nL Q pc lv st ws' kc ks) : vv_V p l e R s m args below meth c G A nL Q pc lv st ws kc ks :=
  vv_con (n := n) q ha (show vp_cell G.2.1 (n, .inl (fun k => iI (f k))) = vp_cell G.2.1 (n, .inl (fun k => iI (g k))) from arrV_congr (f := fun j => .int (iI (f j))) (g := fun j => .int (iI (g j))) (fun j hj => by show _ = _; rw [h j hj])) hw k
theorem vv_conZ {a n : Nat} {f g : Nat → Bool} (q : Nat) (ha : ws[q]? = some (ceZ G a n f)) (h : ∀ j, j < n → f j = g j) (hw : ws.set q (ceZ G a n g) = ws')
    (k : vv_V p l e R s m args below meth c G A nL Q pc lv st ws' kc ks) : vv_V p l e R s m args below meth c G A nL Q pc lv st ws kc ks :=
  vv_con (n := n) q ha (show vp_cell G.2.2.2 (n, .inl (fun k => iI (bZ (f k)))) = vp_cell G.2.2.2 (n, .inl (fun k => iI (bZ (g k)))) from arrV_congr (f := fun j => .int (iI (bZ (f j)))) (g := fun j => .int (iI (bZ (g j)))) (fun j hj => by show _ = _; rw [h j hj])) hw k
/-- another form of the value on top -/
theorem vv_tj {x y : Int64} (h : x = y) (k : vv_V p l e R s m args below meth c G A nL Q pc lv (.long y :: rest) ws kc ks) : vv_V p l e R s m args below meth c G A nL Q pc lv (.long x :: rest) ws kc ks := h ▸ k
theorem vv_ti {x y : Int} (h : x = y) (k : vv_V p l e R s m args below meth c G A nL Q pc lv (.int (iI y) :: rest) ws kc ks) : vv_V p l e R s m args below meth c G A nL Q pc lv (.int (iI x) :: rest) ws kc ks := h ▸ k
end VVK
