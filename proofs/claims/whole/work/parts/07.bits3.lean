/-! the lowest bit; ranks; what a row's listing is -/
theorem wL_lN (g : Nat → Bool) : wL g = lN (nB g 64) := rfl
theorem nB_ones : ∀ k, nB (fun _ => true) k + 1 = 2 ^ k
  | 0 => rfl
  | k + 1 => by
    have h := nB_ones k
    have hp : 2 ^ (k + 1) = 2 * 2 ^ k := by rw [Nat.pow_succ]; omega
    rw [show nB (fun _ => true) (k + 1) = nB (fun _ => true) k + 2 ^ k from rfl]
    omega
theorem nB_zero : ∀ k, nB (fun _ => false) k = 0
  | 0 => rfl
  | k + 1 => by
    have h := nB_zero k
    rw [show nB (fun _ => false) (k + 1) = nB (fun _ => false) k + 0 from rfl]
    omega
def lo1 (g : Nat → Bool) (a : Nat) : Nat → Bool := fun j => if j < a then true else if j = a then false else g j
theorem nB_sub1 {g : Nat → Bool} {a : Nat} (h0 : ∀ j, j < a → g j = false) (h1 : g a = true) : ∀ k, a < k → nB g k = nB (lo1 g a) k + 1
  | 0, h => by omega
  | k + 1, h => by
    rw [show nB g (k + 1) = nB g k + (if g k = true then 2 ^ k else 0) from rfl, show nB (lo1 g a) (k + 1) = nB (lo1 g a) k + (if lo1 g a k = true then 2 ^ k else 0) from rfl]
    by_cases q : a = k
    · subst q
      have e1 : nB g a = 0 := by rw [nB_congr (g := fun _ => false) a h0]; exact nB_zero a
      have e2 : nB (lo1 g a) a = nB (fun _ => true) a := nB_congr a (fun j hj => by unfold lo1; rw [if_pos hj])
      have e3 := nB_ones a
      have e4 : lo1 g a a = false := by unfold lo1; rw [if_neg (by omega), if_pos rfl]
      rw [if_pos h1, e4, if_neg (by decide), e1, e2]
      omega
    · have ih := nB_sub1 h0 h1 k (by omega)
      have e4 : lo1 g a k = g k := by unfold lo1; rw [if_neg (by omega), if_neg (by omega)]
      rw [ih, e4]
      omega
theorem wL_sub1 {g : Nat → Bool} {a : Nat} (h0 : ∀ j, j < a → g j = false) (h1 : g a = true) (ha : a < 64) : wL g - 1 = wL (lo1 g a) := by
  rw [wL_lN, wL_lN, nB_sub1 h0 h1 64 ha, show (1 : Int64) = lN 1 from rfl, lN_sub (by omega)]
  rfl
theorem wL_and1 {g : Nat → Bool} {a : Nat} (h0 : ∀ j, j < a → g j = false) (h1 : g a = true) (ha : a < 64) : wL g &&& (wL g - 1) = wL (fun j => decide (a < j) && g j) := by
  rw [wL_sub1 h0 h1 ha]
  refine wL_ext (fun j hj => ?_)
  rw [bA_and, wL_bit, wL_bit]
  unfold lo1
  rcases Nat.lt_trichotomy j a with h | h | h
  · simp [h0 j h, hj]
  · subst h; simp
  · simp [h, show ¬ j < a by omega, show ¬ j = a by omega, hj]
theorem bA_neg (x : Int64) {j : Nat} (h : j < 64) : bA (-x) j = !(bA (x - 1) j) := by
  unfold bA
  have e : -x.toBitVec = ~~~(x.toBitVec - 1#64) := by rw [BitVec.neg_eq_not_add, BitVec.not_sub_one_eq_not_add_one]
  rw [Int64.toBitVec_neg, e, BitVec.getLsbD_not, Int64.toBitVec_sub]
  simp [h]
theorem wL_neg {g : Nat → Bool} {a : Nat} (h0 : ∀ j, j < a → g j = false) (h1 : g a = true) (ha : a < 64) : wL g &&& -wL g = wL (fun j => j == a) := by
  refine wL_ext (fun j hj => ?_)
  rw [bA_and, bA_neg _ hj, wL_sub1 h0 h1 ha, wL_bit, wL_bit]
  unfold lo1
  rcases Nat.lt_trichotomy j a with h | h | h
  · simp [h0 j h, show ¬ j = a by omega]
  · subst h; simp [h1, hj]
  · cases hg : g j <;> simp [h, show ¬ j < a by omega, show ¬ j = a by omega, hj, hg]
theorem wL_low {g : Nat → Bool} {a : Nat} (h0 : ∀ j, j < a → g j = false) (h1 : g a = true) (ha : a < 64) : (wL g &&& -wL g) - 1 = wL (fun j => decide (j < a)) := by
  rw [wL_neg h0 h1 ha, wL_sub1 (a := a) (fun j hj => by simp; omega) (by simp) ha]
  refine wL_congr (fun j _ => ?_)
  unfold lo1
  rcases Nat.lt_trichotomy j a with h | h | h
  · simp [h]
  · subst h; simp
  · simp [show ¬ j < a by omega, show ¬ j = a by omega]
theorem cN_lt (a : Nat) : ∀ k, cN (fun j => decide (j < a)) k = if k ≤ a then k else a
  | 0 => by simp [cN]
  | k + 1 => by
    rw [show cN (fun j => decide (j < a)) (k + 1) = cN (fun j => decide (j < a)) k + (if decide (k < a) = true then 1 else 0) from rfl, cN_lt a k]
    by_cases h : k < a
    · simp [h, show k ≤ a by omega, show k + 1 ≤ a by omega]
    · simp [h]
      split <;> split <;> omega
theorem cN_low {a : Nat} (h : a < 64) : cN (fun j => decide (j < a)) 64 = a := by rw [cN_lt, if_neg (by omega)]
theorem cN_s (g : Nat → Bool) (k : Nat) : cN g (k + 1) = cN g k + (if g k = true then 1 else 0) := rfl
theorem cN_t {g : Nat → Bool} {k : Nat} (h : g k = true) : cN g (k + 1) = cN g k + 1 := by rw [cN_s, if_pos h]
theorem cN_f {g : Nat → Bool} {k : Nat} (h : g k = false) : cN g (k + 1) = cN g k := by rw [cN_s, if_neg (by rw [h]; decide)]; rfl
theorem cN_mono (g : Nat → Bool) {a b : Nat} (h : a ≤ b) : cN g a ≤ cN g b := by
  induction b with
  | zero => rw [show a = 0 by omega]; exact Nat.le_refl _
  | succ b ih =>
    by_cases q : a = b + 1
    · rw [q]; exact Nat.le_refl _
    · have := ih (by omega)
      rw [cN_s]; omega
theorem cN_strict {g : Nat → Bool} {a b : Nat} (h : a < b) (hg : g a = true) : cN g a < cN g b := by
  have h1 := cN_mono g (show a + 1 ≤ b by omega)
  rw [cN_t hg] at h1; omega
theorem cN_le (g : Nat → Bool) : ∀ k, cN g k ≤ k
  | 0 => Nat.le_refl _
  | k + 1 => by have := cN_le g k; rw [cN_s]; split <;> omega
theorem cN_at (g : Nat → Bool) : ∀ (n i : Nat), i < cN g n → ∃ p, p < n ∧ g p = true ∧ cN g p = i
  | 0, i, h => absurd h (Nat.not_lt_zero i)
  | n + 1, i, h => by
    by_cases hg : g n = true
    · rw [cN_t hg] at h
      by_cases q : i = cN g n
      · exact ⟨n, by omega, hg, q.symm⟩
      · obtain ⟨p, h1, h2, h3⟩ := cN_at g n i (by omega)
        exact ⟨p, by omega, h2, h3⟩
    · have hf : g n = false := by cases hb : g n with | false => rfl | true => exact absurd hb hg
      rw [cN_f hf] at h
      obtain ⟨p, h1, h2, h3⟩ := cN_at g n i h
      exact ⟨p, by omega, h2, h3⟩
theorem cN_inj {g : Nat → Bool} {a b : Nat} (ha : g a = true) (hb : g b = true) (h : cN g a = cN g b) : a = b := by
  rcases Nat.lt_trichotomy a b with q | q | q
  · have := cN_strict q ha; omega
  · exact q
  · have := cN_strict q hb; omega
theorem cN_congr {f g : Nat → Bool} : ∀ k, (∀ j, j < k → f j = g j) → cN f k = cN g k
  | 0, _ => rfl
  | k + 1, h => by rw [cN_s, cN_s, cN_congr k (fun j hj => h j (by omega)), h k (by omega)]
theorem cN_split (g : Nat → Bool) (a : Nat) : ∀ k, cN g (a + k) = cN g a + cN (fun j => g (a + j)) k
  | 0 => rfl
  | k + 1 => by rw [show a + (k + 1) = a + k + 1 by omega, cN_s, cN_s, cN_split g a k]; omega
theorem cN_from {g : Nat → Bool} {t n : Nat} (h : t ≤ n) : cN (fun j => decide (t ≤ j) && g j) n + cN g t = cN g n := by
  induction n with
  | zero => rw [show t = 0 by omega]; rfl
  | succ n ih =>
    by_cases q : t = n + 1
    · subst q
      have : cN (fun j => decide (n + 1 ≤ j) && g j) (n + 1) = 0 := by
        rw [cN_congr (g := fun _ => false) (n + 1) (fun j hj => by simp [show ¬ n + 1 ≤ j by omega])]
        have hz : ∀ k, cN (fun _ => false) k = 0 := fun k => by induction k with | zero => rfl | succ k ih => rw [cN_f rfl, ih]
        exact hz _
      omega
    · have ih := ih (by omega)
      rw [cN_s, cN_s]
      simp only [show t ≤ n by omega, decide_true, Bool.true_and]
      omega
/-- the least one, if there is one -/
theorem least_of {g : Nat → Bool} : ∀ n, cN g n ≠ 0 → ∃ a, a < n ∧ g a = true ∧ ∀ j, j < a → g j = false := by
  intro n h
  obtain ⟨p, h1, h2, h3⟩ := cN_at g n 0 (by omega)
  refine ⟨p, h1, h2, fun j hj => ?_⟩
  cases hb : g j with
  | false => rfl
  | true => have := cN_strict hj hb; omega
/-- f holds from place e on the points of g below n, the least first, and elsewhere what f0 holds -/
def lsd (g : Nat → Bool) (n : Nat) (e : Nat) (f0 f : Nat → Int) : Prop :=
  (∀ p, p < n → g p = true → f (e + cN g p) = (p : Int)) ∧ ∀ j, (j < e ∨ e + cN g n ≤ j) → f j = f0 j
theorem lsd_0 {g : Nat → Bool} {e : Nat} {f : Nat → Int} : lsd g 0 e f f := ⟨fun p h => absurd h (Nat.not_lt_zero p), fun _ _ => rfl⟩
theorem lsd_skip {g : Nat → Bool} {n n2 e : Nat} {f0 f : Nat → Int} (h : lsd g n e f0 f) (hn : n ≤ n2) (hg : ∀ p, n ≤ p → p < n2 → g p = false) : lsd g n2 e f0 f := by
  have hc : cN g n2 = cN g n := by
    induction n2 with
    | zero => rw [show n = 0 by omega]
    | succ k ih =>
      by_cases q : n = k + 1
      · rw [q]
      · rw [cN_f (hg k (by omega) (by omega)), ih (by omega) (fun p h1 h2 => hg p h1 (by omega))]
  refine ⟨fun p hp hb => ?_, fun j hj => h.2 j (by rw [hc] at hj; exact hj)⟩
  by_cases q : p < n
  · exact h.1 p q hb
  · rw [hg p (by omega) hp] at hb; cases hb
theorem lsd_put {g : Nat → Bool} {n a e : Nat} {f0 f : Nat → Int} (h : lsd g n e f0 f) (hn : n ≤ a) (hg : ∀ p, n ≤ p → p < a → g p = false) (ha : g a = true) : lsd g (a + 1) e f0 (va_up f (e + cN g n) (a : Int)) := by
  have h2 := lsd_skip h hn hg
  have hc : cN g a = cN g n := by
    have h3 : ∀ k, n ≤ k → k ≤ a → cN g k = cN g n := by
      intro k
      induction k with
      | zero => intro h4 _; rw [show n = 0 by omega]
      | succ k ih =>
        intro h4 h5
        by_cases q : n = k + 1
        · rw [q]
        · rw [cN_f (hg k (by omega) (by omega)), ih (by omega) (by omega)]
    exact h3 a hn (Nat.le_refl a)
  refine ⟨fun p hp hb => ?_, fun j hj => ?_⟩
  · unfold va_up
    by_cases q : p = a
    · subst q; rw [if_pos (by rw [hc])]
    · have hlt : p < a := by omega
      have hs := cN_strict hlt hb
      rw [if_neg (by omega)]
      exact h2.1 p hlt hb
  · rw [cN_t ha] at hj
    unfold va_up
    rw [if_neg (by omega)]
    exact h2.2 j (by omega)
theorem lsd_at {g : Nat → Bool} {n e : Nat} {f0 f : Nat → Int} (h : lsd g n e f0 f) {i : Nat} (hi : i < cN g n) : ∃ p, p < n ∧ g p = true ∧ cN g p = i ∧ f (e + i) = (p : Int) := by
  obtain ⟨p, h1, h2, h3⟩ := cN_at g n i hi
  exact ⟨p, h1, h2, h3, by rw [← h3]; exact h.1 p h1 h2⟩
