/-! the reference's flat tables; Warshall's closure -/
def fz (B : Nat → Nat → Bool) : Nat → Bool := fun k => B (k / 160) (k % 160)
theorem fzI {B : Nat → Nat → Bool} {u v : Int} (hu : 0 ≤ u) (hv : 0 ≤ v ∧ v < 160) : fz B (160 * u + v).toNat = B u.toNat v.toNat := by
  unfold fz
  rw [show (160 * u + v).toNat / 160 = u.toNat by omega, show (160 * u + v).toNat % 160 = v.toNat by omega]
theorem fzU {B : Nat → Nat → Bool} {u v : Int} {x : Bool} (hu : 0 ≤ u) (hv : 0 ≤ v ∧ v < 160) : va_up (fz B) (160 * u + v).toNat x = fz (bP B u.toNat v.toNat x) := by
  funext k
  unfold va_up fz bP
  by_cases z : k = (160 * u + v).toNat
  · rw [if_pos z, if_pos (by omega)]
  · rw [if_neg z, if_neg (by omega)]
theorem fz_0 : fz (fun _ _ => false) = fun _ => false := rfl
/-- a row joined to another, as far as b -/
def jZ (T : Nat → Nat → Bool) (a k b : Nat) : Nat → Nat → Bool := fun x y => if x = a ∧ y < b then T x y || T k y else T x y
theorem jZ_0 (T : Nat → Nat → Bool) (a k : Nat) : jZ T a k 0 = T := by funext x y; unfold jZ; rw [if_neg (by omega)]
theorem jZ_s {T : Nat → Nat → Bool} {a k b : Nat} {z : Bool} (hz : z = (T a b || T k b)) : bP (jZ T a k b) a b z = jZ T a k (b + 1) := by
  funext x y
  unfold bP jZ
  by_cases q : x = a ∧ y = b
  · obtain ⟨rfl, rfl⟩ := q; rw [if_pos ⟨rfl, rfl⟩, if_pos ⟨rfl, by omega⟩, hz]
  · rw [if_neg q]
    by_cases w : x = a ∧ y < b
    · rw [if_pos w, if_pos (by omega)]
    · rw [if_neg w, if_neg (by omega)]
theorem jZ_at {T : Nat → Nat → Bool} {a k b : Nat} : jZ T a k b a b = T a b := by unfold jZ; rw [if_neg (by omega)]
theorem jZ_k {T : Nat → Nat → Bool} {a k b : Nat} : jZ T a k b k b = T k b := by unfold jZ; rw [if_neg (by omega)]
/-- the rows below a are done for the pivot k -/
def pZ (T : Nat → Nat → Bool) (n k a : Nat) : Nat → Nat → Bool := fun x y => if x < a ∧ T x k = true ∧ y < n then T x y || T k y else T x y
theorem pZ_0 (T : Nat → Nat → Bool) (n k : Nat) : pZ T n k 0 = T := by funext x y; unfold pZ; rw [if_neg (by omega)]
theorem pZ_row {T : Nat → Nat → Bool} {n k a y : Nat} : pZ T n k a k y = T k y := by unfold pZ; split; simp; rfl
theorem pZ_piv {T : Nat → Nat → Bool} {n k a x : Nat} (h : a ≤ x) : pZ T n k a x k = T x k := by unfold pZ; rw [if_neg (by omega)]
theorem pZ_no {T : Nat → Nat → Bool} {n k a : Nat} (h : T a k = false) : pZ T n k (a + 1) = pZ T n k a := by
  funext x y
  unfold pZ
  by_cases z : x = a
  · subst z; rw [if_neg (by rw [h]; simp), if_neg (by omega)]
  · by_cases w : x < a ∧ T x k = true ∧ y < n
    · rw [if_pos ⟨by omega, w.2.1, w.2.2⟩, if_pos w]
    · rw [if_neg (fun q => w ⟨by omega, q.2.1, q.2.2⟩), if_neg w]
theorem pZ_yes {T : Nat → Nat → Bool} {n k a : Nat} (h : T a k = true) : jZ (pZ T n k a) a k n = pZ T n k (a + 1) := by
  funext x y
  unfold jZ
  rw [pZ_row]
  by_cases z : x = a
  · subst z
    by_cases w : y < n
    · rw [if_pos ⟨rfl, w⟩]
      unfold pZ
      rw [if_neg (by omega), if_pos ⟨by omega, h, w⟩]
    · rw [if_neg (by omega)]
      unfold pZ
      rw [if_neg (by omega), if_neg (by omega)]
  · rw [if_neg (by omega)]
    unfold pZ
    by_cases w : x < a ∧ T x k = true ∧ y < n
    · rw [if_pos w, if_pos ⟨by omega, w.2.1, w.2.2⟩]
    · rw [if_neg w, if_neg (fun q => w ⟨by omega, q.2.1, q.2.2⟩)]
/-- what the first k pivots have brought -/
def wrs (n : Nat) (B T : Nat → Nat → Bool) (k : Nat) : Prop :=
  (∀ x y, x < n → y < n → B x y = true → T x y = true) ∧ (∀ x y, x < n → y < n → T x y = true → rch (fun a b => decide (a < n ∧ b < n) && B a b) x y) ∧
  (∀ c x y, c < k → c < n → x < n → y < n → T x c = true → T c y = true → T x y = true) ∧ ∀ x y, (n ≤ x ∨ n ≤ y) → T x y = B x y
theorem wrs_0 {n : Nat} {B : Nat → Nat → Bool} : wrs n B B 0 := ⟨fun _ _ _ _ h => h, fun x y hx hy h => rch_arc (by simp [hx, hy, h]), fun c x y h => by omega, fun _ _ _ => rfl⟩
theorem wrs_s {n k : Nat} {B T : Nat → Nat → Bool} (h : wrs n B T k) (hk : k < n) : wrs n B (pZ T n k n) (k + 1) := by
  obtain ⟨h1, h2, h3, h4⟩ := h
  have e : ∀ x y, x < n → y < n → (pZ T n k n x y = true ↔ (T x y = true ∨ (T x k = true ∧ T k y = true))) := fun x y hx hy => by
    unfold pZ
    by_cases z : T x k = true
    · rw [if_pos ⟨hx, z, hy⟩]; simp [z]
    · rw [if_neg (by simp [z])]; simp [z]
  refine ⟨fun x y hx hy hb => (e x y hx hy).mpr (Or.inl (h1 x y hx hy hb)), fun x y hx hy hb => ?_, fun c x y hc hcn hx hy ha hb => ?_, fun x y hxy => ?_⟩
  · rcases (e x y hx hy).mp hb with q | ⟨q1, q2⟩
    · exact h2 x y hx hy q
    · exact rch_trans (h2 x k hx hk q1) (h2 k y hk hy q2)
  · have ha := (e x c hx hcn).mp ha
    have hb := (e c y hcn hy).mp hb
    refine (e x y hx hy).mpr ?_
    by_cases z : c = k
    · subst z
      have a1 : T x c = true := by rcases ha with q | q; exact q; exact q.1
      have b1 : T c y = true := by rcases hb with q | q; exact q; exact q.2
      exact Or.inr ⟨a1, b1⟩
    · have hck : c < k := by omega
      rcases ha with a1 | ⟨a1, a2⟩ <;> rcases hb with b1 | ⟨b1, b2⟩
      · exact Or.inl (h3 c x y hck hcn hx hy a1 b1)
      · exact Or.inr ⟨h3 c x k hck hcn hx hk a1 b1, b2⟩
      · exact Or.inr ⟨a1, h3 c k y hck hcn hk hy a2 b1⟩
      · exact Or.inr ⟨a1, b2⟩
  · rw [← h4 x y hxy]
    unfold pZ
    rw [if_neg (by omega)]
/-- with every node its own: the closure -/
theorem wrs_cl {n : Nat} {B T : Nat → Nat → Bool} (h : wrs n B T n) (hr : ∀ x, x < n → B x x = true) (x y : Nat) (hx : x < n) (hy : y < n) : T x y = true ↔ rch (fun a b => decide (a < n ∧ b < n) && B a b) x y := by
  refine ⟨h.2.1 x y hx hy, ?_⟩
  rintro ⟨k, hk⟩
  induction k generalizing y with
  | zero => rw [← (show x = y from hk)]; exact h.1 x x hx hx (hr x hx)
  | succ k ih =>
    obtain ⟨c, h1, h2⟩ := hk
    simp at h2
    exact h.2.2.1 c x y h2.1.1 h2.1.1 hx hy (ih c h2.1.1 h1) (h.1 c y h2.1.1 hy h2.2)
