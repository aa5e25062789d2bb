/-! counting over rows and lists -/
def sumN (f : Nat → Nat) : Nat → Nat
  | 0 => 0
  | n + 1 => sumN f n + f n
theorem sumN_congr {f g : Nat → Nat} : ∀ n, (∀ j, j < n → f j = g j) → sumN f n = sumN g n
  | 0, _ => rfl
  | n + 1, h => by unfold sumN; rw [sumN_congr n (fun j hj => h j (by omega)), h n (by omega)]
theorem sumN_le {f : Nat → Nat} {m : Nat} : ∀ n, (∀ j, j < n → f j ≤ m) → sumN f n ≤ m * n
  | 0, _ => by simp [sumN]
  | n + 1, h => by
    have := sumN_le n (fun j hj => h j (by omega))
    have := h n (by omega)
    unfold sumN
    rw [Nat.mul_add]
    omega
theorem cN_single {p n : Nat} (h : p < n) : cN (fun j => decide (j = p)) n = 1 := by
  have e : ∀ k, cN (fun j => decide (j = p)) k = if p < k then 1 else 0 := by
    intro k
    induction k with
    | zero => rfl
    | succ k ih =>
      rw [cN_s, ih]
      by_cases z : k = p
      · subst z; simp
      · by_cases y : p < k
        · simp [z, y, show p < k + 1 by omega]
        · simp [z, y, show ¬ p < k + 1 by omega]
  rw [e, if_pos h]
/-- the count of the first listed ones that have a property -/
theorem rk_step {g q : Nat → Bool} {p j n : Nat} (hp : g p = true) (hc : cN g p = j) (hn : p < n) : cN (fun b => g b && decide (cN g b < j + 1) && q b) n = cN (fun b => g b && decide (cN g b < j) && q b) n + (if q p = true then 1 else 0) := by
  by_cases hq : q p = true
  · have e1 : cN (fun b => g b && decide (cN g b < j + 1) && q b) n = cN (fun b => (g b && decide (cN g b < j) && q b) || decide (b = p)) n := cN_congr n (fun b _ => by
      show (g b && decide (cN g b < j + 1) && q b) = ((g b && decide (cN g b < j) && q b) || decide (b = p))
      by_cases z : b = p
      · subst z; simp [hp, hc, hq]
      · cases hb : g b with
        | false => simp [z]
        | true =>
          have := rank_s hp hc hb
          by_cases w : cN g b < j
          · simp [z, w, this.mpr (Or.inl w)]
          · have w2 : ¬ cN g b < j + 1 := fun x => by rcases this.mp x with x | x; exact w x; exact z x
            simp [z, w, w2])
    rw [e1, cN_or n (fun b _ hb => by
      apply decide_eq_false
      intro z; subst z
      simp [hc] at hb), cN_single hn, if_pos hq]
  · rw [if_neg hq, Nat.add_zero]
    refine cN_congr n (fun b _ => ?_)
    show (g b && decide (cN g b < j + 1) && q b) = (g b && decide (cN g b < j) && q b)
    by_cases z : b = p
    · subst z
      have : q b = false := by cases h : q b with | false => rfl | true => exact absurd h hq
      simp [this]
    · cases hb : g b with
      | false => simp
      | true =>
        have := rank_s hp hc hb
        by_cases w : cN g b < j
        · simp [w, this.mpr (Or.inl w)]
        · have w2 : ¬ cN g b < j + 1 := fun x => by rcases this.mp x with x | x; exact w x; exact z x
          simp [w, w2]
theorem rk_0 {g q : Nat → Bool} {n : Nat} : cN (fun b => g b && decide (cN g b < 0) && q b) n = 0 := cN_z (fun j _ => by simp)
theorem rk_end {g q : Nat → Bool} {n m : Nat} (h : ∀ y, g y = true → y < n) (hm : n ≤ m) : cN (fun b => g b && decide (cN g b < cN g m) && q b) m = cN (fun b => g b && q b) n := by
  have e1 : cN (fun b => g b && decide (cN g b < cN g m) && q b) m = cN (fun b => g b && q b) m := cN_congr m (fun b hb => by
    show (g b && decide (cN g b < cN g m) && q b) = (g b && q b)
    cases hg : g b with
    | false => simp
    | true => simp [cN_strict hb hg])
  rw [e1]
  exact cN_cut (fun j hj => by simp at hj; exact h j hj.1) m hm
/-- how many arcs of a part stay in it, or leave it -/
def aArcs (B : Nat → Nat → Bool) (n : Nat) (num : Nat → Int) (c : Int) (ins : Bool) : Nat := sumN (fun a => if num a = c then cN (fun b => B a b && (decide (num b = c) == ins)) n else 0) n
theorem aArcs_congr {B : Nat → Nat → Bool} {n : Nat} {num num' : Nat → Int} {c : Int} {ins : Bool} (h : ∀ a, a < n → num a = num' a) : aArcs B n num c ins = aArcs B n num' c ins := by
  unfold aArcs
  refine sumN_congr n (fun a ha => ?_)
  rw [h a ha, cN_congr (f := fun b => B a b && (decide (num b = c) == ins)) (g := fun b => B a b && (decide (num' b = c) == ins)) n (fun b hb => by rw [h b hb])]
/-- the least nodes of the parts that a part goes to -/
def gset (B : Nat → Nat → Bool) (num lst : Nat → Int) (c : Int) (P : Nat → Nat → Prop) (Z : Nat → Nat → Bool) : Prop := ∀ p : Nat, Z 0 p = true ↔ ∃ a b, B a b = true ∧ P a b ∧ num a = c ∧ num b ≠ c ∧ lst (num b).toNat = (p : Int)
theorem gset_0 {B : Nat → Nat → Bool} {num lst : Nat → Int} {c : Int} : gset B num lst c (fun a _ => a < 0) (fun _ _ => false) := fun p => by
  constructor
  · intro h; cases h
  · rintro ⟨a, b, -, h, -⟩; exact absurd h (Nat.not_lt_zero a)
theorem gset_congr {B : Nat → Nat → Bool} {num lst : Nat → Int} {c : Int} {P P' : Nat → Nat → Prop} {Z : Nat → Nat → Bool} (h : gset B num lst c P Z) (e : ∀ a b, B a b = true → num a = c → (P a b ↔ P' a b)) : gset B num lst c P' Z := fun p => by
  rw [h p]
  constructor
  · rintro ⟨a, b, h1, h2, h3, h4, h5⟩; exact ⟨a, b, h1, (e a b h1 h3).mp h2, h3, h4, h5⟩
  · rintro ⟨a, b, h1, h2, h3, h4, h5⟩; exact ⟨a, b, h1, (e a b h1 h3).mpr h2, h3, h4, h5⟩
/-- the first nodes, and of one node the first listed ends -/
def gP (B : Nat → Nat → Bool) (i j : Nat) : Nat → Nat → Prop := fun a b => a < i ∨ (a = i ∧ cN (B i) b < j)
theorem gset_put {B : Nat → Nat → Bool} {num lst : Nat → Int} {c : Int} {i j p q : Nat} {Z : Nat → Nat → Bool} (h : gset B num lst c (gP B i j) Z) (hp : B i p = true) (hc : cN (B i) p = j) (hi : num i = c) (hne : num p ≠ c) (hq : lst (num p).toNat = (q : Int)) : gset B num lst c (gP B i (j + 1)) (bP Z 0 q true) := fun r => by
  unfold bP
  by_cases z : r = q
  · subst z
    rw [if_pos ⟨rfl, rfl⟩]
    exact ⟨fun _ => ⟨i, p, hp, Or.inr ⟨rfl, by omega⟩, hi, hne, hq⟩, fun _ => rfl⟩
  · rw [if_neg (by omega), h r]
    constructor
    · rintro ⟨a, b, h1, h2, h3, h4, h5⟩
      exact ⟨a, b, h1, h2.elim Or.inl (fun w => Or.inr ⟨w.1, by omega⟩), h3, h4, h5⟩
    · rintro ⟨a, b, h1, h2, h3, h4, h5⟩
      refine ⟨a, b, h1, h2.elim Or.inl (fun w => Or.inr ⟨w.1, ?_⟩), h3, h4, h5⟩
      obtain ⟨w1, w2⟩ := w
      subst w1
      rcases (rank_s hp hc h1).mp w2 with w3 | w3
      · exact w3
      · subst w3; rw [hq] at h5; omega
theorem gset_skip {B : Nat → Nat → Bool} {num lst : Nat → Int} {c : Int} {i j p : Nat} {Z : Nat → Nat → Bool} (h : gset B num lst c (gP B i j) Z) (hp : B i p = true) (hc : cN (B i) p = j) (hne : num p = c) : gset B num lst c (gP B i (j + 1)) Z := fun r => by
  rw [h r]
  constructor
  · rintro ⟨a, b, h1, h2, h3, h4, h5⟩
    exact ⟨a, b, h1, h2.elim Or.inl (fun w => Or.inr ⟨w.1, by omega⟩), h3, h4, h5⟩
  · rintro ⟨a, b, h1, h2, h3, h4, h5⟩
    refine ⟨a, b, h1, h2.elim Or.inl (fun w => Or.inr ⟨w.1, ?_⟩), h3, h4, h5⟩
    obtain ⟨w1, w2⟩ := w
    subst w1
    rcases (rank_s hp hc h1).mp w2 with w3 | w3
    · exact w3
    · subst w3; exact absurd hne h4
theorem gset_next {B : Nat → Nat → Bool} {num lst : Nat → Int} {c : Int} {i : Nat} {Z : Nat → Nat → Bool} (hw : wfB B) (h : gset B num lst c (gP B i (cN (B i) 192)) Z) : gset B num lst c (gP B (i + 1) 0) Z :=
  gset_congr h (fun a b hb _ => by
    unfold gP
    have := (hw _ _ hb).2
    constructor
    · rintro (w | ⟨rfl, w⟩)
      · left; omega
      · left; omega
    · rintro (w | ⟨-, w⟩)
      · by_cases z : a = i
        · subst z; exact Or.inr ⟨rfl, cN_strict (by omega) hb⟩
        · left; omega
      · omega)
theorem gset_node {B : Nat → Nat → Bool} {num lst : Nat → Int} {c : Int} {i : Nat} {Z : Nat → Nat → Bool} (h : gset B num lst c (gP B i 0) Z) (hne : num i ≠ c) : gset B num lst c (gP B (i + 1) 0) Z :=
  gset_congr h (fun a b _ ha => by
    unfold gP
    constructor
    · rintro (w | ⟨-, w⟩)
      · left; omega
      · omega
    · rintro (w | ⟨-, w⟩)
      · by_cases z : a = i
        · subst z; exact absurd ha hne
        · left; omega
      · omega)
/-- a chain of parts that are later and reached, the longest -/
def chn (H : Nat → Nat → Bool) (num lst : Nat → Int) (cnt lo : Int) (C : Nat → Int) : Prop := ∀ c : Nat, lo ≤ c → (c : Int) < cnt →
  1 ≤ C c ∧ C c ≤ cnt - c ∧ (∀ p, H (lst c).toNat p = true → (c : Int) < num p → 1 + C (num p).toNat ≤ C c) ∧ (C c = 1 ∨ ∃ p, H (lst c).toNat p = true ∧ (c : Int) < num p ∧ C c = 1 + C (num p).toNat)
/-- .. over the first listed ones -/
def chq (H : Nat → Nat → Bool) (num : Nat → Int) (cnt : Int) (x c : Nat) (j : Nat) (C : Nat → Int) : Prop :=
  1 ≤ C c ∧ C c ≤ cnt - c ∧ (∀ p, H x p = true → cN (H x) p < j → (c : Int) < num p → 1 + C (num p).toNat ≤ C c) ∧ (C c = 1 ∨ ∃ p, H x p = true ∧ (c : Int) < num p ∧ C c = 1 + C (num p).toNat)
