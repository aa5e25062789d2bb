/-! the reference's clauses -/
def qZ (T : Nat → Nat → Bool) (n u v a : Nat) : Nat → Nat → Bool := fun x y => if x < a ∧ T x u = true ∧ y < n then T x y || T v y else T x y
theorem qZ_0 (T : Nat → Nat → Bool) (n u v : Nat) : qZ T n u v 0 = T := by funext x y; unfold qZ; rw [if_neg (by omega)]
theorem qZ_row {T : Nat → Nat → Bool} {n u v a y : Nat} : qZ T n u v a v y = T v y := by unfold qZ; split; simp; rfl
theorem qZ_piv {T : Nat → Nat → Bool} {n u v a x : Nat} (h : a ≤ x) : qZ T n u v a x u = T x u := by unfold qZ; rw [if_neg (by omega)]
theorem qZ_no {T : Nat → Nat → Bool} {n u v a : Nat} (h : T a u = false) : qZ T n u v (a + 1) = qZ T n u v a := by
  funext x y
  unfold qZ
  by_cases z : x = a
  · subst z; rw [if_neg (by rw [h]; simp), if_neg (by omega)]
  · by_cases w : x < a ∧ T x u = true ∧ y < n
    · rw [if_pos ⟨by omega, w.2.1, w.2.2⟩, if_pos w]
    · rw [if_neg (fun q => w ⟨by omega, q.2.1, q.2.2⟩), if_neg w]
theorem qZ_yes {T : Nat → Nat → Bool} {n u v a : Nat} (h : T a u = true) : jZ (qZ T n u v a) a v n = qZ T n u v (a + 1) := by
  funext x y
  unfold jZ
  rw [qZ_row]
  by_cases z : x = a
  · subst z
    by_cases w : y < n
    · rw [if_pos ⟨rfl, w⟩]
      unfold qZ
      rw [if_neg (by omega), if_pos ⟨by omega, h, w⟩]
    · rw [if_neg (by omega)]
      unfold qZ
      rw [if_neg (by omega), if_neg (by omega)]
  · rw [if_neg (by omega)]
    unfold qZ
    by_cases w : x < a ∧ T x u = true ∧ y < n
    · rw [if_pos w, if_pos ⟨by omega, w.2.1, w.2.2⟩]
    · rw [if_neg w, if_neg (fun q => w ⟨by omega, q.2.1, q.2.2⟩)]
/-- the table knows what the steps lead to -/
def ldR (S : Nat → Nat → Bool) (N : Nat) (L : Nat → Nat → Bool) : Prop := ∀ x y, x < N → y < N → (L x y = true ↔ rch S x y)
theorem ldR_old {S L : Nat → Nat → Bool} {N u v : Nat} (h : ldR S N L) (hu : u < N) (hv : v < N) (ht : L u v = true) : ldR (bP S u v true) N L := fun x y hx hy => by
  rw [h x y hx hy, rch_add]
  constructor
  · exact Or.inl
  · rintro (q | q)
    · exact q
    · exact rch_trans q.1 (rch_trans ((h u v hu hv).mp ht) q.2)
theorem ldR_new {S L : Nat → Nat → Bool} {N u v : Nat} (h : ldR S N L) (hu : u < N) (hv : v < N) : ldR (bP S u v true) N (qZ L N u v N) := fun x y hx hy => by
  unfold qZ
  rw [rch_add, ← h x y hx hy, ← h x u hx hu, ← h v y hv hy]
  by_cases z : L x u = true
  · rw [if_pos ⟨hx, z, hy⟩, Bool.or_eq_true]
    constructor
    · rintro (q | q)
      · exact Or.inl q
      · exact Or.inr ⟨z, q⟩
    · rintro (q | q)
      · exact Or.inl q
      · exact Or.inr q.2
  · rw [if_neg (fun q => z q.2.1)]
    constructor
    · exact Or.inl
    · rintro (q | q)
      · exact q
      · exact absurd q.1 z
/-- one clause less -/
def dpF (f : Nat → Int) (u i : Int) (g : Nat → Int) : Prop := (∀ j : Nat, (j : Int) < i → g j = f (if (j : Int) < u then j else j + 1)) ∧ ∀ j : Nat, i ≤ (j : Int) → g j = f j
theorem dpF_0 {f : Nat → Int} {u : Int} : dpF f u u f := ⟨fun j hj => by rw [if_pos hj], fun _ _ => rfl⟩
theorem dpF_s {f g : Nat → Int} {u i : Int} (h : dpF f u i g) (h0 : 0 ≤ u) (hu : u ≤ i) : dpF f u (i + 1) (va_up g i.toNat (g (i + 1).toNat)) := by
  refine ⟨fun j hj => ?_, fun j hj => ?_⟩
  · by_cases z : j = i.toNat
    · rw [z, va_up_self, if_neg (by omega), h.2 _ (by omega), show (i + 1).toNat = i.toNat + 1 by omega]
    · rw [va_up_ne _ _ z]; exact h.1 j (by omega)
  · rw [va_up_ne _ _ (by omega)]; exact h.2 j (by omega)
/-- a walk round some variable -/
def mrq (L : Nat → Nat → Bool) (t : Nat) : Bool := L (2 * t) (2 * t + 1) && L (2 * t + 1) (2 * t)
theorem mrq_contra {S L : Nat → Nat → Bool} {nv : Nat} (h : ldR S (2 * nv) L) : cN (mrq L) nv ≠ 0 ↔ contra S (2 * nv) := by
  constructor
  · intro hc
    obtain ⟨t, t1, t2, -⟩ := least_of nv hc
    unfold mrq at t2
    rw [Bool.and_eq_true] at t2
    exact ⟨2 * t, by omega, by rw [opp_even]; exact (h _ _ (by omega) (by omega)).mp t2.1, by rw [opp_even]; exact (h _ _ (by omega) (by omega)).mp t2.2⟩
  · rintro ⟨p, p1, p2, p3⟩
    have key : mrq L (p / 2) = true := by
      unfold mrq
      rw [Bool.and_eq_true]
      by_cases z : p % 2 = 0
      · have e : p = 2 * (p / 2) := by omega
        rw [e, opp_even] at p2 p3
        exact ⟨(h _ _ (by omega) (by omega)).mpr p2, (h _ _ (by omega) (by omega)).mpr p3⟩
      · have e : p = 2 * (p / 2) + 1 := by omega
        rw [e, opp_odd] at p2 p3
        exact ⟨(h _ _ (by omega) (by omega)).mpr p3, (h _ _ (by omega) (by omega)).mpr p2⟩
    have := cN_strict (show p / 2 < nv by omega) key
    omega
