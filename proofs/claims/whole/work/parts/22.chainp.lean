/-! the longest chain, step by step; what is missing -/
theorem chn_up {H : Nat → Nat → Bool} {num lst : Nat → Int} {cnt : Int} {a : Nat} {z : Int} {C : Nat → Int} (h : chn H num lst cnt (a + 1) C) : chn H num lst cnt (a + 1) (va_up C a z) := fun c h1 h2 => by
  obtain ⟨g1, g2, g3, g4⟩ := h c h1 h2
  have e : va_up C a z c = C c := va_up_ne _ _ (by omega)
  refine ⟨by rw [e]; exact g1, by rw [e]; exact g2, fun p q1 q2 => ?_, ?_⟩
  · rw [e, va_up_ne _ _ (show (num p).toNat ≠ a by omega)]; exact g3 p q1 q2
  · rw [e]
    rcases g4 with g4 | ⟨p, q1, q2, q3⟩
    · exact Or.inl g4
    · exact Or.inr ⟨p, q1, q2, by rw [va_up_ne _ _ (show (num p).toNat ≠ a by omega)]; exact q3⟩
theorem chq_0 {H : Nat → Nat → Bool} {num : Nat → Int} {cnt : Int} {x a : Nat} {C : Nat → Int} (ha : (a : Int) < cnt) : chq H num cnt x a 0 (va_up C a 1) :=
  ⟨by rw [va_up_self]; omega, by rw [va_up_self]; omega, fun p _ h => by omega, Or.inl (va_up_self _ _ _)⟩
theorem chq_skip {H : Nat → Nat → Bool} {num : Nat → Int} {cnt : Int} {x a j p : Nat} {C : Nat → Int} (h : chq H num cnt x a j C) (hp : H x p = true) (hc : cN (H x) p = j) (hle : num p ≤ (a : Int)) : chq H num cnt x a (j + 1) C :=
  ⟨h.1, h.2.1, fun q h1 h2 h3 => by
    rcases (rank_s hp hc h1).mp h2 with w | w
    · exact h.2.2.1 q h1 w h3
    · subst w; omega, h.2.2.2⟩
theorem chq_put {H : Nat → Nat → Bool} {num lst : Nat → Int} {cnt : Int} {x a j p : Nat} {C : Nat → Int} (hn : chn H num lst cnt (a + 1) C) (h : chq H num cnt x a j C) (hp : H x p = true) (hc : cN (H x) p = j) (hlt : (a : Int) < num p) (hcn : num p < cnt) : chq H num cnt x a (j + 1) (va_up C a (max (C a) (1 + C (num p).toNat))) := by
  obtain ⟨g1, g2, g3, g4⟩ := h
  obtain ⟨f1, f2, -, -⟩ := hn (num p).toNat (by omega) (by omega)
  have ho : ∀ q, (a : Int) < num q → va_up C a (max (C a) (1 + C (num p).toNat)) (num q).toNat = C (num q).toNat := fun q hq => va_up_ne _ _ (by omega)
  refine ⟨by rw [va_up_self]; omega, by rw [va_up_self]; omega, fun q h1 h2 h3 => ?_, ?_⟩
  · rw [va_up_self, ho q h3]
    rcases (rank_s hp hc h1).mp h2 with w | w
    · have := g3 q h1 w h3; omega
    · subst w; omega
  · rw [va_up_self]
    by_cases z : C a < 1 + C (num p).toNat
    · exact Or.inr ⟨p, hp, hlt, by rw [ho p hlt]; omega⟩
    · rw [show max (C a) (1 + C (num p).toNat) = C a by omega]
      rcases g4 with g4 | ⟨q, q1, q2, q3⟩
      · exact Or.inl g4
      · exact Or.inr ⟨q, q1, q2, by rw [va_up_ne _ _ (show (num q).toNat ≠ a by omega)]; exact q3⟩
theorem chq_end {H : Nat → Nat → Bool} {num lst : Nat → Int} {cnt : Int} {a : Nat} {C : Nat → Int} (hw : wfB H) (hn : chn H num lst cnt (a + 1) C) (h : chq H num cnt (lst a).toNat a (cN (H (lst a).toNat) 192) C) : chn H num lst cnt a C := fun c h1 h2 => by
  by_cases z : c = a
  · subst z
    exact ⟨h.1, h.2.1, fun p q1 q2 => h.2.2.1 p q1 (cN_strict (by have := (hw _ _ q1).2; omega) q1) q2, h.2.2.2⟩
  · exact hn c (by omega) h2
/-- how many arcs are missing, by the numbers of what a part reaches and is reached from -/
def aMis (H K : Nat → Nat → Bool) (lst : Nat → Int) (cnt : Int) : Int := if cnt = 1 then 0 else max (cN (fun c => decide (cN (K (lst c).toNat) 192 = cN (fun p => H (lst c).toNat p && K (lst c).toNat p) 192)) cnt.toNat : Int) (cN (fun c => decide (cN (H (lst c).toNat) 192 = cN (fun p => H (lst c).toNat p && K (lst c).toNat p) 192)) cnt.toNat : Int)
theorem numC_in {n : Nat} {H : Nat → Nat → Bool} {num lst : Nat → Int} {cnt : Int} (h : numC n H num lst cnt) : (∀ j, j < n → 0 ≤ num j ∧ num j < cnt) ∧ (∀ c : Nat, (c : Int) < cnt → 0 ≤ lst c ∧ lst c < n) ∧ 0 ≤ cnt ∧ cnt ≤ n := by
  have hl : ∀ c : Nat, (c : Int) < cnt → 0 ≤ lst c ∧ lst c < n := fun c hc => by
    obtain ⟨x, x1, x2, -⟩ := h.1.2.2.2 c hc; omega
  refine ⟨fun j hj => by have := h.1.2.1 j hj; have := h.2 j hj; omega, hl, h.1.1, ?_⟩
  -- the least nodes differ: they are no more than n
  have key : ∀ k : Nat, (k : Int) ≤ cnt → k ≤ cN (fun a => decide (num a < (k : Int))) n := by
    intro k
    induction k with
    | zero => intro _; exact Nat.zero_le _
    | succ k ih =>
      intro hk
      have ih := ih (by omega)
      obtain ⟨x, x1, x2, x3, -⟩ := h.1.2.2.2 k (by omega)
      have := cN_sub_lt (f := fun a => decide (num a < (k : Int))) (g := fun a => decide (num a < ((k + 1 : Nat) : Int))) (x := x) n (fun j _ hj => by
        have := of_decide_eq_true hj; exact decide_eq_true (by omega)) x1 (decide_eq_false (by omega)) (decide_eq_true (by omega))
      omega
  have h1 := key cnt.toNat (by have := h.1.1; omega)
  have h2 := cN_le (fun a => decide (num a < (cnt.toNat : Int))) n
  have := h.1.1
  omega
