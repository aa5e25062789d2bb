/-! class and reference: values, what must be -/
theorem hlS_s (H : Nat → Nat → Bool) (t : Nat) : hlS H (t + 1) = if (hlS H t (2 * t) || hlS H t (2 * t + 1)) = true then hlS H t else fun y => hlS H t y || H (if H (2 * t + 1) (2 * t) = true then 2 * t else 2 * t + 1) y := rfl
def tvI (H : Nat → Nat → Bool) (Ld : Nat → Nat → Bool) (nv t : Nat) : Prop :=
  (∀ y z, hlS H t y = true → H y z = true → hlS H t z = true) ∧ (∀ y, ¬ (hlS H t y = true ∧ hlS H t (opp y) = true)) ∧
  (∀ q, q < t → hlS H t (2 * q) = true ∨ hlS H t (2 * q + 1) = true) ∧
  (∀ v, v < nv → mvS Ld nv t v = if hlS H t (2 * v) = true then 1 else if hlS H t (2 * v + 1) = true then 0 else -1)
theorem hl_mono {H : Nat → Nat → Bool} {y : Nat} : ∀ (k t : Nat), hlS H t y = true → hlS H (t + k) y = true
  | 0, _, h => h
  | k + 1, t, h => by
    have h9 := hl_mono k t h
    show hlS H (t + k + 1) y = true
    rw [hlS_s]
    split
    · exact h9
    · show (hlS H (t + k) y || _) = true; rw [h9]; rfl
theorem tv_step {S H K Ld : Nat → Nat → Bool} {nv t : Nat} (hc : cl S (2 * nv) H K) (hL : ldR S (2 * nv) Ld) (hsk : ∀ x y, S x y = true → S (opp y) (opp x) = true) (hg : ¬ contra S (2 * nv)) (ht : t < nv) (h : tvI H Ld nv t) : tvI H Ld nv (t + 1) := by
  obtain ⟨h1, h2, h3, h4⟩ := h
  have hHL : ∀ x y, x < 2 * nv → y < 2 * nv → Ld x y = H x y := fun x y hx hy => by
    have a := hL x y hx hy
    have b := hc.1 x y
    cases hh : H x y with
    | true => exact a.mpr (b.mp hh).2.2
    | false =>
      cases hl : Ld x y with
      | false => rfl
      | true => rw [b.mpr ⟨hx, hy, a.mp hl⟩] at hh; cases hh
  have skew : ∀ x y, H x y = true → H (opp y) (opp x) = true := fun x y q => by
    obtain ⟨a, b, r⟩ := (hc.1 x y).mp q
    exact (hc.1 _ _).mpr ⟨opp_lt b, opp_lt a, rch_skew hsk r⟩
  have trans : ∀ x y z, H x y = true → H y z = true → H x z = true := fun x y z q r => by
    have a := (hc.1 x y).mp q; have b := (hc.1 y z).mp r
    exact (hc.1 x z).mpr ⟨a.1, b.2.1, rch_trans a.2.2 b.2.2⟩
  have no2 : ∀ x, H x (opp x) = true → H (opp x) x = true → False := fun x q r => by
    have a := (hc.1 _ _).mp q; have b := (hc.1 _ _).mp r
    exact hg ⟨x, a.1, a.2.2, b.2.2⟩
  have hS : mvS Ld nv (t + 1) = if mvS Ld nv t t = -1 then mvI Ld (mli Ld t) (mvS Ld nv t) (2 * nv) else mvS Ld nv t := rfl
  have h4t := h4 t ht
  by_cases z : (hlS H t (2 * t) || hlS H t (2 * t + 1)) = true
  · have e : hlS H (t + 1) = hlS H t := by rw [hlS_s, if_pos z]
    have em : mvS Ld nv (t + 1) = mvS Ld nv t := by
      rw [hS, if_neg]
      rw [h4t]
      rw [Bool.or_eq_true] at z
      by_cases a : hlS H t (2 * t) = true
      · rw [if_pos a]; decide
      · rcases z with z | z
        · exact absurd z a
        · rw [if_neg a, if_pos z]; decide
    unfold tvI
    rw [e, em]
    refine ⟨h1, h2, fun q hq => ?_, h4⟩
    by_cases w : q = t
    · subst w; rw [Bool.or_eq_true] at z; exact z
    · exact h3 q (by omega)
  · have za : hlS H t (2 * t) = false := by cases q : hlS H t (2 * t) with | false => rfl | true => rw [q] at z; exact absurd rfl z
    have zb : hlS H t (2 * t + 1) = false := by cases q : hlS H t (2 * t + 1) with | false => rfl | true => rw [q, Bool.or_true] at z; exact absurd rfl z
    have em0 : mvS Ld nv t t = -1 := by rw [h4t, za, zb]; rfl
    have el : mli Ld t = if H (2 * t + 1) (2 * t) = true then 2 * t else 2 * t + 1 := by unfold mli; rw [hHL _ _ (by omega) (by omega)]
    have hl2 : mli Ld t = 2 * t ∨ mli Ld t = 2 * t + 1 := by unfold mli; split <;> omega
    have hno : H (mli Ld t) (opp (mli Ld t)) = false := by
      rw [el]
      split
      · rename_i q
        rw [opp_even]
        cases r : H (2 * t) (2 * t + 1) with
        | false => rfl
        | true => exact (no2 (2 * t) (by rw [opp_even]; exact r) (by rw [opp_even]; exact q)).elim
      · rename_i q
        rw [opp_odd]
        cases r : H (2 * t + 1) (2 * t) with
        | false => rfl
        | true => exact absurd r q
    have hop : hlS H t (opp (mli Ld t)) = false := by
      rcases hl2 with q | q
      · rw [q, opp_even]; exact zb
      · rw [q, opp_odd]; exact za
    have e : ∀ y, hlS H (t + 1) y = (hlS H t y || H (mli Ld t) y) := fun y => by rw [hlS_s, if_neg z, ← el]
    have hl0 : H (mli Ld t) (mli Ld t) = true := (hc.1 _ _).mpr ⟨by omega, by omega, rch_refl _ _⟩
    have cons : ∀ y, ¬ (hlS H (t + 1) y = true ∧ hlS H (t + 1) (opp y) = true) := fun y => by
      rw [e, e, Bool.or_eq_true, Bool.or_eq_true]
      rintro ⟨a | a, b | b⟩
      · exact h2 y ⟨a, b⟩
      · have k := skew _ _ b
        rw [opp_opp] at k
        rw [h1 _ _ a k] at hop; cases hop
      · have k := skew _ _ a
        rw [h1 _ _ b k] at hop; cases hop
      · have k := skew _ _ a
        rw [trans _ _ _ b k] at hno; cases hno
    refine ⟨fun y w a b => ?_, cons, fun q hq => ?_, fun v hv => ?_⟩
    · rw [e, Bool.or_eq_true] at a ⊢
      rcases a with a | a
      · exact Or.inl (h1 y w a b)
      · exact Or.inr (trans _ _ _ a b)
    · rw [e, e]
      by_cases w : q = t
      · subst w
        rcases hl2 with r | r
        · left; rw [← r, hl0, Bool.or_true]
        · right; rw [← r, hl0, Bool.or_true]
      · rcases h3 q (by omega) with r | r
        · left; rw [r]; rfl
        · right; rw [r]; rfl
    · rw [hS, if_pos em0]
      unfold mvI
      rw [hHL _ (2 * v + 1) (by omega) (by omega), hHL _ (2 * v) (by omega) (by omega)]
      have c9 := cons (2 * v)
      rw [opp_even] at c9
      by_cases a : H (mli Ld t) (2 * v + 1) = true
      · have p1 : hlS H (t + 1) (2 * v + 1) = true := by rw [e, a, Bool.or_true]
        rw [if_pos ⟨by omega, a⟩, if_neg (fun q => c9 ⟨q, p1⟩), if_pos p1]
      · rw [if_neg (fun q => a q.2)]
        have a' : H (mli Ld t) (2 * v + 1) = false := by cases q : H (mli Ld t) (2 * v + 1) with | false => rfl | true => exact absurd q a
        by_cases b : H (mli Ld t) (2 * v) = true
        · have p1 : hlS H (t + 1) (2 * v) = true := by rw [e, b, Bool.or_true]
          rw [if_pos ⟨by omega, b⟩, if_pos p1]
        · rw [if_neg (fun q => b q.2)]
          have b' : H (mli Ld t) (2 * v) = false := by cases q : H (mli Ld t) (2 * v) with | false => rfl | true => exact absurd q b
          rw [h4 v hv, e, e, a', b', Bool.or_false, Bool.or_false]
theorem tv_0 {H Ld : Nat → Nat → Bool} {nv : Nat} : tvI H Ld nv 0 := ⟨(fun y z a _ => by cases a), (fun y a => by cases a.1), (fun q hq => by omega), fun v _ => rfl⟩
theorem tv_all {S H K Ld : Nat → Nat → Bool} {nv : Nat} (hc : cl S (2 * nv) H K) (hL : ldR S (2 * nv) Ld) (hsk : ∀ x y, S x y = true → S (opp y) (opp x) = true) (hg : ¬ contra S (2 * nv)) : ∀ t, t ≤ nv → tvI H Ld nv t
  | 0, _ => tv_0
  | t + 1, ht => tv_step hc hL hsk hg (by omega) (tv_all hc hL hsk hg t (by omega))
theorem tie_value {S H K Ld : Nat → Nat → Bool} {nv v : Nat} (hc : cl S (2 * nv) H K) (hL : ldR S (2 * nv) Ld) (hsk : ∀ x y, S x y = true → S (opp y) (opp x) = true) (hg : ¬ contra S (2 * nv)) (hv : v < nv) : mvS Ld nv nv v = bZ (hlS H (v + 1) (2 * v)) := by
  obtain ⟨-, a2, a3, a4⟩ := tv_all hc hL hsk hg nv (Nat.le_refl _)
  obtain ⟨-, b2, b3, -⟩ := tv_all hc hL hsk hg (v + 1) (by omega)
  rw [a4 v hv]
  have c9 := a2 (2 * v)
  rw [opp_even] at c9
  have m : ∀ y, hlS H (v + 1) y = true → hlS H nv y = true := fun y q => by
    have := hl_mono (nv - (v + 1)) (v + 1) q
    rw [show v + 1 + (nv - (v + 1)) = nv by omega] at this; exact this
  cases h : hlS H (v + 1) (2 * v) with
  | true => rw [if_pos (m _ h)]; rfl
  | false =>
    rcases b3 v (by omega) with q | q
    · rw [h] at q; cases q
    · rw [if_neg (fun r => c9 ⟨r, m _ q⟩), if_pos (m _ q)]; rfl
theorem ld_H {S H K Ld : Nat → Nat → Bool} {N : Nat} (hc : cl S N H K) (hL : ldR S N Ld) : ∀ x y, x < N → y < N → Ld x y = H x y := fun x y hx hy => by
  have a := hL x y hx hy
  have b := hc.1 x y
  cases hh : H x y with
  | true => exact a.mpr (b.mp hh).2.2
  | false =>
    cases hl : Ld x y with
    | false => rfl
    | true => rw [b.mpr ⟨hx, hy, a.mp hl⟩] at hh; cases hh
theorem tie_follows {S H K Ld : Nat → Nat → Bool} {nv a b : Nat} (hc : cl S (2 * nv) H K) (hL : ldR S (2 * nv) Ld) (ha : a < 2 * nv) (hb : b < 2 * nv) : mfo Ld a b = (H a b || (H a (opp a) || H (opp b) b)) := by
  unfold mfo
  rw [ld_H hc hL a b ha hb, ld_H hc hL a (opp a) ha (opp_lt ha), ld_H hc hL (opp b) b (opp_lt hb) hb]
theorem tie_fixed {S H K Ld : Nat → Nat → Bool} {nv : Nat} {u : Int} (hc : cl S (2 * nv) H K) (hL : ldR S (2 * nv) Ld) (hg : ¬ contra S (2 * nv)) (hu : 1 ≤ u ∧ u ≤ (nv : Int)) : mfx Ld u = if H (opp (2 * u - 2).toNat) (2 * u - 2).toNat = true then 1 else if H (opp (opp (2 * u - 2).toNat)) (opp (2 * u - 2).toNat) = true then 0 else 2 := by
  obtain ⟨t, ht⟩ : ∃ t : Nat, u = (t : Int) + 1 := ⟨(u - 1).toNat, by omega⟩
  subst ht
  have e1 : (2 * ((t : Int) + 1) - 2).toNat = 2 * t := by omega
  have e2 : (2 * ((t : Int) + 1) - 1).toNat = 2 * t + 1 := by omega
  unfold mfx
  rw [e1, e2, opp_opp, opp_even, opp_odd, ld_H hc hL (2 * t) (2 * t + 1) (by omega) (by omega), ld_H hc hL (2 * t + 1) (2 * t) (by omega) (by omega)]
  by_cases a : H (2 * t) (2 * t + 1) = true
  · by_cases b : H (2 * t + 1) (2 * t) = true
    · have a' := (hc.1 _ _).mp a; have b' := (hc.1 _ _).mp b
      exact (hg ⟨2 * t, a'.1, by rw [opp_even]; exact a'.2.2, by rw [opp_even]; exact b'.2.2⟩).elim
    · rw [if_pos a, if_neg b, if_pos a]
  · by_cases b : H (2 * t + 1) (2 * t) = true
    · rw [if_neg a, if_pos b, if_pos b]
    · rw [if_neg a, if_neg b, if_neg b, if_neg a]
