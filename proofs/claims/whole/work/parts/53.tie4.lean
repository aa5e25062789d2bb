/-! class and reference: classes -/
theorem cN_least (g : Nat → Bool) : ∀ N, cN (fun a => g a && decide (cN g a = 0)) N = if cN g N ≠ 0 then 1 else 0
  | 0 => rfl
  | N + 1 => by
    rw [cN_s, cN_least g N, cN_s]
    cases hg : g N with
    | false => simp
    | true =>
      by_cases z : cN g N = 0
      · simp [z]
      · simp [z]
theorem fst_least {g : Nat → Bool} {a n : Nat} (h : g a = true) (ha : a < n) : decide (fstB g n = (a : Int)) = decide (cN g a = 0) := by
  refine decide_eq_decide.mpr ⟨fun e => ?_, fun e => ?_⟩
  · refine cN_z (fun j hj => ?_)
    cases hg : g j with
    | false => rfl
    | true =>
      have hs := cN_strict (show j < n by omega) hg
      obtain ⟨b, b1, b2, b3⟩ := least_of (g := g) n (by omega)
      have e2 := fstB_is b3 b2 n b1
      have : a = b := by omega
      subst this
      rw [b3 j hj] at hg; cases hg
  · refine fstB_is (fun j hj => ?_) h n ha
    cases hg : g j with
    | false => rfl
    | true => have := cN_strict hj hg; omega
theorem tie_classes {S H K Ld : Nat → Nat → Bool} {nv : Nat} (hn : nv ≤ 80) (hc : cl S (2 * nv) H K) (hL : ldR S (2 * nv) Ld) (hsk : ∀ x y, S x y = true → S (opp y) (opp x) = true) (hg : ¬ contra S (2 * nv)) : cN (fun a => mfr Ld a a) (2 * nv) = aCls H K (2 * nv) := by
  have skew : ∀ x y, H x y = true → H (opp y) (opp x) = true := fun x y q => by
    obtain ⟨a, b, r⟩ := (hc.1 x y).mp q
    exact (hc.1 _ _).mpr ⟨opp_lt b, opp_lt a, rch_skew hsk r⟩
  have trans : ∀ x y z, H x y = true → H y z = true → H x z = true := fun x y z q r => by
    have a := (hc.1 x y).mp q; have b := (hc.1 y z).mp r
    exact (hc.1 x z).mpr ⟨a.1, b.2.1, rch_trans a.2.2 b.2.2⟩
  have no2 : ∀ x, H x (opp x) = true → H (opp x) x = true → False := fun x q r => by
    have a := (hc.1 _ _).mp q; have b := (hc.1 _ _).mp r
    exact hg ⟨x, a.1, a.2.2, b.2.2⟩
  have F1 : ∀ a b, H (opp b) b = true → H b a = true → H (opp a) a = true := fun a b p q => trans _ _ _ (skew _ _ q) (trans _ _ _ p q)
  have F2 : ∀ a b, H b (opp b) = true → H a b = true → H a (opp a) = true := fun a b p q => trans _ _ _ q (trans _ _ _ p (skew _ _ q))
  have bf : ∀ {b : Bool}, ¬ b = true → b = false := fun {b} q => by cases b with | false => rfl | true => exact absurd rfl q
  have ml : ∀ a b, a < 2 * nv → b < 2 * nv → mlq Ld a b = ((H a b || (H a (opp a) || H (opp b) b)) && (H b a || (H b (opp b) || H (opp a) a))) := fun a b ha hb => by
    unfold mlq; rw [tie_follows hc hL ha hb, tie_follows hc hL hb ha]
  have pt : ∀ a, a < 2 * nv → mfr Ld a a = ((freq H K a || (H (opp a) a && decide (cN (fun x => H (opp x) x) a = 0))) || (H a (opp a) && decide (cN (fun x => H x (opp x)) a = 0))) := fun a ha => by
    unfold mfr freq fixd
    by_cases p : H (opp a) a = true
    · have q : H a (opp a) = false := bf (fun q => no2 a q p)
      rw [p, q, cN_congr (f := mlq Ld a) (g := fun x => H (opp x) x) a (fun b hb => by
        rw [ml a b ha (by omega), q, p]
        cases r : H (opp b) b with
        | true => simp
        | false =>
          have : H a b = false := bf (fun w => by rw [F1 b a p w] at r; cases r)
          rw [this]; simp)]
      simp
    · have p' := bf p
      by_cases q : H a (opp a) = true
      · rw [p', q, cN_congr (f := mlq Ld a) (g := fun x => H x (opp x)) a (fun b hb => by
          rw [ml a b ha (by omega), q, p']
          cases r : H b (opp b) with
          | true => simp
          | false =>
            have : H b a = false := bf (fun w => by rw [F2 b a q w] at r; cases r)
            rw [this]; simp)]
        simp
      · have q' := bf q
        have haa : (fun p => H a p && K a p) a = true := by
          show (H a a && K a a) = true
          rw [hc.2, (hc.1 a a).mpr ⟨ha, ha, rch_refl _ _⟩]; rfl
        rw [p', q', fst_least haa (by omega), cN_congr (f := mlq Ld a) (g := fun p => H a p && K a p) a (fun b hb => by
          rw [ml a b ha (by omega), q', p', hc.2]
          cases r : H (opp b) b with
          | true =>
            have w1 : H b (opp b) = false := bf (fun w => no2 b w r)
            have w2 : H b a = false := bf (fun w => p (F1 a b r w))
            rw [w1, w2]; simp
          | false =>
            cases r2 : H b (opp b) with
            | true =>
              have w2 : H a b = false := bf (fun w => q (F2 a b r2 w))
              rw [w2]; simp
            | false => simp)]
        simp
  rw [cN_congr (2 * nv) pt]
  have ex : cN (fun x => H (opp x) x) (2 * nv) ≠ 0 ↔ cN (fun x => H x (opp x)) (2 * nv) ≠ 0 := by
    constructor
    · intro w
      obtain ⟨a, a1, a2, -⟩ := least_of _ w
      have := cN_strict (g := fun x => H x (opp x)) (opp_lt a1) (by show H (opp a) (opp (opp a)) = true; rw [opp_opp]; exact a2)
      omega
    · intro w
      obtain ⟨a, a1, a2, -⟩ := least_of _ w
      have := cN_strict (g := fun x => H (opp x) x) (opp_lt a1) (by show H (opp (opp a)) (opp a) = true; rw [opp_opp]; exact a2)
      omega
  have fx : cN (fixd H) (2 * nv) = cN (fun x => H (opp x) x) (2 * nv) + cN (fun x => H x (opp x)) (2 * nv) := cN_or (f := fun x => H (opp x) x) (g := fun x => H x (opp x)) (2 * nv) (fun x _ w => bf (fun v => no2 x v w))
  rw [cN_or (f := fun a => freq H K a || (H (opp a) a && decide (cN (fun x => H (opp x) x) a = 0))) (g := fun a => H a (opp a) && decide (cN (fun x => H x (opp x)) a = 0)) (2 * nv) (fun a _ w => bf (fun v => by
      rw [Bool.and_eq_true] at v
      unfold freq fixd at w
      rw [v.1] at w
      simp at w
      exact no2 a v.1 w.1)),
    cN_or (f := freq H K) (g := fun a => H (opp a) a && decide (cN (fun x => H (opp x) x) a = 0)) (2 * nv) (fun a _ w => bf (fun v => by
      rw [Bool.and_eq_true] at v
      unfold freq fixd at w
      rw [v.1] at w
      simp at w)),
    cN_least (fun x => H (opp x) x), cN_least (fun x => H x (opp x))]
  unfold aCls
  rw [fx]
  by_cases z : cN (fun x => H (opp x) x) (2 * nv) = 0
  · have z2 : cN (fun x => H x (opp x)) (2 * nv) = 0 := Classical.byContradiction (fun w => (ex.mpr w) z)
    rw [z, z2]; simp
  · have z2 := ex.mp z
    rw [if_pos z, if_pos z2, if_pos (by omega)]
