/-! the reference's search: distances and a queue -/
def mwd (T : Nat → Nat → Bool) (n u : Nat) (Di : Nat → Int) : Prop :=
  ∀ y, y < n → (Di y = 100000 ∧ ∀ k, 1 ≤ k → ¬ wk T k u y) ∨ (1 ≤ Di y ∧ Di y ≤ 160 ∧ wk T (Di y).toNat u y ∧ ∀ k, 1 ≤ k → wk T k u y → Di y ≤ (k : Int))
def mbf (T : Nat → Nat → Bool) (n u : Nat) (Di Qu : Nat → Int) (w i j : Nat) : Prop :=
  (w = cN (fun y => decide (Di y ≠ 100000)) n) ∧
  (∀ k, k < w → ∃ p : Nat, p < n ∧ Qu k = (p : Int) ∧ Di p ≠ 100000 ∧ Di p ≤ (k : Int) + 1) ∧
  (∀ y : Nat, y < n → Di y ≠ 100000 → (∃ k, k < w ∧ Qu k = (y : Int)) ∧ 1 ≤ Di y ∧ wk T (Di y).toNat u y) ∧
  (∀ k k', k ≤ k' → k' < w → Di (Qu k).toNat ≤ Di (Qu k').toNat) ∧
  (∀ k, k < w → i < w → Di (Qu k).toNat ≤ Di (Qu i).toNat + 1) ∧
  (∀ y, T u y = true → Di y = 1) ∧
  (∀ k, k < i → k < w → ∀ y, T (Qu k).toNat y = true → Di y ≠ 100000 ∧ Di y ≤ Di (Qu k).toNat + 1) ∧
  (i < w → ∀ y, y < j → T (Qu i).toNat y = true → Di y ≠ 100000 ∧ Di y ≤ Di (Qu i).toNat + 1)
theorem mbf_skip {T : Nat → Nat → Bool} {n u : Nat} {Di Qu : Nat → Int} {w i j : Nat} (h : mbf T n u Di Qu w i j) (hj : T (Qu i).toNat j = false) : mbf T n u Di Qu w i (j + 1) := by
  obtain ⟨h1, h2, h3, h4, h5, h6, h7, h8⟩ := h
  refine ⟨h1, h2, h3, h4, h5, h6, h7, fun hi y hy hT => ?_⟩
  by_cases z : y = j
  · subst z; rw [hj] at hT; cases hT
  · exact h8 hi y (by omega) hT
theorem mbf_old {T : Nat → Nat → Bool} {n u : Nat} {Di Qu : Nat → Int} {w i j : Nat} (h : mbf T n u Di Qu w i j) (hn : j < n) (hj : Di j ≠ 100000) : mbf T n u Di Qu w i (j + 1) := by
  obtain ⟨h1, h2, h3, h4, h5, h6, h7, h8⟩ := h
  refine ⟨h1, h2, h3, h4, h5, h6, h7, fun hi y hy hT => ?_⟩
  by_cases z : y = j
  · subst z
    obtain ⟨⟨k, k1, k2⟩, -, -⟩ := h3 y hn hj
    have h9 := h5 k k1 hi
    rw [k2, Int.toNat_natCast] at h9
    exact ⟨hj, h9⟩
  · exact h8 hi y (by omega) hT
theorem mbf_put {T : Nat → Nat → Bool} {n u : Nat} {Di Qu : Nat → Int} {w i j : Nat} (h : mbf T n u Di Qu w i j) (hn : n ≤ 160) (hi : i < w) (hjn : j < n) (hT : T (Qu i).toNat j = true) (hj : Di j = 100000) :
    mbf T n u (va_up Di j (Di (Qu i).toNat + 1)) (va_up Qu w (j : Int)) (w + 1) i (j + 1) := by
  obtain ⟨h1, h2, h3, h4, h5, h6, h7, h8⟩ := h
  have hw : w ≤ n := by rw [h1]; exact cN_le _ _
  obtain ⟨p, p1, p2, p3, p4⟩ := h2 i hi
  have hp : (Qu i).toNat = p := by omega
  rw [hp] at hT ⊢
  have e1 : ∀ k, k < w → va_up Qu w (j : Int) k = Qu k := fun k hk => va_up_ne _ _ (by omega)
  have e3 : ∀ y, Di y ≠ 100000 → va_up Di j (Di p + 1) y = Di y := fun y hy => va_up_ne _ _ (fun q => hy (by rw [q]; exact hj))
  have e2 : ∀ k, k < w → va_up Di j (Di p + 1) (Qu k).toNat = Di (Qu k).toNat := fun k hk => by
    obtain ⟨r, r1, r2, r3, r4⟩ := h2 k hk
    rw [r2, Int.toNat_natCast]; exact e3 r r3
  have e4 : va_up Qu w (j : Int) w = (j : Int) := va_up_self _ _ _
  have e5 : va_up Di j (Di p + 1) j = Di p + 1 := va_up_self _ _ _
  have p5 := (h3 p p1 p3).2
  refine ⟨?_, fun k hk => ?_, fun y hy hD => ?_, fun k k' hk hk' => ?_, fun k hk hi' => ?_, fun y hy => ?_, fun k hk hkw y hy => ?_, fun hi' y hy hTy => ?_⟩
  · have c1 : cN (fun y => decide (va_up Di j (Di p + 1) y ≠ 100000)) n = cN (fun y => decide (Di y ≠ 100000) || decide (y = j)) n := cN_congr n (fun y _ => by
      by_cases z : y = j
      · subst z; rw [e5]; simp; omega
      · rw [va_up_ne _ _ z]; simp [z])
    rw [c1, cN_or (f := fun y => decide (Di y ≠ 100000)) (g := fun y => decide (y = j)) n (fun y _ hy => decide_eq_false (fun q => by rw [q] at hy; exact absurd hj (of_decide_eq_true hy))), cN_single hjn, ← h1]
  · by_cases z : k = w
    · subst z
      exact ⟨j, hjn, e4, by rw [e5]; omega, by rw [e5]; omega⟩
    · obtain ⟨r, r1, r2, r3, r4⟩ := h2 k (by omega)
      exact ⟨r, r1, by rw [e1 k (by omega)]; exact r2, by rw [e3 r r3]; exact r3, by rw [e3 r r3]; exact r4⟩
  · by_cases z : y = j
    · subst z
      refine ⟨⟨w, by omega, e4⟩, by rw [e5]; omega, ?_⟩
      rw [e5, show (Di p + 1).toNat = (Di p).toNat + 1 by omega]
      exact ⟨p, p5.2, hT⟩
    · rw [va_up_ne _ _ z] at hD ⊢
      obtain ⟨⟨k, k1, k2⟩, k3⟩ := h3 y hy hD
      exact ⟨⟨k, by omega, by rw [e1 k k1]; exact k2⟩, k3⟩
  · by_cases z : k' = w
    · subst z
      rw [e4, Int.toNat_natCast, e5]
      by_cases z2 : k = k'
      · subst z2; rw [e4, Int.toNat_natCast, e5]; exact Int.le_refl _
      · rw [e1 k (by omega), e2 k (by omega)]
        have := h5 k (by omega) hi
        rw [hp] at this; exact this
    · rw [e1 k (by omega), e1 k' (by omega), e2 k (by omega), e2 k' (by omega)]
      exact h4 k k' hk (by omega)
  · rw [e1 i hi, e2 i hi]
    by_cases z : k = w
    · subst z; rw [e4, Int.toNat_natCast, e5, hp]; exact Int.le_refl _
    · rw [e1 k (by omega), e2 k (by omega)]; exact h5 k (by omega) hi
  · have := h6 y hy
    rw [e3 y (by omega)]; exact this
  · have hk2 : k < w := by omega
    rw [e1 k hk2] at hy
    obtain ⟨g1, g2⟩ := h7 k hk hk2 y hy
    rw [e1 k hk2, e2 k hk2, e3 y g1]
    exact ⟨g1, g2⟩
  · rw [e1 i hi] at hTy
    rw [e1 i hi, e2 i hi]
    by_cases z : y = j
    · subst z; rw [e5, hp]; omega
    · obtain ⟨g1, g2⟩ := h8 hi y (by omega) hTy
      rw [e3 y g1]; exact ⟨g1, g2⟩
theorem mbf_next {T : Nat → Nat → Bool} {n u : Nat} {Di Qu : Nat → Int} {w i : Nat} (h : mbf T n u Di Qu w i n) (hi : i < w) (hB : ∀ x y, T x y = true → x < n ∧ y < n) : mbf T n u Di Qu w (i + 1) 0 := by
  obtain ⟨h1, h2, h3, h4, h5, h6, h7, h8⟩ := h
  refine ⟨h1, h2, h3, h4, fun k hk hi' => ?_, h6, fun k hk hkw y hy => ?_, fun _ y hy => by omega⟩
  · have := h5 k hk hi
    have := h4 i (i + 1) (by omega) hi'
    omega
  · by_cases z : k = i
    · subst z; exact h8 hi y (hB _ _ hy).2 hy
    · exact h7 k (by omega) hkw y hy
theorem mbf_end {T : Nat → Nat → Bool} {n u : Nat} {Di Qu : Nat → Int} {w i j : Nat} (h : mbf T n u Di Qu w i j) (hn : n ≤ 160) (hi : w ≤ i) (hB : ∀ x y, T x y = true → x < n ∧ y < n) : mwd T n u Di := by
  obtain ⟨h1, h2, h3, h4, h5, h6, h7, h8⟩ := h
  have hw : w ≤ n := by rw [h1]; exact cN_le _ _
  have all : ∀ k y, wk T (k + 1) u y → Di y ≠ 100000 ∧ Di y ≤ (k : Int) + 1 := by
    intro k
    induction k with
    | zero =>
      rintro y ⟨c, hc, hb⟩
      rw [← (show u = c from hc)] at hb
      have := h6 y hb
      omega
    | succ k ih =>
      rintro y ⟨c, hc, hb⟩
      obtain ⟨g1, g2⟩ := ih c hc
      obtain ⟨⟨q, q1, q2⟩, -⟩ := h3 c (hB _ _ hb).1 g1
      have h9 := h7 q (by omega) q1 y (by rw [q2, Int.toNat_natCast]; exact hb)
      rw [q2, Int.toNat_natCast] at h9
      refine ⟨h9.1, ?_⟩
      have := h9.2
      push_cast
      omega
  intro y hy
  by_cases z : Di y = 100000
  · refine Or.inl ⟨z, fun k hk hwk => ?_⟩
    obtain ⟨k, rfl⟩ : ∃ k', k = k' + 1 := ⟨k - 1, by omega⟩
    exact (all k y hwk).1 z
  · obtain ⟨⟨q, q1, q2⟩, q3, q4⟩ := h3 y hy z
    obtain ⟨p, p1, p2, p3, p4⟩ := h2 q q1
    have hpy : p = y := by omega
    subst hpy
    refine Or.inr ⟨q3, by omega, q4, fun k hk hwk => ?_⟩
    obtain ⟨k, rfl⟩ : ∃ k', k = k' + 1 := ⟨k - 1, by omega⟩
    have := (all k p hwk).2
    push_cast
    omega
/-- the first row -/
def mb0 (T : Nat → Nat → Bool) (u : Nat) (Di Qu : Nat → Int) (w j : Nat) : Prop :=
  w = cN (T u) j ∧ (∀ y, y < j → Di y = if T u y = true then 1 else 100000) ∧ (∀ y, y < j → T u y = true → Qu (cN (T u) y) = (y : Int))
theorem mb0_no {T : Nat → Nat → Bool} {u : Nat} {Di Qu : Nat → Int} {w j : Nat} (h : mb0 T u Di Qu w j) (hT : T u j = false) : mb0 T u (va_up Di j 100000) Qu w (j + 1) := by
  obtain ⟨h1, h2, h3⟩ := h
  refine ⟨by rw [cN_f hT]; exact h1, fun y hy => ?_, fun y hy hy2 => ?_⟩
  · by_cases z : y = j
    · subst z; rw [va_up_self, hT]; rfl
    · rw [va_up_ne _ _ z]; exact h2 y (by omega)
  · by_cases z : y = j
    · subst z; rw [hT] at hy2; cases hy2
    · exact h3 y (by omega) hy2
theorem mb0_yes {T : Nat → Nat → Bool} {u : Nat} {Di Qu : Nat → Int} {w j : Nat} (h : mb0 T u Di Qu w j) (hT : T u j = true) : mb0 T u (va_up (va_up Di j 100000) j 1) (va_up Qu w (j : Int)) (w + 1) (j + 1) := by
  obtain ⟨h1, h2, h3⟩ := h
  refine ⟨by rw [cN_t hT, h1], fun y hy => ?_, fun y hy hy2 => ?_⟩
  · by_cases z : y = j
    · subst z; rw [va_up_self, hT]; rfl
    · rw [va_up_ne _ _ z, va_up_ne _ _ z]; exact h2 y (by omega)
  · by_cases z : y = j
    · subst z; rw [← h1, va_up_self]
    · have := cN_strict (show y < j by omega) hy2
      rw [va_up_ne _ _ (by omega)]; exact h3 y (by omega) hy2
theorem mb0_mbf {T : Nat → Nat → Bool} {n u : Nat} {Di Qu : Nat → Int} {w : Nat} (h : mb0 T u Di Qu w n) (hB : ∀ x y, T x y = true → x < n ∧ y < n) : mbf T n u Di Qu w 0 0 := by
  obtain ⟨h1, h2, h3⟩ := h
  have d1 : ∀ y, T u y = true → Di y = 1 := fun y hy => by rw [h2 y (hB _ _ hy).2, if_pos hy]
  have d2 : ∀ y, y < n → Di y ≠ 100000 → T u y = true := fun y hy hD => by
    rw [h2 y hy] at hD
    by_cases z : T u y = true
    · exact z
    · rw [if_neg z] at hD; exact absurd rfl hD
  have at_ : ∀ k, k < w → ∃ p : Nat, p < n ∧ Qu k = (p : Int) ∧ T u p = true := fun k hk => by
    obtain ⟨p, p1, p2, p3⟩ := cN_at (T u) n k (by omega)
    exact ⟨p, p1, by rw [← p3]; exact h3 p p1 p2, p2⟩
  have d3 : ∀ k, k < w → Di (Qu k).toNat = 1 := fun k hk => by
    obtain ⟨p, p1, p2, p3⟩ := at_ k hk
    rw [p2, Int.toNat_natCast]; exact d1 p p3
  refine ⟨?_, fun k hk => ?_, fun y hy hD => ?_, fun k k' hk hk' => ?_, fun k hk hi => ?_, d1, fun k hk => by omega, fun _ y hy => by omega⟩
  · rw [h1]
    refine cN_congr n (fun y hy => ?_)
    cases hT : T u y with
    | true => rw [d1 y hT]; rfl
    | false => rw [h2 y hy, hT]; rfl
  · obtain ⟨p, p1, p2, p3⟩ := at_ k hk
    have := d1 p p3
    exact ⟨p, p1, p2, by omega, by omega⟩
  · have hT := d2 y hy hD
    have hd := d1 y hT
    refine ⟨⟨cN (T u) y, by rw [h1]; exact cN_strict hy hT, h3 y hy hT⟩, by omega, ?_⟩
    rw [hd]
    exact ⟨u, rfl, hT⟩
  · rw [d3 k (by omega), d3 k' hk']; exact Int.le_refl _
  · rw [d3 k hk, d3 0 hi]; omega
theorem mwd_sh {T : Nat → Nat → Bool} {n u y : Nat} {Di : Nat → Int} (h : mwd T n u Di) (hy : y < n) : shB T u y (if Di y = 100000 then -1 else Di y) := by
  rcases h y hy with ⟨h1, h2⟩ | ⟨h1, h2, h3, h4⟩
  · rw [if_pos h1]; exact Or.inl ⟨rfl, h2⟩
  · rw [if_neg (by omega)]
    refine Or.inr ⟨(Di y).toNat, by omega, by omega, by omega, h3, fun j j1 j2 hw => ?_⟩
    have := h4 j j1 hw
    omega
theorem mbf_rg {T : Nat → Nat → Bool} {n u : Nat} {Di Qu : Nat → Int} {w i j : Nat} (h : mbf T n u Di Qu w i j) (hn : n ≤ 160) {y : Nat} (hy : y < n) : 1 ≤ Di y ∧ Di y ≤ 100000 := by
  obtain ⟨h1, h2, h3, -⟩ := h
  have hw : w ≤ n := by rw [h1]; exact cN_le _ _
  by_cases z : Di y = 100000
  · omega
  · obtain ⟨⟨q, q1, q2⟩, q3, -⟩ := h3 y hy z
    obtain ⟨p, p1, p2, p3, p4⟩ := h2 q q1
    have hpy : p = y := by omega
    subst hpy
    omega
theorem mwd_rg {T : Nat → Nat → Bool} {n u : Nat} {Di : Nat → Int} (h : mwd T n u Di) {y : Nat} (hy : y < n) : 1 ≤ Di y ∧ Di y ≤ 100000 := by
  rcases h y hy with ⟨h1, -⟩ | ⟨h1, h2, -⟩ <;> omega
