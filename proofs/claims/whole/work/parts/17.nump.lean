/-! the numbers of the parts -/
/-- who of the first n, without number, reaches a from another part -/
def hld (H : Nat → Nat → Bool) (num : Nat → Int) (a : Nat) : Nat → Bool := fun b => decide (num b = -1) && (H b a && !(H a b))
def numP (n : Nat) (H : Nat → Nat → Bool) (num lst : Nat → Int) (cnt : Int) : Prop :=
  0 ≤ cnt ∧
  (∀ a, a < n → num a = -1 ∨ (0 ≤ num a ∧ num a < cnt)) ∧
  (∀ a b, a < n → b < n → num a ≠ -1 → (num b = num a ↔ (H a b = true ∧ H b a = true))) ∧
  (∀ c : Nat, (c : Int) < cnt → ∃ x : Nat, x < n ∧ lst c = (x : Int) ∧ num x = (c : Int) ∧ (∀ a, a < n → num a = (c : Int) → x ≤ a) ∧
    (∀ b, b < n → H b x = true → H x b = false → 0 ≤ num b ∧ num b < (c : Int)) ∧
    (∀ a, a < x → (num a = -1 ∨ (c : Int) < num a) → ∃ b, b < n ∧ H b a = true ∧ H a b = false ∧ (num b = -1 ∨ (c : Int) ≤ num b)))
def numC (n : Nat) (H : Nat → Nat → Bool) (num lst : Nat → Int) (cnt : Int) : Prop := numP n H num lst cnt ∧ ∀ a, a < n → num a ≠ -1
/-- reach among the first n: each reaches itself, and over another -/
def rfl2 (n : Nat) (H : Nat → Nat → Bool) : Prop := (∀ a, a < n → H a a = true) ∧ (∀ a b c, H a b = true → H b c = true → H a c = true) ∧ ∀ a b, H a b = true → a < n ∧ b < n
theorem cl_rfl2 {B : Nat → Nat → Bool} {n : Nat} {H K : Nat → Nat → Bool} (h : cl B n H K) : rfl2 n H :=
  ⟨fun a ha => (h.1 a a).mpr ⟨ha, ha, rch_refl B a⟩, fun a b c h1 h2 => by
    have e1 := (h.1 a b).mp h1; have e2 := (h.1 b c).mp h2
    exact (h.1 a c).mpr ⟨e1.1, e2.2.1, rch_trans e1.2.2 e2.2.2⟩, fun a b h1 => by have e1 := (h.1 a b).mp h1; exact ⟨e1.1, e1.2.1⟩⟩
theorem numP_0 {n : Nat} {H : Nat → Nat → Bool} {num lst : Nat → Int} (h : ∀ a, a < n → num a = -1) : numP n H num lst 0 :=
  ⟨Int.le_refl 0, fun a ha => Or.inl (h a ha), fun a b ha _ hne => absurd (h a ha) hne, fun c hc => by omega⟩
theorem cN_0 {g : Nat → Bool} {n : Nat} (h : cN g n = 0) : ∀ j, j < n → g j = false := fun j hj => by
  cases hb : g j with
  | false => rfl
  | true => have := cN_strict hj hb; omega
theorem cN_z {g : Nat → Bool} {n : Nat} (h : ∀ j, j < n → g j = false) : cN g n = 0 := by
  cases hc : cN g n with
  | zero => rfl
  | succ k =>
    obtain ⟨p, h1, h2, -⟩ := cN_at g n 0 (by omega)
    rw [h p h1] at h2; cases h2
/-- x, the least that waits for none, gets the next number, and with it its part -/
def nst (H : Nat → Nat → Bool) (num : Nat → Int) (x : Nat) (cnt : Int) : Nat → Int := fun a => if H a x = true ∧ H x a = true then cnt else num a
theorem hld_iff {H : Nat → Nat → Bool} {num : Nat → Int} {a b : Nat} : hld H num a b = true ↔ (num b = -1 ∧ H b a = true ∧ H a b = false) := by
  unfold hld
  rw [Bool.and_eq_true, Bool.and_eq_true, decide_eq_true_iff]
  cases H a b <;> simp
theorem numP_step {n : Nat} {H : Nat → Nat → Bool} {num num' lst : Nat → Int} {cnt : Int} {x : Nat} (hR : rfl2 n H) (h : numP n H num lst cnt) (hx : x < n) (hx1 : num x = -1) (hx2 : cN (hld H num x) n = 0)
    (hmin : ∀ a, a < x → ¬ (num a = -1 ∧ cN (hld H num a) n = 0)) (hn' : ∀ a, a < n → num' a = nst H num x cnt a) : numP n H num' (va_up lst cnt.toNat (x : Int)) (cnt + 1) := by
  obtain ⟨h0, h1, h2, h3⟩ := h
  obtain ⟨r1, r2, r3⟩ := hR
  have hk : ∀ a, a < n → (num' a = cnt ↔ (H a x = true ∧ H x a = true)) := fun a ha => by
    rw [hn' a ha]; unfold nst
    by_cases z : H a x = true ∧ H x a = true
    · rw [if_pos z]; exact ⟨fun _ => z, fun _ => rfl⟩
    · rw [if_neg z]
      refine ⟨fun e => ?_, fun e => absurd e z⟩
      have := h1 a ha; omega
  have ho : ∀ a, a < n → ¬ (H a x = true ∧ H x a = true) → num' a = num a := fun a ha z => by rw [hn' a ha]; unfold nst; rw [if_neg z]
  -- no numbered node is in x's part
  have hun : ∀ a, a < n → num a ≠ -1 → ¬ (H a x = true ∧ H x a = true) := fun a ha hne z => by
    have := (h2 a x ha hx hne).mpr ⟨z.1, z.2⟩
    exact hne (this.symm.trans hx1)
  have hold : ∀ a, a < n → num a ≠ -1 → num' a = num a := fun a ha hne => ho a ha (hun a ha hne)
  have hback : ∀ a, a < n → num' a ≠ cnt → num' a = num a := fun a ha hne => ho a ha (fun z => hne ((hk a ha).mpr z))
  refine ⟨by omega, fun a ha => ?_, fun a b ha hb hne => ?_, fun c hc => ?_⟩
  · by_cases z : num' a = cnt
    · right; omega
    · rw [hback a ha z]; have := h1 a ha; omega
  · by_cases z : num' a = cnt
    · rw [z, hk b hb]
      have za := (hk a ha).mp z
      exact ⟨fun e => ⟨r2 a x b za.1 e.2, r2 b x a e.1 za.2⟩, fun e => ⟨r2 b a x e.2 za.1, r2 x a b za.2 e.1⟩⟩
    · have e1 := hback a ha z
      rw [e1] at hne ⊢
      by_cases zb : num' b = cnt
      · have zb' := (hk b hb).mp zb
        rw [zb]
        refine ⟨fun e => absurd (e1.trans e.symm) z, fun e => ?_⟩
        exact absurd ((hk a ha).mpr ⟨r2 a b x e.1 zb'.1, r2 x b a zb'.2 e.2⟩) z
      · rw [hback b hb zb]; exact h2 a b ha hb hne
  · by_cases z : (c : Int) = cnt
    · have hcc : cnt.toNat = c := by omega
      refine ⟨x, hx, by rw [hcc, va_up_self], by rw [z]; exact (hk x hx).mpr ⟨r1 x hx, r1 x hx⟩, fun a ha e => ?_, fun b hb e1 e2 => ?_, fun a ha e => ?_⟩
      · rw [z] at e
        have za := (hk a ha).mp e
        -- a in x's part, smaller than x: it would be ready too
        apply Nat.le_of_not_lt
        intro hlt
        apply hmin a hlt
        have ha1 : num a = -1 := by
          cases h1 a ha with
          | inl q => exact q
          | inr q => exact absurd za (hun a ha (by omega))
        refine ⟨ha1, cN_z (fun b hb => ?_)⟩
        cases hh : hld H num a b with
        | false => rfl
        | true =>
          obtain ⟨q1, q2, q3⟩ := hld_iff.mp hh
          have := cN_0 hx2 b hb
          have hxb : H x b = false := by
            cases hv : H x b with
            | false => rfl
            | true => have := r2 a x b za.1 hv; rw [this] at q3; cases q3
          rw [hld_iff.mpr ⟨q1, r2 b a x q2 za.1, hxb⟩] at this
          cases this
      · have hnot : ¬ (H b x = true ∧ H x b = true) := fun q => by rw [e2] at q; cases q.2
        rw [ho b hb hnot]
        have hz := cN_0 hx2 b hb
        cases h1 b hb with
        | inl q => rw [hld_iff.mpr ⟨q, e1, e2⟩] at hz; cases hz
        | inr q => omega
      · have han : a < n := by omega
        have hne : num' a ≠ cnt := fun q => by omega
        have e3 := hback a han hne
        have ha1 : num a = -1 := by
          have := h1 a han
          rw [e3] at e
          omega
        have hc0 : cN (hld H num a) n ≠ 0 := fun q => hmin a ha ⟨ha1, q⟩
        obtain ⟨b, b1, b2, -⟩ := cN_at (hld H num a) n 0 (by omega)
        obtain ⟨q1, q2, q3⟩ := hld_iff.mp b2
        refine ⟨b, b1, q2, q3, ?_⟩
        by_cases zb : num' b = cnt
        · right; omega
        · left; rw [hback b b1 zb]; exact q1
    · obtain ⟨y, y1, y2, y3, y4, y5, y6⟩ := h3 c (by omega)
      have hyn : num' y = num y := hold y y1 (by omega)
      refine ⟨y, y1, by rw [va_up_ne _ _ (by omega)]; exact y2, by rw [hyn]; exact y3, fun a ha e => ?_, fun b hb e1 e2 => ?_, fun a ha e => ?_⟩
      · exact y4 a ha (by rw [← hback a ha (by omega)]; exact e)
      · have hb0 := y5 b hb e1 e2
        rw [hold b hb (by omega)]; exact hb0
      · have han : a < n := by omega
        have e' : num a = -1 ∨ (c : Int) < num a := by
          by_cases zz : num' a = cnt
          · left
            cases h1 a han with
            | inl q => exact q
            | inr q => exact absurd ((hk a han).mp zz) (hun a han (by omega))
          · rw [← hback a han zz]; exact e
        obtain ⟨b, b1, b2, b3, b4⟩ := y6 a ha e'
        refine ⟨b, b1, b2, b3, ?_⟩
        by_cases zz : num' b = cnt
        · right; omega
        · rw [hback b b1 zz]; exact b4
/-- as long as one has no number, one waits for none -/
theorem num_next {n : Nat} {H : Nat → Nat → Bool} {num : Nat → Int} (hR : rfl2 n H) : ∀ (k a : Nat), cN (hld H num a) n ≤ k → a < n → num a = -1 → ∃ x, x < n ∧ num x = -1 ∧ cN (hld H num x) n = 0 := by
  obtain ⟨r1, r2, r3⟩ := hR
  intro k
  induction k with
  | zero => intro a h ha h1; exact ⟨a, ha, h1, by omega⟩
  | succ k ih =>
    intro a h ha h1
    by_cases z : cN (hld H num a) n = 0
    · exact ⟨a, ha, h1, z⟩
    · obtain ⟨b, b1, b2, -⟩ := cN_at (hld H num a) n 0 (by omega)
      obtain ⟨q1, q2, q3⟩ := hld_iff.mp b2
      refine ih b ?_ b1 q1
      -- b's holders are a's, but b itself
      have hsub : ∀ j, hld H num b j = true → hld H num a j = true := fun j hj => by
        obtain ⟨p1, p2, p3⟩ := hld_iff.mp hj
        refine hld_iff.mpr ⟨p1, r2 j b a p2 q2, ?_⟩
        cases hv : H a j with
        | false => rfl
        | true => have := r2 a j b hv p2; rw [this] at q3; cases q3
      have hbb : hld H num b b = false := by
        cases hv : hld H num b b with
        | false => rfl
        | true => obtain ⟨-, p2, p3⟩ := hld_iff.mp hv; rw [p2] at p3; cases p3
      have hlt : ∀ m, b < m → cN (hld H num b) m < cN (hld H num a) m := by
        intro m
        induction m with
        | zero => intro q; omega
        | succ m ihm =>
          intro q
          have hle : ∀ w, cN (hld H num b) w ≤ cN (hld H num a) w := by
            intro w
            induction w with
            | zero => exact Nat.le_refl _
            | succ w ihw =>
              rw [cN_s, cN_s]
              cases hv : hld H num b w with
              | false => simp; omega
              | true => rw [hsub w hv]; simp; exact ihw
          by_cases zz : b = m
          · subst zz
            rw [cN_f hbb, cN_t b2]
            have := hle b
            omega
          · have := ihm (by omega)
            rw [cN_s, cN_s]
            cases hv : hld H num b m with
            | false => simp; omega
            | true => rw [hsub m hv]; simp; exact this
      have := hlt n b1
      omega
/-- two numberings of one graph are one -/
theorem num_one {n : Nat} {H : Nat → Nat → Bool} {num lst num' lst' : Nat → Int} {cnt cnt' : Int} (h : numC n H num lst cnt) (h' : numC n H num' lst' cnt') : ∀ c : Nat, ((c : Int) < cnt → (c : Int) < cnt' ∧ lst c = lst' c) ∧ ∀ a, a < n → num a = (c : Int) → num' a = (c : Int) := by
  obtain ⟨⟨h0, h1, h2, h3⟩, h4⟩ := h
  obtain ⟨⟨g0, g1, g2, g3⟩, g4⟩ := h'
  have key : ∀ c : Nat, ((∀ a, a < n → (num a = (c : Int) ↔ num' a = (c : Int))) ∧ ((c : Int) < cnt → (c : Int) < cnt' ∧ lst c = lst' c)) := by
    intro c
    induction c using Nat.strongRecOn with
    | ind c ih =>
      have hge : ∀ a, a < n → ((c : Int) ≤ num a ↔ (c : Int) ≤ num' a) := fun a ha => by
        constructor
        · intro q
          apply Int.not_lt.mp
          intro w
          have := g1 a ha; have := g4 a ha
          have e := (ih (num' a).toNat (by omega)).1 a ha
          have e2 : ((num' a).toNat : Int) = num' a := by omega
          rw [e2] at e
          have := e.mpr rfl
          omega
        · intro q
          apply Int.not_lt.mp
          intro w
          have := h1 a ha; have := h4 a ha
          have e := (ih (num a).toNat (by omega)).1 a ha
          have e2 : ((num a).toNat : Int) = num a := by omega
          rw [e2] at e
          have := e.mp rfl
          omega
      by_cases hc : (c : Int) < cnt
      · obtain ⟨x, x1, x2, x3, x4, x5, x6⟩ := h3 c hc
        have hc' : (c : Int) < cnt' := by
          have := (hge x x1).mp (by omega)
          have := g1 x x1; have := g4 x x1
          omega
        obtain ⟨y, y1, y2, y3, y4, y5, y6⟩ := g3 c hc'
        have hxy : x = y := by
          rcases Nat.lt_trichotomy x y with q | q | q
          · -- x < y: in the other numbering x isn't ready
            exfalso
            have hx' := (hge x x1).mp (by omega)
            by_cases w : num' x = (c : Int)
            · have := y4 x x1 w; omega
            · obtain ⟨b, b1, b2, b3, b4⟩ := y6 x q (Or.inr (by omega))
              have := x5 b b1 b2 b3
              have := (hge b b1)
              have := g4 b b1
              omega
          · exact q
          · exfalso
            have hy' := (hge y y1).mpr (by omega)
            by_cases w : num y = (c : Int)
            · have := x4 y y1 w; omega
            · obtain ⟨b, b1, b2, b3, b4⟩ := x6 y q (Or.inr (by omega))
              have := y5 b b1 b2 b3
              have := (hge b b1)
              have := h4 b b1
              omega
        subst hxy
        refine ⟨fun a ha => ?_, fun _ => ⟨hc', by rw [x2, y2]⟩⟩
        have e1 := h2 x a x1 ha (by omega)
        have e2 := g2 x a x1 ha (by omega)
        rw [x3] at e1; rw [y3] at e2
        exact e1.trans e2.symm
      · refine ⟨fun a ha => ?_, fun q => absurd q hc⟩
        have := h1 a ha; have := h4 a ha
        have := hge a ha
        constructor
        · intro q; omega
        · intro q; omega
  exact fun c => ⟨(key c).2, fun a ha e => ((key c).1 a ha).mp e⟩
theorem num_uniq {n : Nat} {H : Nat → Nat → Bool} {num lst num' lst' : Nat → Int} {cnt cnt' : Int} (h : numC n H num lst cnt) (h' : numC n H num' lst' cnt') : cnt = cnt' ∧ (∀ a, a < n → num a = num' a) ∧ ∀ c : Nat, (c : Int) < cnt → lst c = lst' c := by
  have k1 := num_one h h'
  have k2 := num_one h' h
  refine ⟨?_, fun a ha => ?_, fun c hc => ((k1 c).1 hc).2⟩
  · have a1 := h.1.1
    have a2 := h'.1.1
    apply Int.le_antisymm
    · apply Int.not_lt.mp
      intro w
      have := ((k1 cnt'.toNat).1 (by omega)).1
      omega
    · apply Int.not_lt.mp
      intro w
      have := ((k2 cnt.toNat).1 (by omega)).1
      omega
  · have := h.1.2.1 a ha
    have := h.2 a ha
    have e := (k1 (num a).toNat).2 a ha (by omega)
    omega
