/-! what reaches what, and how the tables hold it -/
def rch (B : Nat → Nat → Bool) (x y : Nat) : Prop := ∃ k, wk B k x y
theorem rch_refl (B : Nat → Nat → Bool) (x : Nat) : rch B x x := ⟨0, rfl⟩
theorem wk_add {B : Nat → Nat → Bool} {a b c i : Nat} (h : wk B i a b) : ∀ j, wk B j b c → wk B (i + j) a c := by
  intro j
  induction j generalizing c with
  | zero => intro h2; rw [← (show b = c from h2)]; exact h
  | succ j ih => rintro ⟨d, h2, h3⟩; exact ⟨d, ih h2, h3⟩
theorem rch_trans {B : Nat → Nat → Bool} {a b c : Nat} (h : rch B a b) (h2 : rch B b c) : rch B a c := by
  obtain ⟨i, h⟩ := h; obtain ⟨j, h2⟩ := h2; exact ⟨i + j, wk_add h j h2⟩
theorem rch_arc {B : Nat → Nat → Bool} {a b : Nat} (h : B a b = true) : rch B a b := ⟨1, a, rfl, h⟩
theorem wk_mono {B C : Nat → Nat → Bool} (h : ∀ x y, B x y = true → C x y = true) : ∀ (k a b : Nat), wk B k a b → wk C k a b
  | 0, _, _, e => e
  | k + 1, a, b, ⟨c, h1, h2⟩ => ⟨c, wk_mono h k a c h1, h c b h2⟩
theorem rch_mono {B C : Nat → Nat → Bool} (h : ∀ x y, B x y = true → C x y = true) {a b : Nat} (hr : rch B a b) : rch C a b := by
  obtain ⟨k, hk⟩ := hr; exact ⟨k, wk_mono h k a b hk⟩
theorem bP_sub {B : Nat → Nat → Bool} {u v : Nat} : ∀ x y, B x y = true → bP B u v true x y = true := fun x y h => by
  unfold bP; split; rfl; exact h
theorem rch_add {B : Nat → Nat → Bool} {u v x y : Nat} : rch (bP B u v true) x y ↔ rch B x y ∨ (rch B x u ∧ rch B v y) := by
  constructor
  · rintro ⟨k, hk⟩
    induction k generalizing y with
    | zero => exact Or.inl ⟨0, hk⟩
    | succ k ih =>
      obtain ⟨c, h1, h2⟩ := hk
      unfold bP at h2
      by_cases z : c = u ∧ y = v
      · obtain ⟨rfl, rfl⟩ := z
        rcases ih h1 with h | h
        · exact Or.inr ⟨h, rch_refl B y⟩
        · exact Or.inr ⟨h.1, rch_refl B y⟩
      · rw [if_neg z] at h2
        rcases ih h1 with h | h
        · exact Or.inl (rch_trans h (rch_arc h2))
        · exact Or.inr ⟨h.1, rch_trans h.2 (rch_arc h2)⟩
  · rintro (h | ⟨h1, h2⟩)
    · exact rch_mono bP_sub h
    · exact rch_trans (rch_mono bP_sub h1) (rch_trans (rch_arc (by unfold bP; simp)) (rch_mono bP_sub h2))
/-- H holds what reaches what among the first n, K the other way round -/
def cl (B : Nat → Nat → Bool) (n : Nat) (H K : Nat → Nat → Bool) : Prop := (∀ x y, H x y = true ↔ (x < n ∧ y < n ∧ rch B x y)) ∧ ∀ x y, K x y = H y x
theorem cl_id (n : Nat) : cl (fun _ _ => false) n (idB n) (idB n) := by
  refine ⟨fun x y => ?_, fun x y => ?_⟩
  · unfold idB
    rw [decide_eq_true_iff]
    constructor
    · rintro ⟨rfl, h⟩; exact ⟨h, h, rch_refl _ _⟩
    · rintro ⟨h1, h2, k, hk⟩
      cases k with
      | zero => exact ⟨hk, h1⟩
      | succ k => obtain ⟨c, -, h3⟩ := hk; cases h3
  · unfold idB
    exact decide_eq_decide.mpr ⟨fun ⟨a, b⟩ => ⟨a.symm, by omega⟩, fun ⟨a, b⟩ => ⟨a.symm, by omega⟩⟩
theorem cl_wf {B : Nat → Nat → Bool} {n : Nat} {H K : Nat → Nat → Bool} (h : cl B n H K) (hn : n ≤ 160) : wfB H ∧ wfB K := by
  refine ⟨fun x y hb => ?_, fun x y hb => ?_⟩
  · have := (h.1 x y).mp hb; omega
  · rw [h.2] at hb; have := (h.1 y x).mp hb; omega
theorem cl_lead {B : Nat → Nat → Bool} {n u v : Nat} {H K : Nat → Nat → Bool} (h : cl B n H K) (hu : u < n) (hv : v < n) : cl (bP B u v true) n (ldA H K u v) (ldB H K u v) := by
  unfold ldA ldB
  by_cases z : H u v = true
  · rw [if_pos z, if_pos z]
    refine ⟨fun x y => ?_, h.2⟩
    rw [h.1, rch_add]
    constructor
    · rintro ⟨a, b, r⟩; exact ⟨a, b, Or.inl r⟩
    · rintro ⟨a, b, r | r⟩
      · exact ⟨a, b, r⟩
      · exact ⟨a, b, rch_trans r.1 (rch_trans ((h.1 u v).mp z).2.2 r.2)⟩
  · rw [if_neg z, if_neg z]
    refine ⟨fun x y => ?_, fun x y => ?_⟩
    · unfold leF
      rw [rch_add, Bool.or_eq_true, Bool.and_eq_true, h.2 u x, h.1, h.1, h.1]
      constructor
      · rintro (⟨a, b, r⟩ | ⟨⟨a, b, r⟩, c, d, r2⟩)
        · exact ⟨a, b, Or.inl r⟩
        · exact ⟨a, d, Or.inr ⟨r, r2⟩⟩
      · rintro ⟨a, b, r | r⟩
        · exact Or.inl ⟨a, b, r⟩
        · exact Or.inr ⟨⟨a, hu, r.1⟩, hv, b, r.2⟩
    · unfold leF
      rw [h.2 x y, Bool.and_comm]
theorem cl_congr {B C : Nat → Nat → Bool} {n : Nat} {H K : Nat → Nat → Bool} (h : cl B n H K) (e : ∀ x y, B x y = C x y) : cl C n H K := by
  have : B = C := by funext x y; exact e x y
  rw [← this]; exact h
/-- the arcs of the first nodes, and of one node the first few -/
def pB (B : Nat → Nat → Bool) (a i : Nat) : Nat → Nat → Bool := fun x y => B x y && (decide (x < a) || (decide (x = a) && decide (cN (B a) y < i)))
theorem pB_0 (B : Nat → Nat → Bool) : pB B 0 0 = fun _ _ => false := by
  funext x y; unfold pB; simp
theorem pB_s {B : Nat → Nat → Bool} {a i p : Nat} (hp : B a p = true) (hc : cN (B a) p = i) : bP (pB B a i) a p true = pB B a (i + 1) := by
  funext x y
  unfold bP
  by_cases z : x = a ∧ y = p
  · obtain ⟨rfl, rfl⟩ := z
    rw [if_pos ⟨rfl, rfl⟩]
    unfold pB
    simp [hp, hc]
  · rw [if_neg z]
    unfold pB
    cases hb : B x y with
    | false => simp
    | true =>
      by_cases q : x = a
      · subst q
        have hne : cN (B x) y ≠ i := fun e => z ⟨rfl, cN_inj hb hp (e.trans hc.symm)⟩
        by_cases w : cN (B x) y < i
        · simp [w, show cN (B x) y < i + 1 by omega]
        · simp [w, show ¬ cN (B x) y < i + 1 by omega]
      · simp [q]
theorem pB_next {B : Nat → Nat → Bool} {a : Nat} (hw : wfB B) : pB B a (cN (B a) 192) = pB B (a + 1) 0 := by
  funext x y
  unfold pB
  cases hb : B x y with
  | false => simp
  | true =>
    by_cases q : x = a
    · subst q
      have h1 := (hw _ _ hb).2
      have h2 := cN_strict (show y < 192 by omega) hb
      simp [h2]
    · by_cases w : x < a
      · simp [w, show x < a + 1 by omega]
      · simp [q, w, show ¬ x < a + 1 by omega]
theorem pB_all {B : Nat → Nat → Bool} {n : Nat} (hw : ∀ x y, B x y = true → x < n ∧ y < n) : pB B n 0 = B := by
  funext x y
  unfold pB
  cases hb : B x y with
  | false => simp
  | true => simp [(hw _ _ hb).1]
/-- an arc is asked for -/
def nadd (B : Nat → Nat → Bool) (ac : Int) (rk : Bool) (H K : Nat → Nat → Bool) (ch : Int) (u v : Nat) (B2 : Nat → Nat → Bool) (ac2 ch2 : Int) (H2 K2 : Nat → Nat → Bool) (z : Int) : Prop :=
  (z = -1 ∧ (B u v = true ∨ 1000 ≤ ac) ∧ B2 = B ∧ ac2 = ac ∧ ch2 = ch ∧ H2 = H ∧ K2 = K) ∨
  (z = ac + 1 ∧ B u v = false ∧ ac < 1000 ∧ B2 = bP B u v true ∧ ac2 = ac + 1 ∧ ch2 = ch + 1 ∧ H2 = (if rk = true then ldA H K u v else H) ∧ K2 = (if rk = true then ldB H K u v else K))
/-- an arc is taken away -/
def nrem (B : Nat → Nat → Bool) (ac : Int) (rk : Bool) (ch : Int) (u v : Nat) (B2 : Nat → Nat → Bool) (ac2 : Int) (rk2 : Bool) (ch2 : Int) (z : Bool) : Prop :=
  (z = false ∧ B u v = false ∧ B2 = B ∧ ac2 = ac ∧ rk2 = rk ∧ ch2 = ch) ∨
  (z = true ∧ B u v = true ∧ B2 = bP B u v false ∧ ac2 = ac - 1 ∧ rk2 = false ∧ ch2 = ch + 1)
