/-! class and reference: chains, what is missing -/
theorem cross_out {B : Nat → Nat → Bool} {num : Nat → Int} {x : Nat} : ∀ (k p : Nat), wk B k x p → num p ≠ num x → ∃ a b, B a b = true ∧ num a = num x ∧ num b ≠ num x ∧ rch B b p
  | 0, p, h, hn => absurd (congrArg num (show x = p from h).symm) hn
  | k + 1, p, ⟨c, hc, hb⟩, hn => by
    by_cases z : num c = num x
    · exact ⟨c, p, hb, z, hn, rch_refl _ _⟩
    · obtain ⟨a, b, h1, h2, h3, h4⟩ := cross_out k c hc z
      exact ⟨a, b, h1, h2, h3, rch_trans h4 (rch_arc hb)⟩
theorem cross_in {B : Nat → Nat → Bool} {num : Nat → Int} {p : Nat} : ∀ (k x : Nat), wk B k p x → num p ≠ num x → ∃ a b, B a b = true ∧ num b = num x ∧ num a ≠ num x
  | 0, x, h, hn => absurd (congrArg num (show p = x from h)) hn
  | k + 1, x, ⟨c, hc, hb⟩, hn => by
    by_cases z : num c = num x
    · obtain ⟨a, b, h1, h2, h3⟩ := cross_in (num := num) k c hc (by rw [z]; exact hn)
      exact ⟨a, b, h1, by rw [h2, z], by rw [← z]; exact h3⟩
    · exact ⟨c, x, hb, rfl, z⟩
theorem cN_same {f g : Nat → Bool} : ∀ N, cN f N = cN (fun q => f q && g q) N ↔ ∀ j, j < N → f j = true → g j = true := by
  have le : ∀ N, cN (fun q => f q && g q) N ≤ cN f N := fun N => by
    induction N with
    | zero => exact Nat.le_refl _
    | succ N ih => rw [cN_s, cN_s]; cases f N <;> cases g N <;> simp <;> omega
  intro N
  induction N with
  | zero => exact ⟨fun _ j hj => by omega, fun _ => rfl⟩
  | succ N ih =>
    have l := le N
    rw [cN_s, cN_s]
    constructor
    · intro h
      have h0 : cN f N = cN (fun q => f q && g q) N := by cases hf : f N <;> cases hg : g N <;> simp [hf, hg] at h <;> omega
      intro j hj hfj
      by_cases z : j = N
      · subst z
        cases hg : g j with
        | true => rfl
        | false => simp [hfj, hg] at h; omega
      · exact ih.mp h0 j (by omega) hfj
    · intro h
      rw [ih.mpr (fun j hj => h j (by omega))]
      cases hf : f N with
      | false => simp
      | true => simp [h N (by omega) hf]
/-- nodes of one part; a part that is reached comes later -/
theorem num_same {n : Nat} {H : Nat → Nat → Bool} {num lst : Nat → Int} {cnt : Int} (h : numC n H num lst cnt) {a b : Nat} (ha : a < n) (hb : b < n) : num b = num a ↔ (H a b = true ∧ H b a = true) := h.1.2.2.1 a b ha hb (h.2 a ha)
theorem num_later {B : Nat → Nat → Bool} {n : Nat} {H K : Nat → Nat → Bool} {num lst : Nat → Int} {cnt : Int} (hc : cl B n H K) (h : numC n H num lst cnt) {a b : Nat} (hab : H a b = true) (hne : num a ≠ num b) : num a < num b := by
  obtain ⟨k1, -, -, -⟩ := numC_in h
  obtain ⟨ha, hb, hr⟩ := (hc.1 a b).mp hab
  have kb := k1 b hb
  obtain ⟨x, x1, x2, x3, -, x5, -⟩ := h.1.2.2.2 (num b).toNat (by omega)
  have e : num x = num b := by omega
  have hx := (num_same h hb x1).mp e
  have h1 : H a x = true := (hc.1 a x).mpr ⟨ha, x1, rch_trans hr ((hc.1 b x).mp hx.1).2.2⟩
  have h2 : H x a = false := by
    cases hh : H x a with
    | false => rfl
    | true => exact absurd ((num_same h x1 ha).mpr ⟨hh, h1⟩) (by omega)
  have := x5 a ha h1 h2
  omega
theorem tie_begin {B : Nat → Nat → Bool} {n : Nat} {H K D : Nat → Nat → Bool} {num lst : Nat → Int} {cnt : Int} (hc : cl B n H K) (h : numC n H num lst cnt) (hn : n ≤ 160) (hB : ∀ x y, B x y = true → x < n ∧ y < n) (hD : drG B num (fun _ _ => True) D) {c : Nat} (hcn : (c : Int) < cnt) :
    decide (cN (K (lst c).toNat) 192 = cN (fun p => H (lst c).toNat p && K (lst c).toNat p) 192) = mbg D c cnt.toNat := by
  obtain ⟨k1, -, -, -⟩ := numC_in h
  obtain ⟨x, x1, x2, x3, -⟩ := h.1.2.2.2 c hcn
  rw [x2, Int.toNat_natCast]
  unfold mbg
  have e1 : cN (fun p => H x p && K x p) 192 = cN (fun p => K x p && H x p) 192 := cN_congr _ (fun p _ => Bool.and_comm _ _)
  rw [e1]
  refine decide_eq_decide.mpr ?_
  rw [show (cN (K x) 192 = cN (fun p => K x p && H x p) 192) ↔ _ from cN_same 192]
  constructor
  · intro hh
    refine cN_z (fun d hd => ?_)
    cases hdc : D d c with
    | false => rfl
    | true =>
      obtain ⟨a, b, h1, -, h3, h4, h5⟩ := (hD d c).mp hdc
      obtain ⟨ha, hb⟩ := hB a b h1
      have hbx := (num_same h hb x1).mp (by omega)
      have hax : H a x = true := (hc.1 a x).mpr ⟨ha, x1, rch_trans (rch_arc h1) ((hc.1 b x).mp hbx.1).2.2⟩
      have hxa := hh a (by omega) (by rw [hc.2]; exact hax)
      exact absurd ((num_same h x1 ha).mpr ⟨hxa, hax⟩) (by omega)
  · intro hz p hp hK
    rw [hc.2] at hK
    obtain ⟨hp1, -, k, hk⟩ := (hc.1 p x).mp hK
    cases hh : H x p with
    | true => rfl
    | false =>
      have hne : num p ≠ num x := fun e => by have := (num_same h x1 hp1).mp e; rw [hh] at this; cases this.1
      obtain ⟨a, b, h1, h2, h3⟩ := cross_in k x hk hne
      have ka := k1 a (hB a b h1).1
      have hd : D (num a).toNat c = true := (hD _ _).mpr ⟨a, b, h1, trivial, by omega, by omega, by omega⟩
      have := cN_strict (g := fun d => D d c) (show (num a).toNat < cnt.toNat by omega) hd
      omega
theorem tie_end {B : Nat → Nat → Bool} {n : Nat} {H K D T : Nat → Nat → Bool} {num lst : Nat → Int} {cnt : Int} (hc : cl B n H K) (h : numC n H num lst cnt) (hn : n ≤ 160) (hB : ∀ x y, B x y = true → x < n ∧ y < n) (hD : drG B num (fun _ _ => True) D) {c : Nat} (hcn : (c : Int) < cnt) :
    decide (cN (H (lst c).toNat) 192 = cN (fun p => H (lst c).toNat p && K (lst c).toNat p) 192) = decide (cN (mal D T lst cnt.toNat c false) cnt.toNat = 0) := by
  obtain ⟨k1, -, -, -⟩ := numC_in h
  obtain ⟨x, x1, x2, x3, -⟩ := h.1.2.2.2 c hcn
  have e : mal D T lst cnt.toNat c false = D c := by funext d; simp [mal, malb]
  rw [x2, Int.toNat_natCast, e]
  refine decide_eq_decide.mpr ?_
  rw [show (cN (H x) 192 = cN (fun p => H x p && K x p) 192) ↔ _ from cN_same 192]
  constructor
  · intro hh
    refine cN_z (fun d hd => ?_)
    cases hdc : D c d with
    | false => rfl
    | true =>
      obtain ⟨a, b, h1, -, h3, h4, h5⟩ := (hD c d).mp hdc
      obtain ⟨ha, hb⟩ := hB a b h1
      have hax := (num_same h ha x1).mp (by omega)
      have hxb : H x b = true := (hc.1 x b).mpr ⟨x1, hb, rch_trans ((hc.1 x a).mp hax.2).2.2 (rch_arc h1)⟩
      have hbx := hh b (by omega) hxb
      rw [hc.2] at hbx
      exact absurd ((num_same h x1 hb).mpr ⟨hxb, hbx⟩) (by omega)
  · intro hz p hp hH
    rw [hc.2]
    obtain ⟨-, hp1, k, hk⟩ := (hc.1 x p).mp hH
    cases hh : H p x with
    | true => rfl
    | false =>
      have hne : num p ≠ num x := fun e => by have := (num_same h x1 hp1).mp e; rw [hh] at this; cases this.2
      obtain ⟨a, b, h1, h2, h3, -⟩ := cross_out k p hk hne
      have kb := k1 b (hB a b h1).2
      have hd : D c (num b).toNat = true := (hD _ _).mpr ⟨a, b, h1, trivial, by omega, by omega, by omega⟩
      have := cN_strict (g := D c) (show (num b).toNat < cnt.toNat by omega) hd
      omega
theorem tie_mis {B : Nat → Nat → Bool} {n : Nat} {H K D T : Nat → Nat → Bool} {num lst : Nat → Int} {cnt : Int} (hc : cl B n H K) (h : numC n H num lst cnt) (hn : n ≤ 160) (hB : ∀ x y, B x y = true → x < n ∧ y < n) (hD : drG B num (fun _ _ => True) D) : aMis H K lst cnt = mmis T lst cnt D := by
  unfold aMis mmis
  rw [cN_congr cnt.toNat (fun c hc' => tie_begin hc h hn hB hD (c := c) (by omega)), cN_congr cnt.toNat (fun c hc' => tie_end (T := T) hc h hn hB hD (c := c) (by omega))]
  split
  · rfl
  · split <;> omega
/-- what lies further has the shorter chain -/
theorem chm_mono {B : Nat → Nat → Bool} {n : Nat} {H K D : Nat → Nat → Bool} {num lst C : Nat → Int} {cnt : Int} (hc : cl B n H K) (h : numC n H num lst cnt) (hB : ∀ x y, B x y = true → x < n ∧ y < n) (hD : drG B num (fun _ _ => True) D) (hC : chm D cnt 0 C) :
    ∀ (k x p : Nat), cnt - num x ≤ (k : Int) → H x p = true → num p ≠ num x → 1 + C (num p).toNat ≤ C (num x).toNat := by
  obtain ⟨k1, -, -, -⟩ := numC_in h
  intro k
  induction k with
  | zero =>
    intro x p hk hH _
    have := k1 x ((hc.1 x p).mp hH).1
    omega
  | succ k ih =>
    intro x p hk hH hne
    obtain ⟨hx, hp, q, hq⟩ := (hc.1 x p).mp hH
    obtain ⟨a, b, h1, h2, h3, h4⟩ := cross_out q p hq hne
    obtain ⟨ha, hb⟩ := hB a b h1
    have kx := k1 x hx
    have kb := k1 b hb
    have hab : H a b = true := (hc.1 a b).mpr ⟨ha, hb, rch_arc h1⟩
    have hlt := num_later hc h hab (by omega)
    have hd : D (num x).toNat (num b).toNat = true := (hD _ _).mpr ⟨a, b, h1, trivial, by omega, by omega, by omega⟩
    have h9 := (hC (num x).toNat (by omega) (by omega)).2.2.1 (num b).toNat (by omega) (by omega) hd
    by_cases z : num p = num b
    · rw [z]; exact h9
    · have h8 := ih b p (by omega) ((hc.1 b p).mpr ⟨hb, hp, h4⟩) z
      omega
theorem tie_chain {B : Nat → Nat → Bool} {n : Nat} {H K D : Nat → Nat → Bool} {num lst C C' : Nat → Int} {cnt v : Int} (hc : cl B n H K) (h : numC n H num lst cnt) (hB : ∀ x y, B x y = true → x < n ∧ y < n) (hD : drG B num (fun _ _ => True) D) (hv : 0 ≤ v)
    (h1 : chn H num lst cnt v C) (h2 : chm D cnt 0 C') : ∀ (k c : Nat), cnt - (c : Int) ≤ (k : Int) → v ≤ (c : Int) → (c : Int) < cnt → C c = C' c := by
  obtain ⟨k1, k2, -, -⟩ := numC_in h
  intro k
  induction k with
  | zero => intro c hk _ hcn; omega
  | succ k ih =>
    intro c hk hvc hcn
    obtain ⟨x, x1, x2, x3, -⟩ := h.1.2.2.2 c hcn
    obtain ⟨a1, -, a3, a4⟩ := h1 c hvc hcn
    obtain ⟨b1, -, b3, b4⟩ := h2 c (by omega) hcn
    rw [x2, Int.toNat_natCast] at a3 a4
    apply Int.le_antisymm
    · rcases a4 with a4 | ⟨p, p1, p2, p3⟩
      · omega
      · have hp := k1 p ((hc.1 x p).mp p1).2.1
        have e := ih (num p).toNat (by omega) (by omega) (by omega)
        have m := chm_mono hc h hB hD h2 cnt.toNat x p (by omega) p1 (by omega)
        rw [show (num x).toNat = c by omega] at m
        omega
    · rcases b4 with b4 | ⟨d, d1, d2, d3, d4⟩
      · omega
      · obtain ⟨a, b, g1, -, g3, g4, g5⟩ := (hD c d).mp d3
        obtain ⟨ha, hb⟩ := hB a b g1
        have hxa := (num_same h x1 ha).mp (by omega)
        have hxb : H x b = true := (hc.1 x b).mpr ⟨x1, hb, rch_trans ((hc.1 x a).mp hxa.1).2.2 (rch_arc g1)⟩
        have m := a3 b hxb (by omega)
        rw [show (num b).toNat = d by omega] at m
        have e := ih d (by omega) (by omega) d2
        omega
