/-! the reference's numbering and its drawing of the parts -/
def rsN (n : Nat) (H : Nat → Nat → Bool) : Nat → Nat → Bool := fun x y => decide (x < n ∧ y < n) && H x y
theorem rsN_in {n : Nat} {H : Nat → Nat → Bool} {x y : Nat} (hx : x < n) (hy : y < n) : rsN n H x y = H x y := by unfold rsN; rw [decide_eq_true ⟨hx, hy⟩, Bool.true_and]
theorem rsN_cl {n : Nat} {B T : Nat → Nat → Bool} (hB : ∀ x y, B x y = true → x < n ∧ y < n) {R : Nat → Nat → Bool} (hR : ∀ x y, x < n → y < n → R x y = (decide (x = y) || B x y)) (h : wrs n R T n) : cl B n (rsN n T) (fun x y => rsN n T y x) := by
  have e := wrs_cl h (fun x hx => by rw [hR x x hx hx]; simp)
  refine ⟨fun x y => ?_, fun _ _ => rfl⟩
  unfold rsN
  rw [Bool.and_eq_true, decide_eq_true_iff]
  constructor
  · rintro ⟨⟨hx, hy⟩, ht⟩
    refine ⟨hx, hy, ?_⟩
    obtain ⟨k, hk⟩ := (e x y hx hy).mp ht
    clear ht
    have key : ∀ k y, wk (fun a b => decide (a < n ∧ b < n) && R a b) k x y → rch B x y := by
      intro k
      induction k with
      | zero => intro y hk; rw [← (show x = y from hk)]; exact rch_refl _ _
      | succ k ih =>
        rintro y ⟨c, h1, h2⟩
        have q := ih c h1
        simp at h2
        rw [hR c y h2.1.1 h2.1.2] at h2
        simp at h2
        rcases h2.2 with z | z
        · subst z; exact q
        · exact rch_trans q (rch_arc z)
    exact key k y hk
  · rintro ⟨hx, hy, hr⟩
    refine ⟨⟨hx, hy⟩, (e x y hx hy).mpr (rch_mono (fun a b hb => ?_) hr)⟩
    have := hB a b hb
    show (decide (a < n ∧ b < n) && R a b) = true
    rw [decide_eq_true this, hR a b this.1 this.2, hb]; simp
theorem hld_rs {n : Nat} {H : Nat → Nat → Bool} {num : Nat → Int} {a : Nat} (ha : a < n) : cN (hld (rsN n H) num a) n = cN (hld H num a) n := cN_congr n (fun b hb => by unfold hld; rw [rsN_in hb ha, rsN_in ha hb])
/-- the knot of x below i gets a number -/
def mkN (H : Nat → Nat → Bool) (x : Nat) (mn : Int) (Nb : Nat → Int) (i : Nat) : Nat → Int := fun a => if (decide (a < i) && (H a x && H x a)) = true then mn else Nb a
theorem mkN_0 {H : Nat → Nat → Bool} {x : Nat} {mn : Int} {Nb : Nat → Int} : mkN H x mn Nb 0 = Nb := by funext a; unfold mkN; simp
theorem mkN_yes {H : Nat → Nat → Bool} {x i : Nat} {mn : Int} {Nb : Nat → Int} (h : (H i x && H x i) = true) : va_up (mkN H x mn Nb i) i mn = mkN H x mn Nb (i + 1) := by
  funext a
  unfold va_up mkN
  by_cases z : a = i
  · subst z; rw [if_pos rfl, if_pos (by rw [h]; simp)]
  · rw [if_neg z]
    by_cases w : a < i
    · simp [w, show a < i + 1 by omega]
    · simp [w, show ¬ a < i + 1 by omega]
theorem mkN_no {H : Nat → Nat → Bool} {x i : Nat} {mn : Int} {Nb : Nat → Int} (h : (H i x && H x i) = false) : mkN H x mn Nb (i + 1) = mkN H x mn Nb i := by
  funext a
  unfold mkN
  by_cases z : a = i
  · subst z; rw [h]; simp
  · by_cases w : a < i
    · simp [w, show a < i + 1 by omega]
    · simp [w, show ¬ a < i + 1 by omega]
/-- a turn of the reference's numbering -/
theorem mturn {B : Nat → Nat → Bool} {n : Nat} {H K : Nat → Nat → Bool} {num lst : Nat → Int} {cnt : Int} {x : Nat} (h : cl B n (rsN n H) K) (hP : numP n (rsN n H) num lst cnt) (hx : x < n) (hx1 : num x = -1) (hx2 : cN (hld H num x) n = 0) (hmin : ∀ a, a < x → ¬ (num a = -1 ∧ cN (hld H num a) n = 0)) :
    numP n (rsN n H) (mkN H x cnt num n) (va_up lst cnt.toNat (x : Int)) (cnt + 1) ∧ (cN (fun a => decide (num a = -1)) n : Int) - (cN (fun a => H a x && H x a) n : Int) = (cN (fun a => decide (mkN H x cnt num n a = -1)) n : Int) ∧ 1 ≤ cN (fun a => H a x && H x a) n := by
  have hR := cl_rfl2 h
  have e : ∀ a, a < n → mkN H x cnt num n a = nst (rsN n H) num x cnt a := fun a ha => by
    unfold mkN nst
    rw [decide_eq_true ha, Bool.true_and, rsN_in ha hx, rsN_in hx ha]
    cases H a x <;> cases H x a <;> simp
  refine ⟨numP_step hR hP hx hx1 (by rw [hld_rs hx]; exact hx2) (fun a ha => by rw [hld_rs (by omega)]; exact hmin a ha) e, ?_, ?_⟩
  · have h1 := cN_part (fun a => decide (num a = -1)) (fun a => H a x && H x a) n
    have h2 : cN (fun a => decide (num a = -1) && (H a x && H x a)) n = cN (fun a => H a x && H x a) n := cN_congr n (fun a ha => by
      cases q : (H a x && H x a) with
      | false => simp
      | true =>
        simp at q
        have : num a = -1 := by
          cases hP.2.1 a ha with
          | inl w => exact w
          | inr w =>
            have := (hP.2.2.1 a x ha hx (by omega)).mpr ⟨by rw [rsN_in ha hx]; exact q.1, by rw [rsN_in hx ha]; exact q.2⟩
            omega
        simp [this])
    have h3 : cN (fun a => decide (num a = -1) && !(H a x && H x a)) n = cN (fun a => decide (mkN H x cnt num n a = -1)) n := cN_congr n (fun a ha => by
      have hc := hP.1
      show (decide (num a = -1) && !(H a x && H x a)) = decide (mkN H x cnt num n a = -1)
      unfold mkN
      rw [decide_eq_true ha, Bool.true_and]
      cases q : (H a x && H x a) with
      | false => simp
      | true => simp; omega)
    have h1' : cN (fun a => decide (num a = -1)) n = cN (fun a => decide (num a = -1) && (H a x && H x a)) n + cN (fun a => decide (num a = -1) && !(H a x && H x a)) n := h1
    omega
  · have := cN_strict (g := fun a => H a x && H x a) hx (by have := hR.1 x hx; rw [rsN_in hx hx] at this; show (H x x && H x x) = true; rw [this]; rfl)
    omega
theorem least_rdy {B : Nat → Nat → Bool} {n : Nat} {H K : Nat → Nat → Bool} {num : Nat → Int} (h : cl B n (rsN n H) K) (hun : cN (fun a => decide (num a = -1)) n ≠ 0) : ∃ x, x < n ∧ num x = -1 ∧ cN (hld H num x) n = 0 ∧ ∀ a, a < x → ¬ (num a = -1 ∧ cN (hld H num a) n = 0) := by
  obtain ⟨a, a1, a2, -⟩ := cN_at (fun a => decide (num a = -1)) n 0 (by omega)
  obtain ⟨y, y1, y2, y3⟩ := num_next (cl_rfl2 h) (cN (hld (rsN n H) num a) n) a (Nat.le_refl _) a1 (of_decide_eq_true a2)
  rw [hld_rs y1] at y3
  have key : ∀ k, k < n → (num k = -1 ∧ cN (hld H num k) n = 0) → ∃ x, x < n ∧ num x = -1 ∧ cN (hld H num x) n = 0 ∧ ∀ a, a < x → ¬ (num a = -1 ∧ cN (hld H num a) n = 0) := by
    intro k
    induction k using Nat.strongRecOn with
    | ind k ih =>
      intro hk hr
      by_cases z : ∃ j, j < k ∧ (num j = -1 ∧ cN (hld H num j) n = 0)
      · obtain ⟨j, j1, j2⟩ := z; exact ih j j1 (by omega) j2
      · exact ⟨k, hk, hr.1, hr.2, fun a ha q => z ⟨a, ha, q⟩⟩
  exact key y y1 ⟨y2, y3⟩
/-- the reference's least nodes, drawn from the last node down to i -/
def drL (n : Nat) (num : Nat → Int) (i : Int) (Ls : Nat → Int) : Prop := ∀ a : Nat, i < (a : Int) → a < n → (∃ y : Nat, i < (y : Int) ∧ y < n ∧ Ls (num a).toNat = (y : Int) ∧ num y = num a) ∧ Ls (num a).toNat ≤ (a : Int)
def drG (B : Nat → Nat → Bool) (num : Nat → Int) (P : Nat → Nat → Prop) (D : Nat → Nat → Bool) : Prop := ∀ c d : Nat, D c d = true ↔ ∃ a b, B a b = true ∧ P a b ∧ num a ≠ num b ∧ num a = (c : Int) ∧ num b = (d : Int)
theorem drL_step {n : Nat} {num : Nat → Int} {i : Int} {Ls : Nat → Int} (h : drL n num i Ls) (hi : 0 ≤ i) (hin : i < n) (hN : ∀ a, a < n → 0 ≤ num a) : drL n num (i - 1) (va_up Ls (num i.toNat).toNat i) := fun a h1 h2 => by
  have hin' : i.toNat < n := by omega
  unfold va_up
  by_cases z : (num a).toNat = (num i.toNat).toNat
  · have e : num a = num i.toNat := by have := hN a h2; have := hN i.toNat hin'; omega
    rw [if_pos z]
    exact ⟨⟨i.toNat, by omega, hin', by omega, e.symm⟩, by omega⟩
  · rw [if_neg z]
    have hai : i < (a : Int) := by
      by_cases w : a = i.toNat
      · subst w; exact absurd rfl z
      · omega
    obtain ⟨⟨y, y1, y2, y3, y4⟩, y5⟩ := h a hai h2
    exact ⟨⟨y, by omega, y2, y3, y4⟩, y5⟩
theorem drL_num {n : Nat} {H : Nat → Nat → Bool} {num lst Ls : Nat → Int} {cnt : Int} (h : numC n H num lst cnt) (hL : drL n num (-1) Ls) : numC n H num Ls cnt := by
  refine ⟨⟨h.1.1, h.1.2.1, h.1.2.2.1, fun c hc => ?_⟩, h.2⟩
  obtain ⟨x, x1, x2, x3, x4, x5, x6⟩ := h.1.2.2.2 c hc
  obtain ⟨⟨y, y1, y2, y3, y4⟩, y5⟩ := hL x (by omega) x1
  rw [x3, show ((c : Int)).toNat = c from rfl] at y3 y5
  have hy := x4 y y2 (by omega)
  refine ⟨x, x1, by omega, x3, x4, x5, x6⟩
theorem drG_0 {B : Nat → Nat → Bool} {num : Nat → Int} {P : Nat → Nat → Prop} (hP : ∀ a b, B a b = true → ¬ P a b) : drG B num P (fun _ _ => false) := fun c d => by
  constructor
  · intro h; cases h
  · rintro ⟨a, b, h1, h2, -⟩; exact absurd h2 (hP a b h1)
theorem drG_congr {B : Nat → Nat → Bool} {num : Nat → Int} {P P' : Nat → Nat → Prop} {D : Nat → Nat → Bool} (h : drG B num P D) (e : ∀ a b, B a b = true → num a ≠ num b → (P a b ↔ P' a b)) : drG B num P' D := fun c d => by
  rw [h c d]
  constructor
  · rintro ⟨a, b, h1, h2, h3, h4⟩; exact ⟨a, b, h1, (e a b h1 h3).mp h2, h3, h4⟩
  · rintro ⟨a, b, h1, h2, h3, h4⟩; exact ⟨a, b, h1, (e a b h1 h3).mpr h2, h3, h4⟩
theorem drG_put {B : Nat → Nat → Bool} {num : Nat → Int} {P : Nat → Nat → Prop} {D : Nat → Nat → Bool} {u v : Nat} (h : drG B num P D) (hb : B u v = true) (hne : num u ≠ num v) (hu : 0 ≤ num u) (hv : 0 ≤ num v) : drG B num (fun a b => P a b ∨ (a = u ∧ b = v)) (bP D (num u).toNat (num v).toNat true) := fun c d => by
  rw [bP_iff, h c d]
  constructor
  · rintro (⟨h1, h2⟩ | ⟨a, b, h1, h2, h3⟩)
    · exact ⟨u, v, hb, Or.inr ⟨rfl, rfl⟩, hne, by omega, by omega⟩
    · exact ⟨a, b, h1, Or.inl h2, h3⟩
  · rintro ⟨a, b, h1, h2 | ⟨rfl, rfl⟩, h3, h4, h5⟩
    · exact Or.inr ⟨a, b, h1, h2, h3, h4, h5⟩
    · exact Or.inl ⟨by omega, by omega⟩
/-- the longest chain by arcs between parts -/
def chm (D : Nat → Nat → Bool) (cnt lo : Int) (C : Nat → Int) : Prop := ∀ c : Nat, lo ≤ c → (c : Int) < cnt →
  1 ≤ C c ∧ C c ≤ cnt - c ∧ (∀ d : Nat, c < d → (d : Int) < cnt → D c d = true → 1 + C d ≤ C c) ∧ (C c = 1 ∨ ∃ d : Nat, c < d ∧ (d : Int) < cnt ∧ D c d = true ∧ C c = 1 + C d)
def chr (D : Nat → Nat → Bool) (cnt : Int) (c : Nat) (j : Int) (C : Nat → Int) : Prop :=
  1 ≤ C c ∧ C c ≤ cnt - c ∧ (∀ d : Nat, c < d → (d : Int) < j → D c d = true → 1 + C d ≤ C c) ∧ (C c = 1 ∨ ∃ d : Nat, c < d ∧ (d : Int) < cnt ∧ D c d = true ∧ C c = 1 + C d)
theorem chm_up {D : Nat → Nat → Bool} {cnt : Int} {a : Nat} {z : Int} {C : Nat → Int} (h : chm D cnt (a + 1) C) : chm D cnt (a + 1) (va_up C a z) := fun c h1 h2 => by
  obtain ⟨g1, g2, g3, g4⟩ := h c h1 h2
  have e : ∀ d : Nat, c ≤ d → va_up C a z d = C d := fun d hd => va_up_ne _ _ (by omega)
  rw [e c (Nat.le_refl _)]
  refine ⟨g1, g2, fun d q1 q2 q3 => by rw [e d (by omega)]; exact g3 d q1 q2 q3, ?_⟩
  rcases g4 with g4 | ⟨d, q1, q2, q3, q4⟩
  · exact Or.inl g4
  · exact Or.inr ⟨d, q1, q2, q3, by rw [e d (by omega)]; exact q4⟩
theorem chr_keep {D : Nat → Nat → Bool} {cnt : Int} {c : Nat} {j : Int} {C : Nat → Int} (h : chr D cnt c j C) (hj : ∀ d : Nat, (d : Int) = j → c < d → D c d = true → 1 + C d ≤ C c) : chr D cnt c (j + 1) (va_up C c (C c)) := by
  have e : va_up C c (C c) = C := by funext x; unfold va_up; split; rename_i q; rw [q]; rfl
  rw [e]
  exact ⟨h.1, h.2.1, fun d q1 q2 q3 => by
    by_cases z : (d : Int) = j
    · exact hj d z q1 q3
    · exact h.2.2.1 d q1 (by omega) q3, h.2.2.2⟩
theorem chr_put {D : Nat → Nat → Bool} {cnt : Int} {c : Nat} {j : Int} {C : Nat → Int} (hm : chm D cnt (c + 1) C) (h : chr D cnt c j C) (hc : (c : Int) < j) (hj : j < cnt) (hD : D c j.toNat = true) (hge : C c ≤ C j.toNat) : chr D cnt c (j + 1) (va_up C c (C j.toNat + 1)) := by
  obtain ⟨f1, f2, -, -⟩ := hm j.toNat (by omega) (by omega)
  have e : ∀ d : Nat, c < d → va_up C c (C j.toNat + 1) d = C d := fun d hd => va_up_ne _ _ (by omega)
  refine ⟨by rw [va_up_self]; omega, by rw [va_up_self]; omega, fun d q1 q2 q3 => ?_, Or.inr ⟨j.toNat, by omega, by omega, hD, by rw [va_up_self, e _ (by omega)]; omega⟩⟩
  rw [va_up_self, e d q1]
  by_cases z : (d : Int) = j
  · have : d = j.toNat := by omega
    subst this; omega
  · have := h.2.2.1 d q1 (by omega) q3; omega
