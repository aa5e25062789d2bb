/-! what the reference knows of its clauses -/
theorem fai_keep {f g : Nat → Int} {N q : Nat} {z : Int} (h : fai f g N q z) (hz : 0 ≤ z) : fai f g N (q + 1) z := by
  rcases h with ⟨h1, -⟩ | ⟨j, j1, j2, j3, j4⟩
  · omega
  · exact Or.inr ⟨j, j1, by omega, j3, j4⟩
theorem fai_no {f g : Nat → Int} {N q : Nat} {z : Int} (h : fai f g N q z) (hz : z < 0) (hc : ¬ contra (stB f g (q + 1)) N) : fai f g N (q + 1) z := by
  rcases h with ⟨h1, h2⟩ | ⟨j, j1, j2, j3, j4⟩
  · refine Or.inl ⟨h1, fun j hj => ?_⟩
    by_cases w : j = q + 1
    · rw [w]; exact hc
    · exact h2 j (by omega)
  · omega
theorem fai_yes {f g : Nat → Int} {N q : Nat} {z : Int} (h : fai f g N q z) (hz : z < 0) (hc : contra (stB f g (q + 1)) N) : fai f g N (q + 1) ((q : Int) + 1) := by
  rcases h with ⟨h1, h2⟩ | ⟨j, j1, j2, j3, j4⟩
  · exact Or.inr ⟨q + 1, by omega, by omega, by push_cast; rfl, hc, fun i hi => h2 i (by omega)⟩
  · omega
theorem fai_rg {f g : Nat → Int} {N q : Nat} {z : Int} (h : fai f g N q z) : -1 ≤ z ∧ z ≤ q := by
  rcases h with ⟨h1, -⟩ | ⟨j, j1, j2, j3, -⟩ <;> omega
def mvI (Ld : Nat → Nat → Bool) (lt : Nat) (V : Nat → Int) (o v : Nat) : Int := if 2 * v + 1 < o ∧ Ld lt (2 * v + 1) = true then 0 else if 2 * v < o ∧ Ld lt (2 * v) = true then 1 else V v
theorem mvI_0 {Ld : Nat → Nat → Bool} {lt : Nat} {V : Nat → Int} {v : Nat} : mvI Ld lt V 0 v = V v := by unfold mvI; rw [if_neg (by omega), if_neg (by omega)]
theorem ite3 {P P' Q Q' : Prop} [Decidable P] [Decidable P'] [Decidable Q] [Decidable Q'] {x : Int} (h1 : P ↔ P') (h2 : Q ↔ Q') : (if P then (0 : Int) else if Q then 1 else x) = if P' then 0 else if Q' then 1 else x := by
  by_cases a : P'
  · rw [if_pos a, if_pos (h1.mpr a)]
  · rw [if_neg a, if_neg (mt h1.mp a)]
    by_cases b : Q'
    · rw [if_pos b, if_pos (h2.mpr b)]
    · rw [if_neg b, if_neg (mt h2.mp b)]
theorem lt_no {Ld : Nat → Nat → Bool} {lt o x : Nat} (h : Ld lt o = false) : (x < o + 1 ∧ Ld lt x = true) ↔ (x < o ∧ Ld lt x = true) := by
  constructor
  · rintro ⟨a, b⟩
    by_cases z : x = o
    · rw [z, h] at b; cases b
    · exact ⟨by omega, b⟩
  · rintro ⟨a, b⟩; exact ⟨by omega, b⟩
theorem mvI_no {Ld : Nat → Nat → Bool} {lt : Nat} {V : Nat → Int} {o : Nat} (h : Ld lt o = false) (v : Nat) : mvI Ld lt V (o + 1) v = mvI Ld lt V o v := ite3 (lt_no h) (lt_no h)
theorem mvI_yes {Ld : Nat → Nat → Bool} {lt : Nat} {V : Nat → Int} {o : Nat} (h : Ld lt o = true) (v : Nat) : mvI Ld lt V (o + 1) v = if v = o / 2 then 1 - ((o % 2 : Nat) : Int) else mvI Ld lt V o v := by
  unfold mvI
  by_cases z : 2 * v + 1 = o
  · rw [if_pos ⟨by omega, by rw [z]; exact h⟩, if_pos (by omega)]; omega
  · by_cases y : 2 * v = o
    · rw [if_neg (by omega), if_pos ⟨by omega, by rw [y]; exact h⟩, if_pos (by omega)]; omega
    · rw [if_neg (show ¬ v = o / 2 by omega)]
      exact ite3 ⟨fun q => ⟨by omega, q.2⟩, fun q => ⟨by omega, q.2⟩⟩ ⟨fun q => ⟨by omega, q.2⟩, fun q => ⟨by omega, q.2⟩⟩
/-- the literal that a variable is given -/
def mli (Ld : Nat → Nat → Bool) (t : Nat) : Nat := if Ld (2 * t + 1) (2 * t) = true then 2 * t else 2 * t + 1
def mvS (Ld : Nat → Nat → Bool) (nv : Nat) : Nat → Nat → Int
  | 0 => fun _ => -1
  | t + 1 => if mvS Ld nv t t = -1 then mvI Ld (mli Ld t) (mvS Ld nv t) (2 * nv) else mvS Ld nv t
theorem mvI_congr {Ld : Nat → Nat → Bool} {lt : Nat} {V W : Nat → Int} {o v : Nat} (h : V v = W v) : mvI Ld lt V o v = mvI Ld lt W o v := by unfold mvI; rw [h]
/-- what the reference knows of its clauses -/
def mC (nv mm : Int) (f1 f2 : Nat → Int) (S Ld : Nat → Nat → Bool) (V : Nat → Int) (gd : Bool) (fl : Int) : Prop :=
  S = stB (fun j => ptO (f1 j)) (fun j => ptO (f2 j)) mm.toNat ∧ ldR S (2 * nv).toNat Ld ∧ fai (fun j => ptO (f1 j)) (fun j => ptO (f2 j)) (2 * nv).toNat mm.toNat fl ∧ gd = decide (fl < 0) ∧
  (gd = true → ∀ v, v < nv.toNat → V v = mvS Ld nv.toNat nv.toNat v)
theorem diag {j : Nat} (h : j < 25600) : decide (j % 161 = 0) = fz (fun x y => decide (x = y)) j := by
  unfold fz
  show decide (j % 161 = 0) = decide (j / 160 = j % 160)
  by_cases z : j % 161 = 0
  · rw [decide_eq_true z, decide_eq_true (by omega)]
  · rw [decide_eq_false z, decide_eq_false (by omega)]
theorem ldR_0 {N : Nat} : ldR (fun _ _ => false) N (fun x y => decide (x = y)) := fun x y hx hy => by
  have h := (cl_id N).1 x y
  unfold idB at h
  constructor
  · intro q; rw [show x = y from of_decide_eq_true q]; exact rch_refl _ _
  · rintro ⟨q, hq⟩
    cases q with
    | zero => exact decide_eq_true hq
    | succ q => obtain ⟨c, -, hc⟩ := hq; cases hc
