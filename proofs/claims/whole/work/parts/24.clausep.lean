/-! clauses: opposites, steps, contradictions -/
def opp (p : Nat) : Nat := if p % 2 = 0 then p + 1 else p - 1
theorem opp_opp (p : Nat) : opp (opp p) = p := by unfold opp; split <;> split <;> omega
theorem opp_lt {p n : Nat} (h : p < 2 * n) : opp p < 2 * n := by unfold opp; split <;> omega
theorem opp_ne (p : Nat) : opp p ≠ p := by unfold opp; split <;> omega
theorem opp_inj {p q : Nat} (h : opp p = opp q) : p = q := by rw [← opp_opp p, h, opp_opp]
set_option maxRecDepth 100000 in
theorem xor1 : ∀ k : Nat, k < 160 → iI (k : Int) ^^^ iI 1 = iI (opp k : Int) := by decide +kernel
theorem xorI {u : Int} (h : 0 ≤ u ∧ u < 160) : iI u ^^^ iI 1 = iI (opp u.toNat : Int) := by
  have := xor1 u.toNat (by omega)
  rwa [show ((u.toNat : Nat) : Int) = u by omega] at this
/-- the steps of the first k clauses -/
def stB (f1 f2 : Nat → Int) : Nat → Nat → Nat → Bool
  | 0 => fun _ _ => false
  | k + 1 => bP (bP (stB f1 f2 k) (opp (f1 k).toNat) (f2 k).toNat true) (opp (f2 k).toNat) (f1 k).toNat true
theorem stB_congr {f1 f2 g1 g2 : Nat → Int} : ∀ k, (∀ j, j < k → f1 j = g1 j ∧ f2 j = g2 j) → stB f1 f2 k = stB g1 g2 k
  | 0, _ => rfl
  | k + 1, h => by
    unfold stB
    rw [stB_congr k (fun j hj => h j (by omega)), (h k (by omega)).1, (h k (by omega)).2]
theorem bP_iff {B : Nat → Nat → Bool} {u v x y : Nat} : bP B u v true x y = true ↔ ((x = u ∧ y = v) ∨ B x y = true) := by
  unfold bP
  by_cases z : x = u ∧ y = v
  · rw [if_pos z]; exact ⟨fun _ => Or.inl z, fun _ => rfl⟩
  · rw [if_neg z]; exact ⟨Or.inr, fun h => h.elim (fun w => absurd w z) id⟩
theorem stB_skew {f1 f2 : Nat → Int} : ∀ k x y, stB f1 f2 k x y = true → stB f1 f2 k (opp y) (opp x) = true
  | 0, _, _, h => by cases h
  | k + 1, x, y, h => by
    unfold stB at h ⊢
    rw [bP_iff, bP_iff] at h ⊢
    rcases h with ⟨h1, h2⟩ | ⟨h1, h2⟩ | h
    · right; left
      exact ⟨by rw [h2], by rw [h1, opp_opp]⟩
    · left
      exact ⟨by rw [h2], by rw [h1, opp_opp]⟩
    · exact Or.inr (Or.inr (stB_skew k x y h))
theorem rch_skew {S : Nat → Nat → Bool} (hs : ∀ x y, S x y = true → S (opp y) (opp x) = true) {x y : Nat} (h : rch S x y) : rch S (opp y) (opp x) := by
  obtain ⟨k, h⟩ := h
  induction k generalizing y with
  | zero => rw [show x = y from h]; exact rch_refl _ _
  | succ k ih =>
    obtain ⟨c, h1, h2⟩ := h
    exact rch_trans (rch_arc (hs _ _ h2)) (ih h1)
theorem stB_lt {f1 f2 : Nat → Int} {n : Nat} : ∀ k, (∀ j, j < k → 0 ≤ f1 j ∧ f1 j < 2 * n ∧ 0 ≤ f2 j ∧ f2 j < 2 * n) → ∀ x y, stB f1 f2 k x y = true → x < 2 * n ∧ y < 2 * n
  | 0, _, _, _, h => by cases h
  | k + 1, hf, x, y, h => by
    have h0 := hf k (by omega)
    unfold stB at h
    rw [bP_iff, bP_iff] at h
    rcases h with ⟨h1, h2⟩ | ⟨h1, h2⟩ | h
    · rw [h1, h2]; exact ⟨opp_lt (by omega), by omega⟩
    · rw [h1, h2]; exact ⟨opp_lt (by omega), by omega⟩
    · exact stB_lt k (fun j hj => hf j (by omega)) x y h
theorem stB_mono {f1 f2 : Nat → Int} {k : Nat} : ∀ x y, stB f1 f2 k x y = true → stB f1 f2 (k + 1) x y = true := fun x y h => by
  unfold stB; rw [bP_iff, bP_iff]; exact Or.inr (Or.inr h)
def contra (S : Nat → Nat → Bool) (N : Nat) : Prop := ∃ p, p < N ∧ rch S p (opp p) ∧ rch S (opp p) p
theorem contra_mono {S T : Nat → Nat → Bool} {N : Nat} (h : ∀ x y, S x y = true → T x y = true) (hc : contra S N) : contra T N := by
  obtain ⟨p, h1, h2, h3⟩ := hc; exact ⟨p, h1, rch_mono h h2, rch_mono h h3⟩
theorem contra_le {f1 f2 : Nat → Int} {N i : Nat} : ∀ j, i ≤ j → contra (stB f1 f2 i) N → contra (stB f1 f2 j) N := by
  intro j
  induction j with
  | zero => intro h hc; rw [show i = 0 by omega] at hc; exact hc
  | succ j ih =>
    intro h hc
    by_cases z : i = j + 1
    · rw [← z]; exact hc
    · exact contra_mono stB_mono (ih (by omega) hc)
/-- what two steps more make reachable goes over one of them -/
theorem rch_two {S : Nat → Nat → Bool} {a b c d x y : Nat} (h : rch (bP (bP S a b true) c d true) x y) : rch S x y ∨ (rch (bP (bP S a b true) c d true) x a ∧ rch (bP (bP S a b true) c d true) b y) ∨ (rch (bP (bP S a b true) c d true) x c ∧ rch (bP (bP S a b true) c d true) d y) := by
  have m1 : ∀ {u v}, rch S u v → rch (bP (bP S a b true) c d true) u v := fun q => rch_mono bP_sub (rch_mono bP_sub q)
  have m2 : ∀ {u v}, rch (bP S a b true) u v → rch (bP (bP S a b true) c d true) u v := fun q => rch_mono bP_sub q
  rcases rch_add.mp h with h | ⟨h1, h2⟩
  · rcases rch_add.mp h with h | ⟨h1, h2⟩
    · exact Or.inl h
    · exact Or.inr (Or.inl ⟨m1 h1, m1 h2⟩)
  · exact Or.inr (Or.inr ⟨m2 h1, m2 h2⟩)
/-- the first contradiction is one of the clause's own literals -/
theorem contra_new {S : Nat → Nat → Bool} {N a b : Nat} (hsk : ∀ x y, bP (bP S (opp a) b true) (opp b) a true x y = true → bP (bP S (opp a) b true) (opp b) a true (opp y) (opp x) = true) (hn : ¬ contra S N) (hc : contra (bP (bP S (opp a) b true) (opp b) a true) N) :
    rch (bP (bP S (opp a) b true) (opp b) a true) a (opp a) ∧ rch (bP (bP S (opp a) b true) (opp b) a true) (opp a) a := by
  obtain ⟨p, hp, h1, h2⟩ := hc
  have stepA : bP (bP S (opp a) b true) (opp b) a true (opp a) b = true := bP_iff.mpr (Or.inr (bP_iff.mpr (Or.inl ⟨rfl, rfl⟩)))
  have stepB : bP (bP S (opp a) b true) (opp b) a true (opp b) a = true := bP_iff.mpr (Or.inl ⟨rfl, rfl⟩)
  generalize hT : bP (bP S (opp a) b true) (opp b) a true = T at *
  -- a or its opposite in the knot of p, or of its opposite
  have key : ∀ q, rch T q (opp q) → rch T (opp q) q → (rch T q (opp a) ∧ rch T b (opp q)) ∨ (rch T q (opp b) ∧ rch T a (opp q)) → rch T a (opp a) ∧ rch T (opp a) a := by
    intro q e1 e2 e
    rcases e with ⟨e3, e4⟩ | ⟨e3, e4⟩
    · -- opp a ~ q
      have f1 : rch T (opp a) q := rch_trans (rch_arc stepA) (rch_trans e4 e2)
      have g1 := rch_skew hsk e3   -- opp (opp a) -> opp q
      have g2 := rch_skew hsk f1   -- opp q -> opp (opp a)
      rw [opp_opp] at g1 g2
      exact ⟨rch_trans g1 (rch_trans e2 e3), rch_trans f1 (rch_trans e1 g2)⟩
    · -- a ~ opp q
      have f1 : rch T (opp q) a := rch_trans e2 (rch_trans e3 (rch_arc stepB))
      have g1 := rch_skew hsk e4
      have g2 := rch_skew hsk f1
      rw [opp_opp] at g1 g2
      exact ⟨rch_trans e4 (rch_trans e2 g1), rch_trans g2 (rch_trans e1 f1)⟩
  by_cases z : rch S p (opp p)
  · by_cases w : rch S (opp p) p
    · exact absurd ⟨p, hp, z, w⟩ hn
    · have h3 : rch T (opp p) (opp (opp p)) := by rw [opp_opp]; exact h2
      have h4 : rch T (opp (opp p)) (opp p) := by rw [opp_opp]; exact h1
      refine key (opp p) h3 h4 ?_
      have := h2
      rw [← hT] at this
      rcases rch_two this with q | q | q
      · exact absurd q w
      · left; rw [hT] at q; rw [opp_opp]; exact q
      · right; rw [hT] at q; rw [opp_opp]; exact q
  · refine key p h1 h2 ?_
    have := h1
    rw [← hT] at this
    rcases rch_two this with q | q | q
    · exact absurd q z
    · left; rw [hT] at q; exact q
    · right; rw [hT] at q; exact q
/-- with how many clauses there is first a contradiction, or -1 -/
def fai (f1 f2 : Nat → Int) (N k : Nat) (z : Int) : Prop := (z = -1 ∧ ∀ j, j ≤ k → ¬ contra (stB f1 f2 j) N) ∨ ∃ j : Nat, 1 ≤ j ∧ j ≤ k ∧ z = (j : Int) ∧ contra (stB f1 f2 j) N ∧ ∀ i, i < j → ¬ contra (stB f1 f2 i) N
theorem contra_0 {f1 f2 : Nat → Int} {N : Nat} : ¬ contra (stB f1 f2 0) N := by
  rintro ⟨p, -, ⟨k, h⟩, -⟩
  cases k with
  | zero => exact opp_ne p (show p = opp p from h).symm
  | succ k => obtain ⟨c, -, h2⟩ := h; cases h2
theorem fai_0 {f1 f2 : Nat → Int} {N : Nat} : fai f1 f2 N 0 (-1) := Or.inl ⟨rfl, fun j hj => by rw [show j = 0 by omega]; exact contra_0⟩
theorem fai_uniq {f1 f2 : Nat → Int} {N k : Nat} {z z' : Int} (h : fai f1 f2 N k z) (h' : fai f1 f2 N k z') : z = z' := by
  rcases h with ⟨h1, h2⟩ | ⟨j, h1, h2, h3, h4, h5⟩ <;> rcases h' with ⟨g1, g2⟩ | ⟨i, g1, g2, g3, g4, g5⟩
  · omega
  · exact absurd g4 (h2 i g2)
  · exact absurd h4 (g2 j h2)
  · rcases Nat.lt_trichotomy i j with q | q | q
    · exact absurd g4 (h5 i q)
    · omega
    · exact absurd h4 (g5 j q)
/-- the row's own state -/
def rowI (nv : Nat) (f1 f2 : Nat → Int) (m tk fl : Int) (T H K : Nat → Nat → Bool) : Prop :=
  (1 ≤ nv ∧ nv ≤ 80) ∧ (0 ≤ tk ∧ tk ≤ m ∧ m ≤ 400) ∧ (∀ j : Nat, (j : Int) < m → 0 ≤ f1 j ∧ f1 j < 2 * nv ∧ 0 ≤ f2 j ∧ f2 j < 2 * nv) ∧ T = stB f1 f2 tk.toNat ∧ fai f1 f2 (2 * nv) tk.toNat fl ∧ cl (stB f1 f2 (if fl = -1 then tk.toNat else fl.toNat)) (2 * nv) H K
theorem row_0 {nv : Nat} {f1 f2 : Nat → Int} {m : Int} (hn : 1 ≤ nv ∧ nv ≤ 80) (hm : 0 ≤ m ∧ m ≤ 400) (hf : ∀ j : Nat, (j : Int) < m → 0 ≤ f1 j ∧ f1 j < 2 * nv ∧ 0 ≤ f2 j ∧ f2 j < 2 * nv) : rowI nv f1 f2 m 0 (-1) (fun _ _ => false) (idB (2 * nv)) (idB (2 * nv)) :=
  ⟨hn, by omega, hf, rfl, fai_0, cl_id _⟩
/-- one clause more is taken in, where there was a contradiction before -/
theorem row_old {nv : Nat} {f1 f2 : Nat → Int} {m tk fl : Int} {T H K : Nat → Nat → Bool} (h : rowI nv f1 f2 m tk fl T H K) (hlt : tk < m) (hne : fl ≠ -1) : rowI nv f1 f2 m (tk + 1) fl (bP (bP T (opp (f1 tk.toNat).toNat) (f2 tk.toNat).toNat true) (opp (f2 tk.toNat).toNat) (f1 tk.toNat).toNat true) H K := by
  obtain ⟨h1, h2, h3, h4, h5, h6⟩ := h
  have e : (tk + 1).toNat = tk.toNat + 1 := by omega
  refine ⟨h1, by omega, h3, by rw [h4, e]; rfl, ?_, by rw [if_neg hne] at h6 ⊢; exact h6⟩
  rw [e]
  rcases h5 with ⟨g1, -⟩ | ⟨j, g1, g2, g3⟩
  · exact absurd g1 hne
  · exact Or.inr ⟨j, g1, by omega, g3⟩
/-- .. where there was none -/
theorem row_new {nv : Nat} {f1 f2 : Nat → Int} {m tk : Int} {T H K : Nat → Nat → Bool} (h : rowI nv f1 f2 m tk (-1) T H K) (hlt : tk < m) {H2 K2 : Nat → Nat → Bool}
    (hH : H2 = ldA (ldA H K (opp (f1 tk.toNat).toNat) (f2 tk.toNat).toNat) (ldB H K (opp (f1 tk.toNat).toNat) (f2 tk.toNat).toNat) (opp (f2 tk.toNat).toNat) (f1 tk.toNat).toNat)
    (hK : K2 = ldB (ldA H K (opp (f1 tk.toNat).toNat) (f2 tk.toNat).toNat) (ldB H K (opp (f1 tk.toNat).toNat) (f2 tk.toNat).toNat) (opp (f2 tk.toNat).toNat) (f1 tk.toNat).toNat) (fl : Int)
    (hfl : ((H2 (f1 tk.toNat).toNat (opp (f1 tk.toNat).toNat) && K2 (f1 tk.toNat).toNat (opp (f1 tk.toNat).toNat)) = true → fl = tk + 1) ∧ ((H2 (f1 tk.toNat).toNat (opp (f1 tk.toNat).toNat) && K2 (f1 tk.toNat).toNat (opp (f1 tk.toNat).toNat)) = false → fl = -1)) :
    rowI nv f1 f2 m (tk + 1) fl (bP (bP T (opp (f1 tk.toNat).toNat) (f2 tk.toNat).toNat true) (opp (f2 tk.toNat).toNat) (f1 tk.toNat).toNat true) H2 K2 := by
  obtain ⟨h1, h2, h3, h4, h5, h6⟩ := h
  have e : (tk + 1).toNat = tk.toNat + 1 := by omega
  have hf := h3 tk.toNat (by omega)
  rw [if_pos rfl] at h6
  have c1 := cl_lead h6 (u := opp (f1 tk.toNat).toNat) (v := (f2 tk.toNat).toNat) (opp_lt (by omega)) (by omega)
  have c2 := cl_lead c1 (u := opp (f2 tk.toNat).toNat) (v := (f1 tk.toNat).toNat) (opp_lt (by omega)) (by omega)
  rw [← hH, ← hK] at c2
  have c3 : cl (stB f1 f2 (tk.toNat + 1)) (2 * nv) H2 K2 := c2
  have hno : ∀ j, j ≤ tk.toNat → ¬ contra (stB f1 f2 j) (2 * nv) := by
    rcases h5 with ⟨-, g⟩ | ⟨j, g1, -, g3, -⟩
    · exact g
    · omega
  have hiff : (H2 (f1 tk.toNat).toNat (opp (f1 tk.toNat).toNat) && K2 (f1 tk.toNat).toNat (opp (f1 tk.toNat).toNat)) = true ↔ contra (stB f1 f2 (tk.toNat + 1)) (2 * nv) := by
    rw [Bool.and_eq_true, c3.2, c3.1, c3.1]
    constructor
    · rintro ⟨⟨q1, q2, q3⟩, -, -, q4⟩; exact ⟨_, q1, q3, q4⟩
    · intro hc
      have := contra_new (S := stB f1 f2 tk.toNat) (N := 2 * nv) (a := (f1 tk.toNat).toNat) (b := (f2 tk.toNat).toNat) (stB_skew (f1 := f1) (f2 := f2) (tk.toNat + 1)) (hno _ (Nat.le_refl _)) hc
      have q : (f1 tk.toNat).toNat < 2 * nv := by omega
      exact ⟨⟨q, opp_lt q, this.1⟩, opp_lt q, q, this.2⟩
  refine ⟨h1, by omega, h3, by rw [h4, e]; rfl, ?_, ?_⟩
  · rw [e]
    cases hb : (H2 (f1 tk.toNat).toNat (opp (f1 tk.toNat).toNat) && K2 (f1 tk.toNat).toNat (opp (f1 tk.toNat).toNat)) with
    | true => exact Or.inr ⟨tk.toNat + 1, by omega, by omega, by rw [hfl.1 hb]; omega, hiff.mp hb, fun i hi => hno i (by omega)⟩
    | false => exact Or.inl ⟨hfl.2 hb, fun j hj hc => by
        by_cases z : j = tk.toNat + 1
        · subst z; rw [hiff.mpr hc] at hb; cases hb
        · exact hno j (by omega) hc⟩
  · rw [e]
    cases hb : (H2 (f1 tk.toNat).toNat (opp (f1 tk.toNat).toNat) && K2 (f1 tk.toNat).toNat (opp (f1 tk.toNat).toNat)) with
    | true => rw [hfl.1 hb, if_neg (by omega), e]; exact c3
    | false => rw [hfl.2 hb, if_pos rfl]; exact c3
