/-! counting who waits for whom -/
theorem cN_sub {f g : Nat → Bool} : ∀ n, (∀ j, j < n → f j = true → g j = true) → cN f n ≤ cN g n
  | 0, _ => Nat.le_refl _
  | n + 1, h => by
    have ih := cN_sub n (fun j hj => h j (by omega))
    rw [cN_s, cN_s]
    cases hf : f n with
    | false => simp; omega
    | true => rw [h n (by omega) hf]; simp; exact ih
theorem cN_sub_lt {f g : Nat → Bool} {x : Nat} : ∀ n, (∀ j, j < n → f j = true → g j = true) → x < n → f x = false → g x = true → cN f n < cN g n
  | 0, _, hx, _, _ => by omega
  | n + 1, h, hx, h1, h2 => by
    rw [cN_s, cN_s]
    by_cases z : x = n
    · subst z
      have := cN_sub x (fun j hj => h j (by omega))
      rw [h1, h2]; simp; omega
    · have ih := cN_sub_lt n (fun j hj => h j (by omega)) (by omega) h1 h2
      cases hf : f n with
      | false => simp; omega
      | true => rw [h n (by omega) hf]; simp; exact ih
theorem cN_part (f g : Nat → Bool) : ∀ n, cN f n = cN (fun j => f j && g j) n + cN (fun j => f j && !(g j)) n
  | 0 => rfl
  | n + 1 => by
    rw [cN_s, cN_s, cN_s, cN_part f g n]
    cases f n <;> cases g n <;> simp <;> omega
theorem cN_cut {g : Nat → Bool} {n : Nat} (h : ∀ j, g j = true → j < n) : ∀ m, n ≤ m → cN g m = cN g n := by
  intro m
  induction m with
  | zero => intro q; rw [show n = 0 by omega]
  | succ m ih =>
    intro q
    by_cases z : n = m + 1
    · rw [z]
    · have hf : g m = false := by cases hb : g m with | false => rfl | true => have := h m hb; omega
      rw [cN_f hf, ih (by omega)]
theorem wait_init {B : Nat → Nat → Bool} {n : Nat} {H K : Nat → Nat → Bool} {num : Nat → Int} (h : cl B n H K) (hn : n ≤ 160) (hm : ∀ b, b < n → num b = -1) (a : Nat) : (cN (K a) 192 : Int) - (cN (fun p => H a p && K a p) 192 : Int) = (cN (hld H num a) n : Int) := by
  have hR := (cl_rfl2 h).2.2
  have e1 := cN_part (K a) (H a) 192
  have e2 : cN (fun j => K a j && H a j) 192 = cN (fun p => H a p && K a p) 192 := cN_congr 192 (fun j _ => Bool.and_comm _ _)
  have e3 : cN (fun j => K a j && !(H a j)) 192 = cN (fun j => K a j && !(H a j)) n := cN_cut (fun j hj => by
    rw [h.2 a j] at hj; simp at hj; exact (hR _ _ hj.1).1) 192 (by omega)
  have e4 : cN (fun j => K a j && !(H a j)) n = cN (hld H num a) n := cN_congr n (fun j hj => by unfold hld; rw [hm j hj, h.2 a j]; simp)
  omega
theorem wait_step {B : Nat → Nat → Bool} {n : Nat} {H K : Nat → Nat → Bool} {num num' lst : Nat → Int} {cnt : Int} {x a : Nat} (h : cl B n H K) (hn : n ≤ 160) (hP : numP n H num lst cnt) (hx : x < n) (hx1 : num x = -1) (hn' : ∀ a, a < n → num' a = nst H num x cnt a) (ha : a < n) (ha1 : num' a = -1) :
    (cN (hld H num' a) n : Int) = if (H x a && !(K x a)) = true then (cN (hld H num a) n : Int) - (cN (fun p => H x p && K x p) 192 : Int) else (cN (hld H num a) n : Int) := by
  obtain ⟨r1, r2, r3⟩ := cl_rfl2 h
  have hcnt := hP.1
  have hnk : ¬ (H a x = true ∧ H x a = true) := fun z => by
    have := hn' a ha; unfold nst at this; rw [if_pos z] at this; omega
  have hkn : ∀ b, b < n → H b x = true → H x b = true → num b = -1 := fun b hb q1 q2 => by
    cases hP.2.1 b hb with
    | inl q => exact q
    | inr q => have := (hP.2.2.1 b x hb hx (by omega)).mpr ⟨q1, q2⟩; omega
  have hpart : cN (hld H num a) n = cN (fun j => hld H num a j && (H x j && K x j)) n + cN (fun j => hld H num a j && !(H x j && K x j)) n := cN_part (hld H num a) (fun b => H x b && K x b) n
  have hout : cN (fun j => hld H num a j && !(H x j && K x j)) n = cN (hld H num' a) n := cN_congr n (fun j hj => by
    have e := hn' j hj
    unfold nst at e
    show (hld H num a j && !(H x j && K x j)) = hld H num' a j
    rw [h.2 x j]
    by_cases z : H j x = true ∧ H x j = true
    · rw [if_pos z] at e
      unfold hld
      rw [e, z.1, z.2]
      have : ¬ cnt = -1 := by omega
      simp [this]
    · rw [if_neg z] at e
      have hz : (H x j && H j x) = false := by cases q1 : H x j <;> cases q2 : H j x <;> simp_all
      unfold hld
      rw [e, hz]; simp)
  by_cases hxa : H x a = true
  · have hax : H a x = false := by cases q : H a x with | false => rfl | true => exact absurd ⟨q, hxa⟩ hnk
    have hin : cN (fun j => hld H num a j && (H x j && K x j)) n = cN (fun p => H x p && K x p) 192 := by
      have e1 : cN (fun p => H x p && K x p) 192 = cN (fun p => H x p && K x p) n := cN_cut (fun j hj => by simp at hj; exact (r3 _ _ hj.1).2) 192 (by omega)
      rw [e1]
      refine cN_congr n (fun j hj => ?_)
      show (hld H num a j && (H x j && K x j)) = (H x j && K x j)
      rw [h.2 x j]
      cases q1 : H x j with
      | false => simp
      | true =>
        cases q2 : H j x with
        | false => simp
        | true =>
          have e2 : hld H num a j = true := hld_iff.mpr ⟨hkn j hj q2 q1, r2 j x a q2 hxa, by
            cases q3 : H a j with
            | false => rfl
            | true => have := r2 a j x q3 q2; rw [this] at hax; cases hax⟩
          rw [e2]; rfl
    rw [if_pos (by rw [hxa, h.2 x a, hax]; rfl)]
    omega
  · have hxa' : H x a = false := by cases q : H x a with | false => rfl | true => exact absurd q hxa
    have hin : cN (fun j => hld H num a j && (H x j && K x j)) n = 0 := cN_z (fun j hj => by
      show (hld H num a j && (H x j && K x j)) = false
      cases q1 : hld H num a j with
      | false => rfl
      | true =>
        obtain ⟨-, p2, -⟩ := hld_iff.mp q1
        cases q2 : H x j with
        | false => rfl
        | true => have := r2 x j a q2 p2; rw [this] at hxa'; cases hxa')
    rw [if_neg (by rw [hxa']; simp)]
    omega
/-- what the waiting row holds -/
def wtg (n : Nat) (H : Nat → Nat → Bool) (num W : Nat → Int) : Prop := ∀ a, a < n → (num a = -1 → W a = (cN (hld H num a) n : Int)) ∧ (num a ≠ -1 → W a = 0)
/-- a part's number is given: the rows behind it -/
def gvN (H K : Nat → Nat → Bool) (x : Nat) (mn : Int) (Nb : Nat → Int) (i : Nat) : Nat → Int := fun a => if (H x a && decide (cN (H x) a < i) && K x a) = true then mn else Nb a
def gvW (H K : Nat → Nat → Bool) (x : Nat) (sz : Int) (W : Nat → Int) (i : Nat) : Nat → Int := fun a => if (H x a && decide (cN (H x) a < i) && !(K x a)) = true then W a - sz else W a
theorem gvN_0 {H K : Nat → Nat → Bool} {x : Nat} {mn : Int} {Nb : Nat → Int} : gvN H K x mn Nb 0 = Nb := by funext a; unfold gvN; simp
theorem gvW_0 {H K : Nat → Nat → Bool} {x : Nat} {sz : Int} {W : Nat → Int} : gvW H K x sz W 0 = W := by funext a; unfold gvW; simp
theorem rank_s {g : Nat → Bool} {p a i : Nat} (hp : g p = true) (hc : cN g p = i) (ha : g a = true) : (cN g a < i + 1 ↔ (cN g a < i ∨ a = p)) := by
  constructor
  · intro h
    by_cases z : cN g a = i
    · exact Or.inr (cN_inj ha hp (z.trans hc.symm))
    · exact Or.inl (by omega)
  · rintro (h | h)
    · omega
    · subst h; omega
theorem gv_knot {H K : Nat → Nat → Bool} {x p i : Nat} {mn : Int} {Nb : Nat → Int} (hp : H x p = true) (hc : cN (H x) p = i) (hk : K x p = true) : va_up (gvN H K x mn Nb i) p mn = gvN H K x mn Nb (i + 1) := by
  funext a
  unfold va_up
  by_cases z : a = p
  · subst z; rw [if_pos rfl]; unfold gvN; rw [if_pos (by simp [hp, hc, hk])]
  · rw [if_neg z]
    unfold gvN
    cases ha : H x a with
    | false => simp
    | true =>
      have := rank_s hp hc ha
      by_cases w : cN (H x) a < i
      · simp [w, this.mpr (Or.inl w)]
      · have w2 : ¬ cN (H x) a < i + 1 := fun q => by rcases this.mp q with q | q; exact w q; exact z q
        simp [w, w2]
theorem gv_knotW {H K : Nat → Nat → Bool} {x p i : Nat} {sz : Int} {W : Nat → Int} (hp : H x p = true) (hc : cN (H x) p = i) (hk : K x p = true) : gvW H K x sz W (i + 1) = gvW H K x sz W i := by
  funext a
  unfold gvW
  cases ha : H x a with
  | false => simp
  | true =>
    have := rank_s hp hc ha
    by_cases z : a = p
    · subst z; simp [hk]
    · by_cases w : cN (H x) a < i
      · simp [w, this.mpr (Or.inl w)]
      · have w2 : ¬ cN (H x) a < i + 1 := fun q => by rcases this.mp q with q | q; exact w q; exact z q
        simp [w, w2]
theorem gv_out {H K : Nat → Nat → Bool} {x p i : Nat} {sz : Int} {W : Nat → Int} (hp : H x p = true) (hc : cN (H x) p = i) (hk : K x p = false) : va_up (gvW H K x sz W i) p (gvW H K x sz W i p - sz) = gvW H K x sz W (i + 1) := by
  funext a
  unfold va_up
  by_cases z : a = p
  · subst z
    rw [if_pos rfl]
    have e : gvW H K x sz W i a = W a := by unfold gvW; rw [if_neg (by simp [hc])]
    rw [e]; unfold gvW; rw [if_pos (by simp [hp, hc, hk])]
  · rw [if_neg z]
    unfold gvW
    cases ha : H x a with
    | false => simp
    | true =>
      have := rank_s hp hc ha
      by_cases w : cN (H x) a < i
      · simp [w, this.mpr (Or.inl w)]
      · have w2 : ¬ cN (H x) a < i + 1 := fun q => by rcases this.mp q with q | q; exact w q; exact z q
        simp [w, w2]
theorem gv_outN {H K : Nat → Nat → Bool} {x p i : Nat} {mn : Int} {Nb : Nat → Int} (hp : H x p = true) (hc : cN (H x) p = i) (hk : K x p = false) : gvN H K x mn Nb (i + 1) = gvN H K x mn Nb i := by
  funext a
  unfold gvN
  cases ha : H x a with
  | false => simp
  | true =>
    have := rank_s hp hc ha
    by_cases z : a = p
    · subst z; simp [hk]
    · by_cases w : cN (H x) a < i
      · simp [w, this.mpr (Or.inl w)]
      · have w2 : ¬ cN (H x) a < i + 1 := fun q => by rcases this.mp q with q | q; exact w q; exact z q
        simp [w, w2]
theorem gvN_end {B : Nat → Nat → Bool} {n : Nat} {H K : Nat → Nat → Bool} {x : Nat} {mn : Int} {Nb : Nat → Int} (h : cl B n H K) (hn : n ≤ 160) : ∀ a, gvN H K x mn Nb (cN (H x) 192) a = nst H Nb x mn a := fun a => by
  unfold gvN nst
  rw [h.2 x a]
  cases ha : H x a with
  | false => simp
  | true =>
    have := ((cl_wf h hn).1 x a ha).2
    have := cN_strict (show a < 192 by omega) ha
    simp [this]
theorem gvW_end {B : Nat → Nat → Bool} {n : Nat} {H K : Nat → Nat → Bool} {x : Nat} {sz : Int} {W : Nat → Int} (h : cl B n H K) (hn : n ≤ 160) : ∀ a, gvW H K x sz W (cN (H x) 192) a = if (H x a && !(K x a)) = true then W a - sz else W a := fun a => by
  unfold gvW
  cases ha : H x a with
  | false => simp
  | true =>
    have := ((cl_wf h hn).1 x a ha).2
    have := cN_strict (show a < 192 by omega) ha
    simp [this]
/-- a turn of the numbering -/
theorem turn_ok {B : Nat → Nat → Bool} {n : Nat} {H K : Nat → Nat → Bool} {num W num' W' lst : Nat → Int} {cnt : Int} {x : Nat} (h : cl B n H K) (hn : n ≤ 160) (hP : numP n H num lst cnt) (hW : wtg n H num W) (hx : x < n) (hx1 : num x = -1) (hx2 : W x = 0) (hmin : ∀ a, a < x → ¬ (num a = -1 ∧ W a = 0))
    (hn' : ∀ a, a < n → num' a = nst H num x cnt a) (hw' : ∀ a, a < n → W' a = if (H x a && !(K x a)) = true then W a - (cN (fun p => H x p && K x p) 192 : Int) else W a) :
    numP n H num' (va_up lst cnt.toNat (x : Int)) (cnt + 1) ∧ wtg n H num' W' ∧ cN (fun a => decide (num' a = -1)) n < cN (fun a => decide (num a = -1)) n := by
  have hR := cl_rfl2 h
  have hx3 : cN (hld H num x) n = 0 := by have := (hW x hx).1 hx1; omega
  have hmin' : ∀ a, a < x → ¬ (num a = -1 ∧ cN (hld H num a) n = 0) := fun a ha z => hmin a ha ⟨z.1, by have := (hW a (by omega)).1 z.1; omega⟩
  have hcnt := hP.1
  refine ⟨numP_step hR hP hx hx1 hx3 hmin' hn', fun a ha => ⟨fun q => ?_, fun q => ?_⟩, ?_⟩
  · have e := wait_step h hn hP hx hx1 hn' ha q
    have hna : num a = -1 := by
      have := hn' a ha; unfold nst at this
      by_cases z : H a x = true ∧ H x a = true
      · rw [if_pos z] at this; omega
      · rw [if_neg z] at this; omega
    rw [hw' a ha, e, (hW a ha).1 hna]
  · rw [hw' a ha]
    have e := hn' a ha
    unfold nst at e
    by_cases z : H a x = true ∧ H x a = true
    · -- in x's part: it waited for none
      have hza : W a = 0 := by
        by_cases w : num a = -1
        · have hca : cN (hld H num a) n = 0 := cN_z (fun b hb => by
            cases hh : hld H num a b with
            | false => rfl
            | true =>
              obtain ⟨q1, q2, q3⟩ := hld_iff.mp hh
              have := cN_0 hx3 b hb
              have hxb : H x b = false := by
                cases hv : H x b with
                | false => rfl
                | true => have := hR.2.1 a x b z.1 hv; rw [this] at q3; cases q3
              rw [hld_iff.mpr ⟨q1, hR.2.1 b a x q2 z.1, hxb⟩] at this
              cases this)
          have := (hW a ha).1 w; omega
        · exact (hW a ha).2 w
      rw [if_neg (by rw [z.2, h.2 x a, z.1]; simp)]; exact hza
    · rw [if_neg z] at e
      have hna : num a ≠ -1 := by omega
      -- a numbered one isn't reached from x, unless in its part
      have hxa : H x a = false := by
        cases hv : H x a with
        | false => rfl
        | true =>
          have hax : H a x = false := by cases q2 : H a x with | false => rfl | true => exact absurd ⟨q2, hv⟩ z
          have h1 := hP.2.1 a ha
          have hc : ((num a).toNat : Int) = num a := by omega
          obtain ⟨y, y1, y2, y3, y4, y5, y6⟩ := hP.2.2.2 (num a).toNat (by omega)
          have hya := (hP.2.2.1 y a y1 ha (by omega)).mp (by omega)
          have hxy : H x y = true := hR.2.1 x a y hv hya.2
          have hyx : H y x = false := by
            cases q2 : H y x with
            | false => rfl
            | true => have := hR.2.1 a y x hya.2 q2; rw [this] at hax; cases hax
          have := y5 x hx hxy hyx
          omega
      rw [if_neg (by rw [hxa]; simp)]; exact (hW a ha).2 hna
  · refine cN_sub_lt n (fun j hj q => ?_) hx ?_ ?_
    · have e := hn' j hj
      unfold nst at e
      have q' := of_decide_eq_true q
      by_cases z : H j x = true ∧ H x j = true
      · rw [if_pos z] at e; omega
      · rw [if_neg z] at e; exact decide_eq_true (by omega)
    · have e := hn' x hx
      unfold nst at e
      rw [if_pos ⟨hR.1 x hx, hR.1 x hx⟩] at e
      exact decide_eq_false (by omega)
    · exact decide_eq_true hx1
/-- the least that is ready, or -1 -/
def rdy (n : Nat) (num W : Nat → Int) (z : Int) : Prop := (z = -1 ∧ ∀ a, a < n → ¬ (num a = -1 ∧ W a = 0)) ∨ ∃ x : Nat, z = (x : Int) ∧ x < n ∧ num x = -1 ∧ W x = 0 ∧ ∀ a, a < x → ¬ (num a = -1 ∧ W a = 0)
theorem rdy_none {B : Nat → Nat → Bool} {n : Nat} {H K : Nat → Nat → Bool} {num W lst : Nat → Int} {cnt : Int} (h : cl B n H K) (hP : numP n H num lst cnt) (hW : wtg n H num W) (hr : ∀ a, a < n → ¬ (num a = -1 ∧ W a = 0)) : numC n H num lst cnt := by
  refine ⟨hP, fun a ha q => ?_⟩
  obtain ⟨x, x1, x2, x3⟩ := num_next (cl_rfl2 h) (cN (hld H num a) n) a (Nat.le_refl _) ha q
  exact hr x x1 ⟨x2, by have := (hW x x1).1 x2; omega⟩
theorem un_none {n : Nat} {H : Nat → Nat → Bool} {num lst : Nat → Int} {cnt : Int} (hP : numP n H num lst cnt) (h0 : cN (fun a => decide (num a = -1)) n = 0) : numC n H num lst cnt :=
  ⟨hP, fun a ha q => by have := cN_0 h0 a ha; rw [decide_eq_true q] at this; cases this⟩
