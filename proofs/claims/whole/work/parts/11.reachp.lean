/-! which points reach which: the tables' pure side -/
def wfB (B : Nat → Nat → Bool) : Prop := ∀ x y, B x y = true → x < 160 ∧ y < 160
def idB (n : Nat) : Nat → Nat → Bool := fun x y => decide (x = y ∧ x < n)
theorem idB_0 : idB 0 = fun _ _ => false := by funext x y; unfold idB; simp
theorem idB_s (n : Nat) : bP (idB n) n n true = idB (n + 1) := by
  funext x y
  unfold bP idB
  by_cases h : x = n ∧ y = n
  · rw [if_pos h]; exact (decide_eq_true ⟨by omega, by omega⟩).symm
  · rw [if_neg h]; exact decide_eq_decide.mpr ⟨fun ⟨a, b⟩ => ⟨a, by omega⟩, fun ⟨a, b⟩ => ⟨a, by omega⟩⟩
theorem idB_wf {n : Nat} (h : n ≤ 160) : wfB (idB n) := fun x y hb => by unfold idB at hb; simp at hb; omega
theorem cN_160 {g : Nat → Bool} (h : ∀ y, g y = true → y < 160) : cN g 192 ≤ 160 := by
  have h1 := cN_split g 160 32
  have h2 : ∀ k, cN (fun j => g (160 + j)) k = 0 := by
    intro k
    induction k with
    | zero => rfl
    | succ k ih =>
      have hf : g (160 + k) = false := by cases hb : g (160 + k) with | false => rfl | true => have := h _ hb; omega
      rw [cN_f (g := fun j => g (160 + j)) hf, ih]
  have h3 := cN_le g 160
  rw [h2 32] at h1
  show cN g (160 + 32) ≤ 160
  omega
theorem lsd_at0 {g : Nat → Bool} {n : Nat} {f0 f : Nat → Int} (h : lsd g n 0 f0 f) {i : Nat} (hi : i < cN g n) : ∃ p, p < n ∧ g p = true ∧ cN g p = i ∧ f i = (p : Int) := by
  obtain ⟨p, h1, h2, h3, h4⟩ := lsd_at h hi
  exact ⟨p, h1, h2, h3, by rwa [Nat.zero_add] at h4⟩
def leB (H K : Nat → Nat → Bool) (u v i : Nat) : Nat → Nat → Bool := fun x y => H x y || (K u x && decide (cN (K u) x < i) && H v y)
def leF (H K : Nat → Nat → Bool) (u v : Nat) : Nat → Nat → Bool := fun x y => H x y || (K u x && H v y)
theorem leB_0 (H K : Nat → Nat → Bool) (u v : Nat) : leB H K u v 0 = H := by funext x y; unfold leB; simp
theorem leB_v {H K : Nat → Nat → Bool} {u v i y : Nat} : leB H K u v i v y = H v y := by
  unfold leB; cases H v y <;> simp
theorem leF_v {H K : Nat → Nat → Bool} {u v y : Nat} : leF H K u v v y = H v y := by
  unfold leF; cases H v y <;> simp
theorem le_step {H K H1 : Nat → Nat → Bool} {u v i p : Nat} (hw : wfB H) (h1 : H1 = leB H K u v i) (hp : K u p = true) (hc : cN (K u) p = i) : jB H1 p H1 v 3 = leB H K u v (i + 1) := by
  subst h1
  funext x y
  unfold jB
  rw [leB_v]
  by_cases q : x = p
  · subst q
    by_cases z : y < 64 * 3
    · rw [if_pos ⟨rfl, z⟩]
      unfold leB
      simp [hp, hc]
    · rw [if_neg (by omega)]
      have hf : H v y = false := by cases hb : H v y with | false => rfl | true => have := (hw _ _ hb).2; omega
      unfold leB
      simp [hf]
  · rw [if_neg (by omega)]
    unfold leB
    cases hk : K u x with
    | false => simp
    | true =>
      have hne : cN (K u) x ≠ i := fun e => q (cN_inj hk hp (e.trans hc.symm))
      by_cases z : cN (K u) x < i
      · simp [z, show cN (K u) x < i + 1 by omega]
      · simp [z, show ¬ cN (K u) x < i + 1 by omega]
theorem leB_end {H K : Nat → Nat → Bool} {u v : Nat} (hw : wfB K) : leB H K u v (cN (K u) 192) = leF H K u v := by
  funext x y
  unfold leB leF
  cases hk : K u x with
  | false => simp
  | true =>
    have := (hw _ _ hk).2
    have := cN_strict (show x < 192 by omega) hk
    simp [this]
theorem leF_wf {H K : Nat → Nat → Bool} {u v : Nat} (h1 : wfB H) (h2 : wfB K) : wfB (leF H K u v) := fun x y hb => by
  unfold leF at hb
  cases hh : H x y with
  | true => exact h1 x y hh
  | false =>
    simp [hh] at hb
    exact ⟨(h2 u x hb.1).2, (h1 v y hb.2).2⟩
def ldA (H K : Nat → Nat → Bool) (u v : Nat) : Nat → Nat → Bool := if H u v = true then H else leF H K u v
def ldB (H K : Nat → Nat → Bool) (u v : Nat) : Nat → Nat → Bool := if H u v = true then K else leF K H v u
theorem ldA_wf {H K : Nat → Nat → Bool} {u v : Nat} (h1 : wfB H) (h2 : wfB K) : wfB (ldA H K u v) := by unfold ldA; split; exact h1; exact leF_wf h1 h2
theorem ldB_wf {H K : Nat → Nat → Bool} {u v : Nat} (h1 : wfB H) (h2 : wfB K) : wfB (ldB H K u v) := by unfold ldB; split; exact h2; exact leF_wf h2 h1
theorem leF_row {H K : Nat → Nat → Bool} {u v : Nat} : leF H K u v v = H v := by funext y; exact leF_v
theorem leF_eq {K H H' : Nat → Nat → Bool} {u v : Nat} (h : H' v = H v) : leF K H' v u = leF K H v u := by funext x y; unfold leF; rw [h]
