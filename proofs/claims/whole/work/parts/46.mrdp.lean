/-! the reference's rounds and classes -/
def mrn (T : Nat → Nat → Bool) (v : Nat) (z : Int) : Prop := (100000 ≤ z ∧ z ≤ 200000 ∧ rndR T v (-1)) ∨ (2 ≤ z ∧ z ≤ 320 ∧ rndR T v z)
theorem mrn_rg {T : Nat → Nat → Bool} {v : Nat} {z : Int} (h : mrn T v z) : 2 ≤ z ∧ z ≤ 200000 := by rcases h with h | h <;> omega
theorem mrn_of {T : Nat → Nat → Bool} {N v : Nat} {D1 D2 : Nat → Int} (h1 : mwd T N (2 * v - 2) D1) (h2 : mwd T N (2 * v - 1) D2) (hv : 1 ≤ v) (hN : 2 * v ≤ N) : mrn T v (D1 (2 * v - 1) + D2 (2 * v - 2)) := by
  have s1 := mwd_sh h1 (y := 2 * v - 1) (by omega)
  have s2 := mwd_sh h2 (y := 2 * v - 2) (by omega)
  have g1 : D1 (2 * v - 1) = 100000 ∨ (1 ≤ D1 (2 * v - 1) ∧ D1 (2 * v - 1) ≤ 160) := by rcases h1 (2 * v - 1) (by omega) with ⟨a, -⟩ | ⟨a, b, -⟩ <;> omega
  have g2 : D2 (2 * v - 2) = 100000 ∨ (1 ≤ D2 (2 * v - 2) ∧ D2 (2 * v - 2) ≤ 160) := by rcases h2 (2 * v - 2) (by omega) with ⟨a, -⟩ | ⟨a, b, -⟩ <;> omega
  rcases g1 with g1 | g1
  · rw [if_pos g1] at s1
    exact Or.inl ⟨by omega, by omega, Or.inl ⟨rfl, Or.inl s1⟩⟩
  · rw [if_neg (by omega)] at s1
    rcases g2 with g2 | g2
    · rw [if_pos g2] at s2
      exact Or.inl ⟨by omega, by omega, Or.inl ⟨rfl, Or.inr s2⟩⟩
    · rw [if_neg (by omega)] at s2
      exact Or.inr ⟨by omega, by omega, Or.inr ⟨_, _, g1.1, g1.2, g2.1, g2.2, rfl, s1, s2⟩⟩
def mls (T : Nat → Nat → Bool) (t : Nat) (le fo : Int) : Prop := (le = 100000 ∧ fo = -1 ∧ rdsR T t (-1) (-1)) ∨ (2 ≤ le ∧ le ≤ 320 ∧ 1 ≤ fo ∧ fo ≤ (t : Int) ∧ rdsR T t le fo)
theorem mls_rg {T : Nat → Nat → Bool} {t : Nat} {le fo : Int} (h : mls T t le fo) : (2 ≤ le ∧ le ≤ 100000) ∧ -1 ≤ fo ∧ fo ≤ (t : Int) := by rcases h with h | h <;> omega
theorem mls_no {T : Nat → Nat → Bool} {t : Nat} {le fo z : Int} (h : mls T t le fo) (hz : mrn T (t + 1) z) (hle : le ≤ z) : mls T (t + 1) le fo := by
  rcases h with ⟨h1, h2, h3⟩ | ⟨h1, h2, h3, h4, h5⟩
  · rcases hz with ⟨z1, z2, z3⟩ | ⟨z1, z2, z3⟩
    · exact Or.inl ⟨h1, h2, rdsR_none h3 z3⟩
    · omega
  · refine Or.inr ⟨h1, h2, h3, by push_cast; omega, ?_⟩
    rcases hz with ⟨z1, z2, z3⟩ | ⟨z1, z2, z3⟩
    · exact rdsR_none h5 z3
    · exact rdsR_more h5 z3 (by omega) hle
theorem mls_yes {T : Nat → Nat → Bool} {t : Nat} {le fo z : Int} (h : mls T t le fo) (hz : mrn T (t + 1) z) (hlt : z < le) : mls T (t + 1) z ((t : Int) + 1) := by
  rcases hz with ⟨z1, z2, z3⟩ | ⟨z1, z2, z3⟩
  · rcases h with h | h <;> omega
  · refine Or.inr ⟨z1, z2, by omega, by push_cast; omega, ?_⟩
    rcases h with ⟨h1, h2, h3⟩ | ⟨h1, h2, h3, h4, h5⟩
    · have h9 := rdsR_less h3 z3 (by omega) (Or.inl rfl)
      push_cast at h9; exact h9
    · have h9 := rdsR_less h5 z3 (by omega) (Or.inr hlt)
      push_cast at h9; exact h9
theorem mls_end {T : Nat → Nat → Bool} {t : Nat} {le fo : Int} (h : mls T t le fo) : ∃ sr lr, rdsR T t sr lr ∧ (fo = -1 → sr = -1 ∧ lr = -1) ∧ (fo ≠ -1 → sr = le ∧ lr = fo) := by
  rcases h with ⟨h1, h2, h3⟩ | ⟨h1, h2, h3, h4, h5⟩
  · exact ⟨-1, -1, h3, fun _ => ⟨rfl, rfl⟩, fun q => absurd h2 q⟩
  · exact ⟨le, fo, h5, fun q => by omega, fun _ => ⟨rfl, rfl⟩⟩
/-- a literal that is like none before it -/
def mlq (Ld : Nat → Nat → Bool) (a b : Nat) : Bool := mfo Ld a b && mfo Ld b a
def mfr (Ld : Nat → Nat → Bool) (a j : Nat) : Bool := decide (cN (mlq Ld a) j = 0)
theorem mfr_s {Ld : Nat → Nat → Bool} {a j : Nat} : mfr Ld a (j + 1) = (mfr Ld a j && !(mlq Ld a j)) := by
  unfold mfr
  rw [cN_s]
  cases mlq Ld a j <;> simp
theorem mfr_f {Ld : Nat → Nat → Bool} {a j q : Nat} (h : mfr Ld a j = false) (hj : j ≤ q) : mfr Ld a q = false := by
  unfold mfr at *
  have hm := cN_mono (mlq Ld a) hj
  have := of_decide_eq_false h
  exact decide_eq_false (by omega)
