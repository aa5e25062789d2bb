/-! the clauses' state, call by call (pure) -/
theorem rC_fail {nv mm tk fl fl2 : Int} {rn : Bool} {sr lr : Int} {f1 f2 : Nat → Int} {T H K T2 H2 K2 : Nat → Nat → Bool} (h : rC nv mm tk fl rn sr lr f1 f2 T H K) (hr : rowI nv.toNat f1 f2 mm mm fl2 T2 H2 K2) : rC nv mm mm fl2 rn sr lr f1 f2 T2 H2 K2 := ⟨h.1, h.2.1, hr, h.2.2.2⟩
theorem rC_round {nv mm tk fl tk2 fl2 : Int} {rn : Bool} {sr lr sr2 lr2 : Int} {f1 f2 : Nat → Int} {T H K T2 H2 K2 : Nat → Nat → Bool} (h : rC nv mm tk fl rn sr lr f1 f2 T H K) (hr : rowI nv.toNat f1 f2 mm tk2 fl2 T2 H2 K2) (hd : rdsR (stB f1 f2 mm.toNat) nv.toNat sr2 lr2) : rC nv mm tk2 fl2 true sr2 lr2 f1 f2 T2 H2 K2 := ⟨h.1, h.2.1, hr, fun _ => hd⟩
theorem rC_begin {u : Int} {sr lr : Int} {f1 f2 : Nat → Int} (hu : 1 ≤ u ∧ u ≤ 80) : rC u 0 0 (-1) false sr lr f1 f2 (fun _ _ => false) (idB (2 * u).toNat) (idB (2 * u).toNat) := by
  refine ⟨hu, by omega, ?_, fun q => (by cases q)⟩
  rw [show (2 * u).toNat = 2 * u.toNat by omega]
  exact row_0 (by omega) (by omega) (fun j hj => by omega)
theorem rM_begin {u mm : Int} {f1 f2 m1 m2 V : Nat → Int} {S Ld : Nat → Nat → Bool} {gd : Bool} {flm : Int} : rM u 0 f1 f2 false m1 m2 S Ld V gd flm := ⟨fun j hj => by omega, fun j hj => by omega, fun q => (by cases q)⟩
theorem up_ne {f : Nat → Int} {k j : Nat} {x : Int} (h : j ≠ k) : va_up f k x j = f j := by unfold va_up; rw [if_neg h]
theorem up_eq {f : Nat → Int} {k : Nat} {x : Int} : va_up f k x k = x := by unfold va_up; rw [if_pos rfl]
theorem rC_add {nv mm tk fl mm2 : Int} {rn rn2 : Bool} {sr lr u v z : Int} {f1 f2 g1 g2 : Nat → Int} {T H K : Nat → Nat → Bool} (h : rC nv mm tk fl rn sr lr f1 f2 T H K) (hu : u ≠ 0 ∧ -nv ≤ u ∧ u ≤ nv) (hv : v ≠ 0 ∧ -nv ≤ v ∧ v ≤ nv) (ha : radd f1 f2 mm rn (ptO u) (ptO v) g1 g2 mm2 rn2 z) : rC nv mm2 tk fl rn2 sr lr g1 g2 T H K := by
  rcases ha with ⟨-, -, rfl, rfl, rfl, rfl⟩ | ⟨-, b1, rfl, rfl, rfl, rfl⟩
  · exact h
  · obtain ⟨h1, h2, ⟨r1, r2, r3, r4, r5, r6⟩, h4⟩ := h
    have a1 := ptO_lt hu
    have a2 := ptO_lt hv
    have e : ∀ j, j < tk.toNat → f1 j = va_up f1 mm.toNat (ptO u) j ∧ f2 j = va_up f2 mm.toNat (ptO v) j := fun j hj => ⟨(up_ne (by omega)).symm, (up_ne (by omega)).symm⟩
    have hrg := fai_rg r5
    refine ⟨h1, by omega, ⟨r1, by omega, fun j hj => ?_, ?_, fai_congr e r5, ?_⟩, fun q => (by cases q)⟩
    · by_cases hjm : j = mm.toNat
      · subst hjm
        rw [up_eq, up_eq]
        omega
      · rw [up_ne hjm, up_ne hjm]
        exact r3 j (by omega)
    · rw [r4]; exact stB_congr _ e
    · have e2 : stB f1 f2 (if fl = -1 then tk.toNat else fl.toNat) = stB (va_up f1 mm.toNat (ptO u)) (va_up f2 mm.toNat (ptO v)) (if fl = -1 then tk.toNat else fl.toNat) := stB_congr _ (fun j hj => e j (by
        split at hj
        · exact hj
        · omega))
      rw [← e2]
      exact r6
theorem rM_add {nv mm mm2 mm3 : Int} {rn rn2 ck ck2 : Bool} {u v z z2 th : Int} {f1 f2 g1 g2 m1 m2 k1 k2 V : Nat → Int} {S Ld : Nat → Nat → Bool} {gd : Bool} {flm : Int} (h : rM nv mm f1 f2 ck m1 m2 S Ld V gd flm) (h0 : 0 ≤ mm ∧ mm ≤ 400) (hu : u ≠ 0 ∧ -nv ≤ u ∧ u ≤ nv) (hv : v ≠ 0 ∧ -nv ≤ v ∧ v ≤ nv) (ha : radd f1 f2 mm rn (ptO u) (ptO v) g1 g2 mm2 rn2 z) (hb : mcla nv mm ck m1 m2 u v th mm3 ck2 k1 k2 z2) :
    th = 0 ∧ z = z2 ∧ mm2 = mm3 ∧ rM nv mm2 g1 g2 ck2 k1 k2 S Ld V gd flm := by
  have nu : ¬ nli nv u := by unfold nli; omega
  have nw : ¬ nli nv v := by unfold nli; omega
  rcases hb with ⟨c, -⟩ | ⟨-, c1, rfl, rfl, rfl, rfl, rfl, rfl⟩ | ⟨-, c1, rfl, rfl, rfl, rfl, rfl, rfl⟩
  · exact absurd c (by rintro (q | q); exact nu q; exact nw q)
  · rcases ha with ⟨rfl, b, rfl, rfl, rfl, rfl⟩ | ⟨rfl, b, -⟩
    · exact ⟨rfl, rfl, rfl, h⟩
    · omega
  · rcases ha with ⟨rfl, b, -⟩ | ⟨rfl, b, rfl, rfl, rfl, rfl⟩
    · omega
    · refine ⟨rfl, rfl, rfl, fun j hj => ?_, fun j hj => ?_, fun q => (by cases q)⟩
      · by_cases hjm : j = mm.toNat
        · subst hjm
          rw [up_eq, up_eq, up_eq, up_eq]
          exact ⟨rfl, rfl⟩
        · rw [up_ne hjm, up_ne hjm, up_ne hjm, up_ne hjm]
          exact h.1 j (by omega)
      · by_cases hjm : j = mm.toNat
        · subst hjm
          rw [up_eq, up_eq]
          exact ⟨nu, nw⟩
        · rw [up_ne hjm, up_ne hjm]
          exact h.2.1 j (by omega)
theorem cpy_at {f : Nat → Int} {v mm : Int} {j : Nat} (hv : 0 ≤ v ∧ v < mm) (hj : (j : Int) < mm - 1) : va_cpy f f (v + 1).toNat v.toNat ((mm - 1) - v).toNat j = f (if (j : Int) < v then j else j + 1) := by
  unfold va_cpy
  by_cases h : (j : Int) < v
  · rw [if_pos h, if_neg (by omega)]
  · rw [if_neg h, if_pos (by omega)]
    congr 1
    omega
theorem rC_drop {nv mm tk fl v : Int} {rn : Bool} {sr lr : Int} {f1 f2 : Nat → Int} {T H K : Nat → Nat → Bool} (h : rC nv mm tk fl rn sr lr f1 f2 T H K) (hv : 0 ≤ v ∧ v < mm) :
    rC nv (mm - 1) 0 (-1) false sr lr (va_cpy f1 f1 (v + 1).toNat v.toNat ((mm - 1) - v).toNat) (va_cpy f2 f2 (v + 1).toNat v.toNat ((mm - 1) - v).toNat) (fun _ _ => false) (idB (2 * nv).toNat) (idB (2 * nv).toNat) := by
  obtain ⟨h1, h2, ⟨r1, r2, r3, -⟩, -⟩ := h
  refine ⟨h1, by omega, ?_, fun q => (by cases q)⟩
  rw [show (2 * nv).toNat = 2 * nv.toNat by omega]
  refine row_0 r1 (by omega) (fun j hj => ?_)
  rw [cpy_at hv hj, cpy_at hv hj]
  exact r3 _ (by split <;> omega)
theorem rM_drop {nv mm v th mm3 : Int} {ck ck2 : Bool} {f1 f2 m1 m2 k1 k2 V : Nat → Int} {S Ld : Nat → Nat → Bool} {gd : Bool} {flm : Int} (h : rM nv mm f1 f2 ck m1 m2 S Ld V gd flm) (hv : 0 ≤ v ∧ v < mm) (hb : mdro mm ck m1 m2 v th mm3 ck2 k1 k2) :
    th = 0 ∧ mm3 = mm - 1 ∧ rM nv (mm - 1) (va_cpy f1 f1 (v + 1).toNat v.toNat ((mm - 1) - v).toNat) (va_cpy f2 f2 (v + 1).toNat v.toNat ((mm - 1) - v).toNat) ck2 k1 k2 S Ld V gd flm := by
  rcases hb with ⟨c, -⟩ | ⟨-, rfl, rfl, rfl, d1, d2⟩
  · omega
  · refine ⟨rfl, rfl, fun j hj => ?_, fun j hj => ?_, fun q => (by cases q)⟩
    · rw [cpy_at hv hj, cpy_at hv hj, d1.1 j hj, d2.1 j hj]
      exact h.1 _ (by split <;> omega)
    · rw [d1.1 j hj, d2.1 j hj]
      exact h.2.1 _ (by split <;> omega)
