/-! class and reference answer alike (pure) -/
theorem tg_about {B : Nat → Nat → Bool} {n : Nat} {H K Hm Dm : Nat → Nat → Bool} {Nb Ls Nbm Lsm Cm : Nat → Int} {mn mnm u v z : Int} (hn : n ≤ 160) (hB : ∀ x y, B x y = true → x < n ∧ y < n) (hc : cl B n H K) (hN : numC n H Nb Ls mn) (hm : mK B n Hm Nbm Lsm mnm Dm Cm) (hu : 0 ≤ u ∧ u < mn) (ha : abo B n H K Nb Ls mn u v z) : z = mabo B n Hm Nbm Lsm mnm Dm Cm u v := by
  obtain ⟨e1, e2, e3, e4, e5, e6⟩ := mK_tie hB hc hN hm
  obtain ⟨k1, k2, k3, k4⟩ := numC_in hN
  have eu : ((u.toNat : Nat) : Int) = u := by omega
  unfold mabo
  rw [e1]
  rcases ha with ⟨rfl, rfl⟩ | ⟨rfl, rfl⟩ | ⟨rfl, rfl⟩ | ⟨rfl, rfl⟩ | ⟨rfl, Z, hZ, rfl⟩ | ⟨rfl, Z, hZ, rfl⟩ | ⟨rfl, C, hC, rfl⟩
  · rw [if_pos rfl, tie_size hc hN (by omega) (c := u.toNat) (by omega), eu]
    congr 1
    exact cN_congr _ (fun a ha => by rw [e2 a ha])
  · rw [if_neg (by decide), if_pos rfl]
    exact (e3 u.toNat (by omega)).symm
  · rw [if_neg (by decide), if_neg (by decide), if_pos rfl, aArcs_congr e2]
  · rw [if_neg (by decide), if_neg (by decide), if_neg (by decide), if_pos rfl, aArcs_congr e2]
  · rw [if_neg (by decide), if_neg (by decide), if_neg (by decide), if_neg (by decide), if_pos rfl, mal_tie e3 k2 e4]
    rw [← eu] at hZ
    rw [tie_goals (T := H) hN hn hB hZ e5]
  · rw [if_neg (by decide), if_neg (by decide), if_neg (by decide), if_neg (by decide), if_neg (by decide), if_pos rfl, mal_tie e3 k2 e4]
    rw [← eu] at hZ
    rw [tie_alone hc hN hn hB hZ e5]
  · rw [if_neg (by decide), if_neg (by decide), if_neg (by decide), if_neg (by decide), if_neg (by decide), if_neg (by decide)]
    exact tie_chain hc hN hB e5 hu.1 hC e6 mn.toNat u.toNat (by omega) (by omega) (by omega)
theorem tg_counted {B : Nat → Nat → Bool} {n : Nat} {H K Hm Dm : Nat → Nat → Bool} {Nb Ls Nbm Lsm Cm : Nat → Int} {mnm u v : Int} (hn : n ≤ 160) (hc : cl B n H K) (hm : mK B n Hm Nbm Lsm mnm Dm Cm) (hu : 0 ≤ u ∧ u < n) : ((if v = 0 then (cN (H u.toNat) 192 : Int) else (cN (K u.toNat) 192 : Int))) = (cN (mcq Hm u v) n : Int) := by
  have e4 : ∀ x y, x < n → y < n → Hm x y = H x y := fun x y hx hy => by
    have := (cl_uniq hm.1 hc).1
    rw [← this]
    unfold rsN
    simp [hx, hy]
  have eu : ((u.toNat : Nat) : Int) = u := by omega
  have h := tie_ahead (v := v) hc hn e4 (u := u.toNat) (by omega)
  rw [eu] at h
  rw [h]
  split <;> rfl
theorem tg_reach {B : Nat → Nat → Bool} {n : Nat} {H K Hm Dm : Nat → Nat → Bool} {Nbm Lsm Cm : Nat → Int} {mnm : Int} (hc : cl B n H K) (hm : mK B n Hm Nbm Lsm mnm Dm Cm) : ∀ x y, x < n → y < n → Hm x y = H x y := fun x y hx hy => by
  have := (cl_uniq hm.1 hc).1
  rw [← this]
  unfold rsN
  simp [hx, hy]
theorem tg_mis {B : Nat → Nat → Bool} {n : Nat} {H K Hm Dm : Nat → Nat → Bool} {Nb Ls Nbm Lsm Cm : Nat → Int} {mn mnm : Int} (hn : n ≤ 160) (hB : ∀ x y, B x y = true → x < n ∧ y < n) (hc : cl B n H K) (hN : numC n H Nb Ls mn) (hm : mK B n Hm Nbm Lsm mnm Dm Cm) : aMis H K Ls mn = mmis Hm Lsm mnm Dm := by
  obtain ⟨e1, e2, e3, e4, e5, e6⟩ := mK_tie hB hc hN hm
  obtain ⟨k1, k2, k3, k4⟩ := numC_in hN
  rw [e1, mmis_tie e3 k2 e4]
  exact tie_mis hc hN hn hB e5
/-! clauses -/
theorem fai_congr {f1 f2 g1 g2 : Nat → Int} {N k : Nat} {z : Int} (h : ∀ j, j < k → f1 j = g1 j ∧ f2 j = g2 j) (hf : fai f1 f2 N k z) : fai g1 g2 N k z := by
  have e : ∀ j, j ≤ k → stB f1 f2 j = stB g1 g2 j := fun j hj => stB_congr j (fun i hi => h i (by omega))
  rcases hf with ⟨h1, h2⟩ | ⟨j, h1, h2, h3, h4, h5⟩
  · exact Or.inl ⟨h1, fun j hj => by rw [← e j hj]; exact h2 j hj⟩
  · exact Or.inr ⟨j, h1, h2, h3, by rw [← e j h2]; exact h4, fun i hi => by rw [← e i (by omega)]; exact h5 i hi⟩
/-- what both sides know of the clauses -/
theorem tr_all {nv mm fl flm : Int} {f1 f2 m1 m2 V : Nat → Int} {T H K S Ld : Nat → Nat → Bool} {gd : Bool} (hr : rowI nv.toNat f1 f2 mm mm fl T H K) (hp : ∀ j : Nat, (j : Int) < mm → f1 j = ptO (m1 j) ∧ f2 j = ptO (m2 j)) (hm : mC nv mm m1 m2 S Ld V gd flm) :
    fl = flm ∧ (fl = -1 ↔ gd = true) ∧ -1 ≤ fl ∧ S = stB f1 f2 mm.toNat ∧ (2 * nv).toNat = 2 * nv.toNat ∧ (fl = -1 → cl S (2 * nv.toNat) H K ∧ ldR S (2 * nv.toNat) Ld ∧ ¬ contra S (2 * nv.toNat) ∧ (∀ x y, S x y = true → S (opp y) (opp x) = true) ∧ ∀ v, v < nv.toNat → V v = mvS Ld nv.toNat nv.toNat v) := by
  obtain ⟨r1, r2, r3, r4, r5, r6⟩ := hr
  obtain ⟨c1, c2, c3, c4, c5⟩ := hm
  have e2 : (2 * nv).toNat = 2 * nv.toNat := by omega
  have hp' : ∀ j, j < mm.toNat → f1 j = (fun j => ptO (m1 j)) j ∧ f2 j = (fun j => ptO (m2 j)) j := fun j hj => hp j (by omega)
  rw [e2] at c2 c3
  have ef : fl = flm := fai_uniq (fai_congr hp' r5) c3
  have eS : S = stB f1 f2 mm.toNat := by rw [c1]; exact (stB_congr _ hp').symm
  have hrg := fai_rg r5
  have hgd : fl = -1 ↔ gd = true := by
    rw [c4, ← ef]
    constructor
    · intro h; rw [decide_eq_true_eq]; omega
    · intro h; rw [decide_eq_true_eq] at h; omega
  refine ⟨ef, hgd, hrg.1, eS, e2, fun h => ?_⟩
  rw [if_pos h, ← eS] at r6
  refine ⟨r6, c2, ?_, ?_, c5 (hgd.mp h)⟩
  · rcases r5 with ⟨-, q⟩ | ⟨j, q1, q2, q3, -⟩
    · rw [eS]; exact q _ (Nat.le_refl _)
    · omega
  · rw [eS]; exact fun x y q => stB_skew _ x y q
theorem tr_value {nv mm fl flm u : Int} {f1 f2 m1 m2 V : Nat → Int} {T H K S Ld : Nat → Nat → Bool} {gd : Bool} (hr : rowI nv.toNat f1 f2 mm mm fl T H K) (hp : ∀ j : Nat, (j : Int) < mm → f1 j = ptO (m1 j) ∧ f2 j = ptO (m2 j)) (hm : mC nv mm m1 m2 S Ld V gd flm) (hf : fl = -1) (hu : 1 ≤ u ∧ u ≤ nv) :
    bZ (hlS H u.toNat (2 * u.toNat - 2)) = V (u - 1).toNat := by
  obtain ⟨-, -, -, -, -, h⟩ := tr_all hr hp hm
  obtain ⟨h1, h2, h3, h4, h5⟩ := h hf
  rw [h5 _ (by omega), tie_value h1 h2 h4 h3 (by omega)]
  rw [show (u - 1).toNat + 1 = u.toNat by omega, show 2 * (u - 1).toNat = 2 * u.toNat - 2 by omega]
theorem tr_fixed {nv mm fl flm u z : Int} {f1 f2 m1 m2 V : Nat → Int} {T H K S Ld : Nat → Nat → Bool} {gd : Bool} (hr : rowI nv.toNat f1 f2 mm mm fl T H K) (hp : ∀ j : Nat, (j : Int) < mm → f1 j = ptO (m1 j) ∧ f2 j = ptO (m2 j)) (hm : mC nv mm m1 m2 S Ld V gd flm) (hf : fl = -1) (hu : 1 ≤ u ∧ u ≤ nv)
    (hz : z = (if H (opp (ptO u).toNat) (ptO u).toNat = true then 1 else if H (opp (opp (ptO u).toNat)) (opp (ptO u).toNat) = true then 0 else 2)) : z = mfx Ld u := by
  obtain ⟨-, -, -, -, -, h⟩ := tr_all hr hp hm
  obtain ⟨h1, h2, h3, h4, h5⟩ := h hf
  rw [hz, tie_fixed h1 h2 h3 (by omega), ptO_p (by omega)]
theorem tr_implies {nv mm fl flm u v : Int} {f1 f2 m1 m2 V : Nat → Int} {T H K S Ld : Nat → Nat → Bool} {gd : Bool} (hr : rowI nv.toNat f1 f2 mm mm fl T H K) (hp : ∀ j : Nat, (j : Int) < mm → f1 j = ptO (m1 j) ∧ f2 j = ptO (m2 j)) (hm : mC nv mm m1 m2 S Ld V gd flm) (hf : fl = -1) (hu : u ≠ 0 ∧ -nv ≤ u ∧ u ≤ nv) (hv : v ≠ 0 ∧ -nv ≤ v ∧ v ≤ nv) :
    (H (ptO u).toNat (ptO v).toNat || (H (ptO u).toNat (opp (ptO u).toNat) || H (opp (ptO v).toNat) (ptO v).toNat)) = mfo Ld (ptO u).toNat (ptO v).toNat := by
  obtain ⟨-, -, -, -, -, h⟩ := tr_all hr hp hm
  obtain ⟨h1, h2, h3, h4, h5⟩ := h hf
  have a1 := ptO_lt hu
  have a2 := ptO_lt hv
  exact (tie_follows h1 h2 (by omega) (by omega)).symm
theorem tr_classes {nv mm fl flm : Int} {f1 f2 m1 m2 V : Nat → Int} {T H K S Ld : Nat → Nat → Bool} {gd : Bool} (hr : rowI nv.toNat f1 f2 mm mm fl T H K) (hp : ∀ j : Nat, (j : Int) < mm → f1 j = ptO (m1 j) ∧ f2 j = ptO (m2 j)) (hm : mC nv mm m1 m2 S Ld V gd flm) (hf : fl = -1) (hn : nv ≤ 80) :
    (aCls H K (2 * nv).toNat : Int) = (cN (fun a => mfr Ld a a) (2 * nv).toNat : Int) := by
  obtain ⟨-, -, -, -, e2, h⟩ := tr_all hr hp hm
  obtain ⟨h1, h2, h3, h4, h5⟩ := h hf
  rw [e2, tie_classes (by omega) h1 h2 h4 h3]
