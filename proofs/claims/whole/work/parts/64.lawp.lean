/-! the two sides' common state, and what each call does to it (pure) -/
theorem cN_set {f g : Nat → Bool} {k : Nat} (hf : f k = false) (hg : g k = true) (he : ∀ j, j ≠ k → g j = f j) : ∀ N, k < N → cN g N = cN f N + 1
  | 0, h => absurd h (Nat.not_lt_zero _)
  | N + 1, h => by
    rw [cN_s, cN_s]
    by_cases e : N = k
    · subst e
      rw [hf, hg, cN_congr (f := g) (g := f) N (fun j hj => he j (by omega))]
      simp
    · rw [cN_set hf hg he N (by omega), he N e]
      omega
/-- how many arcs there are -/
def aC (B : Nat → Nat → Bool) : Nat := cN (fz B) 25600
theorem aC_0 : aC (fun _ _ => false) = 0 := by
  have : ∀ N, cN (fz (fun _ _ => false)) N = 0 := fun N => by
    induction N with
    | zero => rfl
    | succ N ih => rw [cN_s, ih]; rfl
  exact this _
theorem fz_uv {B : Nat → Nat → Bool} {u v : Nat} (hv : v < 160) : fz B (160 * u + v) = B u v := by
  unfold fz
  rw [show (160 * u + v) / 160 = u by omega, show (160 * u + v) % 160 = v by omega]
theorem fz_ne {B : Nat → Nat → Bool} {u v j : Nat} {b : Bool} (hv : v < 160) (h : j ≠ 160 * u + v) : fz (bP B u v b) j = fz B j := by
  unfold fz bP
  rw [if_neg (by omega)]
theorem aC_put {B : Nat → Nat → Bool} {u v : Nat} (hu : u < 160) (hv : v < 160) (h : B u v = false) : aC (bP B u v true) = aC B + 1 :=
  cN_set (k := 160 * u + v) (by rw [fz_uv hv]; exact h) (by rw [fz_uv hv]; unfold bP; rw [if_pos ⟨rfl, rfl⟩]) (fun j hj => fz_ne hv hj) _ (by omega)
theorem aC_cut {B : Nat → Nat → Bool} {u v : Nat} (hu : u < 160) (hv : v < 160) (h : B u v = true) : aC B = aC (bP B u v false) + 1 :=
  cN_set (k := 160 * u + v) (by rw [fz_uv hv]; unfold bP; rw [if_pos ⟨rfl, rfl⟩]) (by rw [fz_uv hv]; exact h) (fun j hj => (fz_ne hv hj).symm) _ (by omega)
/-- the class's graph -/
def gC (j : Int) (B : Nat → Nat → Bool) (n ac : Int) (rk : Bool) (ch : Int) (H K : Nat → Nat → Bool) (cs mn : Int) (Nb Ls : Nat → Int) : Prop :=
  (1 ≤ n ∧ n ≤ 160) ∧ (∀ x y, B x y = true → x < n.toNat ∧ y < n.toNat) ∧ (ac = (aC B : Int) ∧ ac ≤ 1000) ∧ (wfB H ∧ wfB K) ∧ (rk = true → cl B n.toNat H K) ∧ (cs = ch → rk = true ∧ numC n.toNat H Nb Ls mn) ∧ (0 ≤ cs ∧ cs ≤ ch ∧ ch ≤ j + 1)
/-- the reference's graph -/
def gM (B : Nat → Nat → Bool) (n : Int) (gk : Bool) (H : Nat → Nat → Bool) (Nb Ls : Nat → Int) (mn : Int) (D : Nat → Nat → Bool) (C : Nat → Int) : Prop := gk = true → mK B n.toNat H Nb Ls mn D C
theorem gC_next {j : Int} {B : Nat → Nat → Bool} {n ac : Int} {rk : Bool} {ch : Int} {H K : Nat → Nat → Bool} {cs mn : Int} {Nb Ls : Nat → Int} (h : gC j B n ac rk ch H K cs mn Nb Ls) : gC (j + 1) B n ac rk ch H K cs mn Nb Ls :=
  ⟨h.1, h.2.1, h.2.2.1, h.2.2.2.1, h.2.2.2.2.1, h.2.2.2.2.2.1, by have := h.2.2.2.2.2.2; omega⟩
theorem gC_ren {j : Int} {B : Nat → Nat → Bool} {n ac : Int} {rk : Bool} {ch : Int} {H K H2 K2 : Nat → Nat → Bool} {cs mn mn2 : Int} {Nb Ls Nb2 Ls2 : Nat → Int} (h : gC j B n ac rk ch H K cs mn Nb Ls) (hc : cl B n.toNat H2 K2) (hN : numC n.toNat H2 Nb2 Ls2 mn2) : gC (j + 1) B n ac true ch H2 K2 ch mn2 Nb2 Ls2 := by
  obtain ⟨h1, h2, h3, h4, h5, h6, h7⟩ := h
  exact ⟨h1, h2, h3, cl_wf hc (by omega), fun _ => hc, fun _ => ⟨rfl, hN⟩, by omega⟩
theorem gC_set {j : Int} {B : Nat → Nat → Bool} {n ac : Int} {rk : Bool} {ch : Int} {H K H2 K2 : Nat → Nat → Bool} {cs mn : Int} {Nb Ls : Nat → Int} (h : gC j B n ac rk ch H K cs mn Nb Ls) (hc : cl B n.toNat H2 K2) : gC (j + 1) B n ac true ch H2 K2 cs mn Nb Ls := by
  obtain ⟨h1, h2, h3, h4, h5, h6, h7⟩ := h
  refine ⟨h1, h2, h3, cl_wf hc (by omega), fun _ => hc, fun q => ?_, by omega⟩
  obtain ⟨g1, g2⟩ := h6 q
  rw [← (cl_uniq (h5 g1) hc).1]
  exact ⟨rfl, g2⟩
theorem gC_begin {j u ch cs mn : Int} {Nb Ls : Nat → Int} (hu : 1 ≤ u ∧ u ≤ 160) (h7 : 0 ≤ cs ∧ cs ≤ ch ∧ ch ≤ j + 1) : gC (j + 1) (fun _ _ => false) u 0 true (ch + 1) (idB u.toNat) (idB u.toNat) cs mn Nb Ls :=
  ⟨hu, fun x y q => (by cases q), ⟨by rw [aC_0]; rfl, by omega⟩, ⟨idB_wf (by omega), idB_wf (by omega)⟩, fun _ => cl_id _, fun q => by omega, by omega⟩
theorem gC_add {j : Int} {B B2 : Nat → Nat → Bool} {n ac ac2 : Int} {rk : Bool} {ch ch2 : Int} {H K H2 K2 : Nat → Nat → Bool} {cs mn : Int} {Nb Ls : Nat → Int} {u v z : Int} (h : gC j B n ac rk ch H K cs mn Nb Ls) (hu : 0 ≤ u ∧ u < n) (hv : 0 ≤ v ∧ v < n) (ha : nadd B ac rk H K ch u.toNat v.toNat B2 ac2 ch2 H2 K2 z) : gC (j + 1) B2 n ac2 rk ch2 H2 K2 cs mn Nb Ls := by
  rcases ha with ⟨-, -, rfl, rfl, rfl, rfl, rfl⟩ | ⟨-, b1, b2, rfl, rfl, rfl, rfl, rfl⟩
  · exact gC_next h
  · obtain ⟨h1, h2, h3, h4, h5, h6, h7⟩ := h
    refine ⟨h1, fun x y q => ?_, ⟨by rw [aC_put (by omega) (by omega) b1]; omega, by omega⟩, ?_, fun q => ?_, fun q => by omega, by omega⟩
    · rcases bP_iff.mp q with ⟨rfl, rfl⟩ | q
      · omega
      · exact h2 x y q
    · cases rk
      · exact h4
      · exact ⟨ldA_wf h4.1 h4.2, ldB_wf h4.1 h4.2⟩
    · subst q
      exact cl_lead (h5 rfl) (by omega) (by omega)
theorem gC_rem {j : Int} {B B2 : Nat → Nat → Bool} {n ac ac2 : Int} {rk rk2 : Bool} {ch ch2 : Int} {H K : Nat → Nat → Bool} {cs mn : Int} {Nb Ls : Nat → Int} {u v : Int} {z : Bool} (h : gC j B n ac rk ch H K cs mn Nb Ls) (hu : 0 ≤ u ∧ u < n) (hv : 0 ≤ v ∧ v < n) (ha : nrem B ac rk ch u.toNat v.toNat B2 ac2 rk2 ch2 z) : gC (j + 1) B2 n ac2 rk2 ch2 H K cs mn Nb Ls := by
  rcases ha with ⟨-, -, rfl, rfl, rfl, rfl⟩ | ⟨-, b1, rfl, rfl, rfl, rfl⟩
  · exact gC_next h
  · obtain ⟨h1, h2, h3, h4, h5, h6, h7⟩ := h
    refine ⟨h1, fun x y q => ?_, ⟨by have := aC_cut (B := B) (u := u.toNat) (v := v.toNat) (by omega) (by omega) b1; omega, by omega⟩, h4, fun q => (by cases q), fun q => by omega, by omega⟩
    unfold bP at q
    split at q
    · cases q
    · exact h2 x y q
/-- the class's clauses -/
def rC (nv mm tk fl : Int) (rn : Bool) (sr lr : Int) (f1 f2 : Nat → Int) (T H K : Nat → Nat → Bool) : Prop :=
  (1 ≤ nv ∧ nv ≤ 80) ∧ (0 ≤ mm ∧ mm ≤ 400) ∧ rowI nv.toNat f1 f2 mm tk fl T H K ∧ (rn = true → rdsR (stB f1 f2 mm.toNat) nv.toNat sr lr)
/-- the reference's -/
def rM (nv mm : Int) (f1 f2 : Nat → Int) (ck : Bool) (m1 m2 : Nat → Int) (S Ld : Nat → Nat → Bool) (V : Nat → Int) (gd : Bool) (flm : Int) : Prop :=
  (∀ j : Nat, (j : Int) < mm → f1 j = ptO (m1 j) ∧ f2 j = ptO (m2 j)) ∧ (∀ j : Nat, (j : Int) < mm → ¬ nli nv (m1 j) ∧ ¬ nli nv (m2 j)) ∧ (ck = true → mC nv mm m1 m2 S Ld V gd flm)
