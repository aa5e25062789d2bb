/-! class and reference: reach, sizes, goals -/
theorem cl_uniq {B : Nat → Nat → Bool} {n : Nat} {H K H' K' : Nat → Nat → Bool} (h : cl B n H K) (h' : cl B n H' K') : H = H' ∧ K = K' := by
  have e : H = H' := by
    funext x y
    have q := (h.1 x y).trans (h'.1 x y).symm
    cases hx : H x y <;> cases hy : H' x y <;> simp_all
  refine ⟨e, ?_⟩
  funext x y
  rw [h.2, h'.2, e]
theorem cN_cut2 {g : Nat → Bool} {n : Nat} (h : ∀ q, g q = true → q < n) : ∀ m, n ≤ m → cN g m = cN g n := by
  intro m
  induction m with
  | zero => intro hm; rw [show n = 0 by omega]
  | succ m ih =>
    intro hm
    by_cases z : n = m + 1
    · rw [z]
    · have : g m = false := by
        cases hg : g m with
        | false => rfl
        | true => have := h m hg; omega
      rw [cN_f this]; exact ih (by omega)
theorem tie_size {B : Nat → Nat → Bool} {n : Nat} {H K : Nat → Nat → Bool} {num lst : Nat → Int} {cnt : Int} (hc : cl B n H K) (h : numC n H num lst cnt) (hn : n ≤ 192) {c : Nat} (hcn : (c : Int) < cnt) :
    cN (fun p => H (lst c).toNat p && K (lst c).toNat p) 192 = cN (fun a => decide (num a = (c : Int))) n := by
  obtain ⟨x, x1, x2, x3, -⟩ := h.1.2.2.2 c hcn
  rw [x2, Int.toNat_natCast, cN_cut2 (n := n) (fun q hq => by rw [Bool.and_eq_true] at hq; exact ((hc.1 x q).mp hq.1).2.1) 192 hn]
  refine cN_congr n (fun a ha => ?_)
  have h3 := h.1.2.2.1 x a x1 ha (by omega)
  rw [x3] at h3
  show (H x a && K x a) = decide (num a = (c : Int))
  rw [hc.2 x a]
  by_cases z : num a = (c : Int)
  · rw [decide_eq_true z, (h3.mp z).1, (h3.mp z).2]; rfl
  · rw [decide_eq_false z]
    cases h1 : H x a with
    | false => rfl
    | true =>
      cases h2 : H a x with
      | false => rfl
      | true => exact absurd (h3.mpr ⟨h1, h2⟩) z
/-- as many in the image -/
theorem cN_img {f : Nat → Nat} {n : Nat} : ∀ (m : Nat) (g Z : Nat → Bool), (∀ d, d < m → g d = true → f d < n) → (∀ d d', d < m → d' < m → f d = f d' → d = d') → (∀ q, Z q = true ↔ ∃ d, d < m ∧ g d = true ∧ f d = q) → cN Z n = cN g m := by
  intro m
  induction m with
  | zero =>
    intro g Z h1 h2 h3
    exact cN_z (fun j hj => by
      cases hz : Z j with
      | false => rfl
      | true => obtain ⟨d, hd, -⟩ := (h3 j).mp hz; omega)
  | succ m ih =>
    intro g Z h1 h2 h3
    by_cases hg : g m = true
    · have e := ih g (fun q => Z q && !(decide (q = f m))) (fun d hd => h1 d (by omega)) (fun d d' hd hd' => h2 d d' (by omega) (by omega)) (fun q => by
        rw [Bool.and_eq_true, h3 q]
        constructor
        · rintro ⟨⟨d, d1, d2, d3⟩, hq⟩
          refine ⟨d, ?_, d2, d3⟩
          by_cases z : d = m
          · subst z; rw [← d3] at hq; simp at hq
          · omega
        · rintro ⟨d, d1, d2, d3⟩
          refine ⟨⟨d, by omega, d2, d3⟩, ?_⟩
          have : ¬ q = f m := fun z => by have := h2 d m (by omega) (by omega) (by omega); omega
          rw [decide_eq_false this]; rfl)
      have e2 : cN Z n = cN (fun q => (Z q && !(decide (q = f m))) || decide (q = f m)) n := cN_congr n (fun q _ => by
        by_cases z : q = f m
        · have : Z q = true := (h3 q).mpr ⟨m, by omega, hg, z.symm⟩
          rw [this, decide_eq_true z]; rfl
        · simp [z])
      rw [e2, cN_or (f := fun q => Z q && !(decide (q = f m))) (g := fun q => decide (q = f m)) n (fun q _ hq => by
        rw [Bool.and_eq_true] at hq
        cases hd : decide (q = f m) with
        | false => rfl
        | true => rw [hd] at hq; simp at hq), cN_single (h1 m (by omega) hg), e, cN_t hg]
    · have hg' : g m = false := by cases h : g m with | false => rfl | true => exact absurd h hg
      rw [cN_f hg']
      refine ih g Z (fun d hd => h1 d (by omega)) (fun d d' hd hd' => h2 d d' (by omega) (by omega)) (fun q => ?_)
      rw [h3 q]
      constructor
      · rintro ⟨d, d1, d2, d3⟩
        refine ⟨d, ?_, d2, d3⟩
        by_cases z : d = m
        · subst z; exact absurd d2 hg
        · omega
      · rintro ⟨d, d1, d2, d3⟩; exact ⟨d, by omega, d2, d3⟩
theorem lst_inj {n : Nat} {H : Nat → Nat → Bool} {num lst : Nat → Int} {cnt : Int} (h : numC n H num lst cnt) : ∀ d d', d < cnt.toNat → d' < cnt.toNat → (lst d).toNat = (lst d').toNat → d = d' := fun d d' h1 h2 e => by
  obtain ⟨x, x1, x2, x3, -⟩ := h.1.2.2.2 d (by omega)
  obtain ⟨y, y1, y2, y3, -⟩ := h.1.2.2.2 d' (by omega)
  have : x = y := by omega
  subst this
  omega
/-- the goals of a part, by their least nodes -/
theorem gset_D {B : Nat → Nat → Bool} {n : Nat} {H : Nat → Nat → Bool} {num lst : Nat → Int} {cnt : Int} {u : Nat} {Z D : Nat → Nat → Bool} (h : numC n H num lst cnt) (hB : ∀ x y, B x y = true → x < n ∧ y < n)
    (hZ : gset B num lst (u : Int) (fun _ _ => True) Z) (hD : drG B num (fun _ _ => True) D) : ∀ q, Z 0 q = true ↔ ∃ d, d < cnt.toNat ∧ D u d = true ∧ (lst d).toNat = q := fun q => by
  obtain ⟨k1, k2, -, -⟩ := numC_in h
  rw [hZ q]
  constructor
  · rintro ⟨a, b, h1, -, h3, h4, h5⟩
    have hb := k1 b (hB a b h1).2
    exact ⟨(num b).toNat, by omega, (hD u _).mpr ⟨a, b, h1, trivial, by omega, h3, by omega⟩, by omega⟩
  · rintro ⟨d, d1, d2, d3⟩
    obtain ⟨a, b, h1, -, h3, h4, h5⟩ := (hD u d).mp d2
    have := k2 d (by omega)
    exact ⟨a, b, h1, trivial, h4, by omega, by rw [h5, Int.toNat_natCast]; omega⟩
theorem tie_goals {B : Nat → Nat → Bool} {n : Nat} {H : Nat → Nat → Bool} {num lst : Nat → Int} {cnt : Int} {u : Nat} {Z D T : Nat → Nat → Bool} (h : numC n H num lst cnt) (hn : n ≤ 160) (hB : ∀ x y, B x y = true → x < n ∧ y < n)
    (hZ : gset B num lst (u : Int) (fun _ _ => True) Z) (hD : drG B num (fun _ _ => True) D) : cN (Z 0) 192 = cN (mal D T lst cnt.toNat u false) cnt.toNat := by
  obtain ⟨k1, k2, -, -⟩ := numC_in h
  have e : mal D T lst cnt.toNat u false = D u := by funext d; simp [mal, malb]
  rw [e]
  exact cN_img (f := fun d => (lst d).toNat) cnt.toNat (D u) (Z 0) (fun d hd _ => by have := k2 d (by omega); show (lst d).toNat < 192; omega) (lst_inj h) (gset_D h hB hZ hD)
theorem tie_alone {B : Nat → Nat → Bool} {n : Nat} {H K : Nat → Nat → Bool} {num lst : Nat → Int} {cnt : Int} {u : Nat} {Z D : Nat → Nat → Bool} (hc : cl B n H K) (h : numC n H num lst cnt) (hn : n ≤ 160) (hB : ∀ x y, B x y = true → x < n ∧ y < n)
    (hZ : gset B num lst (u : Int) (fun _ _ => True) Z) (hD : drG B num (fun _ _ => True) D) : cN (fun b => Z 0 b && decide (cN (fun p => K b p && Z 0 p) 192 = 1)) 192 = cN (mal D H lst cnt.toNat u true) cnt.toNat := by
  obtain ⟨k1, k2, -, -⟩ := numC_in h
  have hgD := gset_D h hB hZ hD
  have inner : ∀ d, d < cnt.toNat → D u d = true → cN (fun p => K (lst d).toNat p && Z 0 p) 192 = cN (malq D H lst u d) cnt.toNat + 1 := fun d hd hDd => by
    have hk := k2 d (by omega)
    rw [cN_img (f := fun e => (lst e).toNat) cnt.toNat (fun e => D u e && H (lst e).toNat (lst d).toNat) (fun p => K (lst d).toNat p && Z 0 p) (fun e he _ => by have := k2 e (by omega); show (lst e).toNat < 192; omega) (lst_inj h) (fun q => by
      rw [Bool.and_eq_true, hc.2, hgD q]
      constructor
      · rintro ⟨a, e, e1, e2, e3⟩
        exact ⟨e, e1, by show (D u e && H (lst e).toNat (lst d).toNat) = true; rw [e2, show (lst e).toNat = q from e3, a]; rfl, e3⟩
      · rintro ⟨e, e1, e2, e3⟩
        have e2' : (D u e && H (lst e).toNat (lst d).toNat) = true := e2
        rw [Bool.and_eq_true] at e2'
        exact ⟨by rw [← show (lst e).toNat = q from e3]; exact e2'.2, e, e1, e2'.1, e3⟩)]
    have e2 : cN (fun e => D u e && H (lst e).toNat (lst d).toNat) cnt.toNat = cN (fun e => malq D H lst u d e || decide (e = d)) cnt.toNat := cN_congr _ (fun e _ => by
      show (D u e && H (lst e).toNat (lst d).toNat) = (malq D H lst u d e || decide (e = d))
      by_cases z : e = d
      · rw [z, hDd, (hc.1 _ _).mpr ⟨by omega, by omega, rch_refl B _⟩, decide_eq_true rfl, Bool.or_true]; rfl
      · unfold malq; rw [decide_eq_false z, Bool.or_false]; rfl)
    rw [e2, cN_or (f := malq D H lst u d) (g := fun e => decide (e = d)) cnt.toNat (fun e _ he => decide_eq_false (fun z => by rw [malq_e z] at he; cases he)), cN_single hd]
  refine cN_img (f := fun d => (lst d).toNat) cnt.toNat (mal D H lst cnt.toNat u true) _ (fun d hd _ => by have := k2 d (by omega); show (lst d).toNat < 192; omega) (lst_inj h) (fun q => ?_)
  have em : ∀ d, mal D H lst cnt.toNat u true d = (D u d && decide (cN (malq D H lst u d) cnt.toNat = 0)) := fun d => by unfold mal malb; rfl
  show (Z 0 q && decide (cN (fun p => K q p && Z 0 p) 192 = 1)) = true ↔ _
  rw [Bool.and_eq_true, hgD q]
  constructor
  · rintro ⟨⟨d, d1, d2, d3⟩, hq⟩
    rw [← d3, inner d d1 d2] at hq
    have := of_decide_eq_true hq
    exact ⟨d, d1, by rw [em, d2, decide_eq_true (by omega)]; rfl, d3⟩
  · rintro ⟨d, d1, d2, d3⟩
    rw [em, Bool.and_eq_true] at d2
    have := of_decide_eq_true d2.2
    exact ⟨⟨d, d1, d2.1, d3⟩, by rw [← d3, show cN (fun p => K ((fun d => (lst d).toNat) d) p && Z 0 p) 192 = _ from inner d d1 d2.1]; exact decide_eq_true (by omega)⟩
