/-! class and reference: one graph -/
theorem drG_num {B : Nat → Nat → Bool} {n : Nat} {num num' : Nat → Int} {D : Nat → Nat → Bool} (h : drG B num (fun _ _ => True) D) (hB : ∀ x y, B x y = true → x < n ∧ y < n) (e : ∀ a, a < n → num a = num' a) : drG B num' (fun _ _ => True) D := fun c d => by
  rw [h c d]
  constructor
  · rintro ⟨a, b, h1, h2, h3, h4, h5⟩
    obtain ⟨ha, hb⟩ := hB a b h1
    rw [e a ha] at h3 h4; rw [e b hb] at h3 h5
    exact ⟨a, b, h1, h2, h3, h4, h5⟩
  · rintro ⟨a, b, h1, h2, h3, h4, h5⟩
    obtain ⟨ha, hb⟩ := hB a b h1
    rw [← e a ha] at h3 h4; rw [← e b hb] at h3 h5
    exact ⟨a, b, h1, h2, h3, h4, h5⟩
theorem mK_tie {B : Nat → Nat → Bool} {n : Nat} {H K H2 D2 : Nat → Nat → Bool} {Nb Ls Nb2 Ls2 C2 : Nat → Int} {mn mn2 : Int} (hB : ∀ x y, B x y = true → x < n ∧ y < n) (hc : cl B n H K) (hN : numC n H Nb Ls mn) (h : mK B n H2 Nb2 Ls2 mn2 D2 C2) :
    mn2 = mn ∧ (∀ a, a < n → Nb2 a = Nb a) ∧ (∀ c : Nat, (c : Int) < mn → Ls2 c = Ls c) ∧ (∀ x y, x < n → y < n → H2 x y = H x y) ∧ drG B Nb (fun _ _ => True) D2 ∧ chm D2 mn 0 C2 := by
  obtain ⟨h1, h2, h3, h4⟩ := h
  have e := (cl_uniq hc h1).1
  rw [← e] at h2
  obtain ⟨u1, u2, u3⟩ := num_uniq hN h2
  refine ⟨u1.symm, fun a ha => (u2 a ha).symm, fun c hc' => (u3 c hc').symm, fun x y hx hy => ?_, drG_num h3 hB (fun a ha => (u2 a ha).symm), by rw [u1]; exact h4⟩
  rw [e, rsN_in hx hy]
theorem mal_tie {n : Nat} {H H2 D : Nat → Nat → Bool} {Ls Ls2 : Nat → Int} {mn : Int} {u : Nat} {onl : Bool} (hL : ∀ c : Nat, (c : Int) < mn → Ls2 c = Ls c) (hl : ∀ c : Nat, (c : Int) < mn → 0 ≤ Ls c ∧ Ls c < n) (hH : ∀ x y, x < n → y < n → H2 x y = H x y) : cN (mal D H2 Ls2 mn.toNat u onl) mn.toNat = cN (mal D H Ls mn.toNat u onl) mn.toNat := by
  refine cN_congr _ (fun d hd => ?_)
  unfold mal malb
  rw [cN_congr (f := malq D H2 Ls2 u d) (g := malq D H Ls u d) mn.toNat (fun e he => by
    unfold malq
    have a := hl e (by omega); have b := hl d (by omega)
    rw [hL e (by omega), hL d (by omega), hH _ _ (by omega) (by omega)])]
theorem mmis_tie {n : Nat} {H H2 D : Nat → Nat → Bool} {Ls Ls2 : Nat → Int} {mn : Int} (hL : ∀ c : Nat, (c : Int) < mn → Ls2 c = Ls c) (hl : ∀ c : Nat, (c : Int) < mn → 0 ≤ Ls c ∧ Ls c < n) (hH : ∀ x y, x < n → y < n → H2 x y = H x y) : mmis H2 Ls2 mn D = mmis H Ls mn D := by
  unfold mmis
  rw [cN_congr (f := fun c => decide (cN (mal D H2 Ls2 mn.toNat c false) mn.toNat = 0)) (g := fun c => decide (cN (mal D H Ls mn.toNat c false) mn.toNat = 0)) mn.toNat (fun c _ => by
    show decide (cN (mal D H2 Ls2 mn.toNat c false) mn.toNat = 0) = decide (cN (mal D H Ls mn.toNat c false) mn.toNat = 0)
    rw [mal_tie hL hl hH])]
theorem tie_ahead {B : Nat → Nat → Bool} {n u : Nat} {H K H2 : Nat → Nat → Bool} {v : Int} (hc : cl B n H K) (hn : n ≤ 160) (hH : ∀ x y, x < n → y < n → H2 x y = H x y) (hu : u < n) : cN (mcq H2 (u : Int) v) n = if v = 0 then cN (H u) 192 else cN (K u) 192 := by
  by_cases z : v = 0
  · rw [if_pos z, cN_cut2 (g := H u) (n := n) (fun q hq => ((hc.1 u q).mp hq).2.1) 192 (by omega)]
    exact cN_congr n (fun b hb => by unfold mcq; rw [if_pos z, Int.toNat_natCast, hH u b hu hb])
  · rw [if_neg z, cN_cut2 (g := K u) (n := n) (fun q hq => by rw [hc.2] at hq; exact ((hc.1 q u).mp hq).1) 192 (by omega)]
    exact cN_congr n (fun b hb => by unfold mcq; rw [if_neg z, Int.toNat_natCast, hH b u hb hu, hc.2])
