/-! a table's rows together: join, count, least, unseen -/
def jB (B : Nat → Nat → Bool) (r : Nat) (C : Nat → Nat → Bool) (t k : Nat) : Nat → Nat → Bool := fun x y => if x = r ∧ y < 64 * k then B x y || C t y else B x y
theorem jB_0 (B : Nat → Nat → Bool) (r : Nat) (C : Nat → Nat → Bool) (t : Nat) : jB B r C t 0 = B := by funext x y; unfold jB; rw [if_neg (by omega)]
theorem ix3 {r i : Int} (h0 : 0 ≤ r) (hi : 0 ≤ i) : (r * 3 + i).toNat = 3 * r.toNat + i.toNat := by omega
theorem tw_up {B B' : Nat → Nat → Bool} {r k : Nat} {v : Int64} (hk : k < 3) (hv : ∀ j, j < 64 → bA v j = B' r (64 * k + j)) (ho : ∀ x q j, q < 3 → j < 64 → (x = r → q ≠ k) → B' x (64 * q + j) = B x (64 * q + j)) : va_up (tw B) (3 * r + k) v = tw B' := by
  refine tw_ext (fun x q j hq hj => ?_)
  unfold va_up
  by_cases e : 3 * x + q = 3 * r + k
  · have h1 : x = r := by omega
    have h2 : q = k := by omega
    subst h1; subst h2
    rw [if_pos rfl, hv j hj]
  · rw [if_neg e, tw_at B x q j hq hj, ho x q j hq hj (fun h => by omega)]
theorem jn_step {B C : Nat → Nat → Bool} {r t i : Int} {f : Nat → Int64} {v : Int64} (hr : 0 ≤ r) (ht : 0 ≤ t) (hi : 0 ≤ i ∧ i < 3) (hf : f = tw (jB B r.toNat C t.toNat i.toNat)) (hv : v = tw C (t * 3 + i).toNat) : va_up f (r * 3 + i).toNat (f (r * 3 + i).toNat ||| v) = tw (jB B r.toNat C t.toNat (i + 1).toNat) := by
  subst hf hv
  rw [ix3 hr hi.1, ix3 ht hi.1]
  refine tw_up (by omega) (fun j hj => ?_) (fun x q j hq hj h => ?_)
  · rw [bA_or, tw_at _ _ _ _ (by omega) hj, tw_at _ _ _ _ (by omega) hj]
    unfold jB
    rw [if_neg (by omega), if_pos ⟨rfl, by omega⟩]
  · unfold jB
    by_cases e : x = r.toNat
    · have := h e
      by_cases z : q < i.toNat
      · rw [if_pos ⟨e, by omega⟩, if_pos ⟨e, by omega⟩]
      · rw [if_neg (by omega), if_neg (by omega)]
    · rw [if_neg (by omega), if_neg (by omega)]
theorem jn_self {B : Nat → Nat → Bool} {r t i : Int} (ht : 0 ≤ t) (hi : 0 ≤ i ∧ i < 3) : tw (jB B r.toNat B t.toNat i.toNat) (t * 3 + i).toNat = tw B (t * 3 + i).toNat := by
  rw [ix3 ht hi.1]
  apply bA_ext
  intro j hj
  rw [tw_at _ _ _ _ (by omega) hj, tw_at _ _ _ _ (by omega) hj]
  unfold jB
  rw [if_neg (by omega)]
theorem and_wL {B C : Nat → Nat → Bool} {r t i : Int} (hr : 0 ≤ r) (ht : 0 ≤ t) (hi : 0 ≤ i ∧ i < 3) : tw B (r * 3 + i).toNat &&& tw C (t * 3 + i).toNat = wL (fun j => B r.toNat (64 * i.toNat + j) && C t.toNat (64 * i.toNat + j)) := by
  rw [ix3 hr hi.1, ix3 ht hi.1]
  refine wL_ext (fun j hj => ?_)
  rw [bA_and, tw_at _ _ _ _ (by omega) hj, tw_at _ _ _ _ (by omega) hj]
theorem tw_wL {B : Nat → Nat → Bool} {r i : Int} (hr : 0 ≤ r) (hi : 0 ≤ i ∧ i < 3) : tw B (r * 3 + i).toNat = wL (fun j => B r.toNat (64 * i.toNat + j)) := by
  rw [ix3 hr hi.1]
  refine wL_ext (fun j hj => ?_)
  rw [tw_at _ _ _ _ (by omega) hj]
theorem cN_word (g : Nat → Bool) {i : Int} (hi : 0 ≤ i) : cN g (64 * (i + 1).toNat) = cN g (64 * i.toNat) + cN (fun j => g (64 * i.toNat + j)) 64 := by
  rw [show 64 * (i + 1).toNat = 64 * i.toNat + 64 by omega]; exact cN_split g _ 64
/-- the least of the first n, or -1 -/
def fstB (g : Nat → Bool) : Nat → Int
  | 0 => -1
  | n + 1 => if fstB g n ≠ -1 then fstB g n else if g n = true then (n : Int) else -1
theorem fstB_no {g : Nat → Bool} : ∀ n, (∀ j, j < n → g j = false) → fstB g n = -1
  | 0, _ => rfl
  | n + 1, h => by
    unfold fstB
    rw [fstB_no n (fun j hj => h j (by omega)), h n (by omega)]
    simp
theorem fstB_is {g : Nat → Bool} {a : Nat} (h0 : ∀ j, j < a → g j = false) (h1 : g a = true) : ∀ n, a < n → fstB g n = (a : Int)
  | 0, h => by omega
  | n + 1, h => by
    unfold fstB
    by_cases q : a = n
    · subst q
      rw [fstB_no a h0, h1]
      simp
    · rw [fstB_is h0 h1 n (by omega), if_pos (by omega)]
theorem fst_at {g : Nat → Bool} {a k : Nat} (hk : k < 3) (ha : a < 64) (hl : ∀ j, j < 64 * k → g j = false) (h0 : ∀ j, j < a → g (64 * k + j) = false) (h1 : g (64 * k + a) = true) : fstB g 192 = ((64 * k + a : Nat) : Int) :=
  fstB_is (fun j hj => by
    by_cases q : j < 64 * k
    · exact hl j q
    · have := h0 (j - 64 * k) (by omega)
      rwa [show 64 * k + (j - 64 * k) = j by omega] at this) h1 192 (by omega)
/-- what one row has and another hasn't; and the other with it -/
def uF (Fr O S : Nat → Nat → Bool) (t k : Nat) : Nat → Nat → Bool := fun x y => if x = 0 ∧ y < 64 * k then O t y && !(S 0 y) else Fr x y
def uS (S O : Nat → Nat → Bool) (t k : Nat) : Nat → Nat → Bool := fun x y => if x = 0 ∧ y < 64 * k then S 0 y || O t y else S x y
theorem uF_0 (Fr O S : Nat → Nat → Bool) (t : Nat) : uF Fr O S t 0 = Fr := by funext x y; unfold uF; rw [if_neg (by omega)]
theorem uS_0 (S O : Nat → Nat → Bool) (t : Nat) : uS S O t 0 = S := by funext x y; unfold uS; rw [if_neg (by omega)]
theorem uF_step {Fr O S : Nat → Nat → Bool} {t i : Int} {f h : Nat → Int64} (ht : 0 ≤ t) (hi : 0 ≤ i ∧ i < 3) (hf : f = tw (uF Fr O S t.toNat i.toNat)) (hh : h = tw (uS S O t.toNat i.toNat)) : va_up f i.toNat (tw O (t * 3 + i).toNat &&& (h i.toNat ^^^ (-1))) = tw (uF Fr O S t.toNat (i + 1).toNat) := by
  subst hf hh
  rw [ix3 ht hi.1]
  have e : i.toNat = 3 * 0 + i.toNat := by omega
  have := @tw_up (uF Fr O S t.toNat i.toNat) (uF Fr O S t.toNat (i + 1).toNat) 0 i.toNat (tw O (3 * t.toNat + i.toNat) &&& (tw (uS S O t.toNat i.toNat) i.toNat ^^^ (-1))) (by omega) (fun j hj => ?_) (fun x q j hq hj h => ?_)
  · rwa [← e] at this
  · rw [bA_and, bA_not _ hj, tw_at _ _ _ _ (by omega) hj, e, tw_at _ _ _ _ (by omega) hj, ← e]
    unfold uF uS
    rw [if_neg (by omega), if_pos ⟨rfl, by omega⟩]
  · unfold uF
    by_cases z : x = 0
    · have := h z
      by_cases y : q < i.toNat
      · rw [if_pos ⟨z, by omega⟩, if_pos ⟨z, by omega⟩]
      · rw [if_neg (by omega), if_neg (by omega)]
    · rw [if_neg (by omega), if_neg (by omega)]
theorem uS_step {Fr O S : Nat → Nat → Bool} {t i : Int} {f h : Nat → Int64} (ht : 0 ≤ t) (hi : 0 ≤ i ∧ i < 3) (hf : f = tw (uF Fr O S t.toNat i.toNat)) (hh : h = tw (uS S O t.toNat i.toNat)) : va_up h i.toNat (h i.toNat ||| va_up f i.toNat (tw O (t * 3 + i).toNat &&& (h i.toNat ^^^ (-1))) i.toNat) = tw (uS S O t.toNat (i + 1).toNat) := by
  rw [uF_step ht hi hf hh]
  subst hf hh
  have e : i.toNat = 3 * 0 + i.toNat := by omega
  have := @tw_up (uS S O t.toNat i.toNat) (uS S O t.toNat (i + 1).toNat) 0 i.toNat (tw (uS S O t.toNat i.toNat) i.toNat ||| tw (uF Fr O S t.toNat (i + 1).toNat) i.toNat) (by omega) (fun j hj => ?_) (fun x q j hq hj h => ?_)
  · rwa [← e] at this
  · rw [bA_or, e, tw_at _ _ _ _ (by omega) hj, tw_at _ _ _ _ (by omega) hj, ← e]
    unfold uF uS
    rw [if_neg (by omega), if_pos ⟨rfl, by omega⟩, if_pos ⟨rfl, by omega⟩]
    cases S 0 (64 * i.toNat + j) <;> simp
  · unfold uS
    by_cases z : x = 0
    · have := h z
      by_cases y : q < i.toNat
      · rw [if_pos ⟨z, by omega⟩, if_pos ⟨z, by omega⟩]
      · rw [if_neg (by omega), if_neg (by omega)]
    · rw [if_neg (by omega), if_neg (by omega)]
theorem wL_zero {g : Nat → Bool} : (lg_cmp (wL g) 0).toInt = 0 ↔ ∀ j, j < 64 → g j = false := by
  rw [cmp0]
  constructor
  · intro h j hj
    have := congrArg (fun y => bA y j) h
    simpa [wL_bit, hj, bA_0] using this
  · intro h
    rw [wL_congr (g := fun _ => false) h, wL_0]
theorem wL_nz {g : Nat → Bool} (h : (lg_cmp (wL g) 0).toInt ≠ 0) : ∃ a, a < 64 ∧ g a = true ∧ ∀ j, j < a → g j = false := by
  have hc : cN g 64 ≠ 0 := by
    intro hz
    apply h
    rw [wL_zero]
    intro j hj
    cases hb : g j with
    | false => rfl
    | true => have := cN_strict hj hb; omega
  exact least_of 64 hc
section VVE
variable {p : Program} {l : Launch} {e : Env} {R : Room} {s : State} {m : MethodId} {args : Array Value} {below : List Frame} {meth : Method} {c : Code} {G : vv_G} {A : Nat → Prop} {nL : Nat} {Q : State → Prop} {pc kc ks : Nat} {lv : List (Nat × Value)} {rest st : List Value} {ws ws' : va_W}
theorem vv_thenE {v0 : Option Value} {wr w0 ws' : va_W} {st' : List Value} {kc' ks' : Nat} (js : List Nat) (hj : js.map (fun i => (wr ++ w0)[i]?) = ws'.map some) (hnj : va_nd js = true) (hst : v0.toList ++ rest = st') (k : vv_V p l e R s m args below meth c G A nL Q pc lv st' ws' kc' ks') : vv_V p l e R s m args below meth c G A nL Q pc lv (v0.toList ++ rest) (wr ++ w0) kc' ks' := by
  subst hst
  exact vv_cells js hnj hj k
theorem vv_max {cc : ByteArray} {own nm : String} {ret : Option FieldType} {index : Nat} {x y : Int} (F : vv_F p s m args meth c cc own nm ret G A nL) (d : decode cc pc = .ok (.invokestatic index, 3)) (hl : Cond.methodLink own index zy_MA_max ∈ zW) (hx : rg x) (hy : rg y) (hs : Cond.static zy_MA_max ∈ zW) (hi : Cond.initialized "java/lang/Math" ∈ zW) (hc : Cond.code zy_MA_max Lib.Math.max.code 2 (some .int) ∈ zW) (hr : (rest.map fun v => v.category).sum ≤ 8) (h1 : 1 ≤ R.frames) (h2 : 21 ≤ R.locals) (h3 : kc ≤ R.cells) (h4 : ks ≤ R.slots)
    (k : vv_V p l e R s m args below meth c G A nL Q (pc + 3) lv (.int (iI (max x y)) :: rest) ws kc ks) : vv_V p l e R s m args below meth c G A nL Q pc lv (.int (iI y) :: .int (iI x) :: rest) ws kc ks := by
  intro H locs ls hP hD hS hl2
  refine va_mmax F.1.1 F.1.2.1 (by rw [F.1.2.2.1]; exact hl2.1.symm) F.1.2.2.2.1 (F.1.2.2.2.2 _ hl) (F.1.2.2.2.2 _ hs) (F.1.2.2.2.2 _ hi) (F.1.2.2.2.2 _ hc) h1 (by omega) h3 h4 d ?_
  have e : (if iI x < iI y then iI y else iI x) = iI (max x y) := by
    by_cases q : x < y
    · rw [if_pos ((iI_lt hx hy).mpr q), show max x y = y by omega]
    · rw [if_neg (fun z => q ((iI_lt hx hy).mp z)), show max x y = x by omega]
  rw [e]
  exact k H locs ls hP hD hS hl2
end VVE
