/-! what a row of clauses is asked -/
def ptO (a : Int) : Int := if 0 < a then 2 * a - 2 else -2 * a - 1
theorem ptO_p {a : Int} (h : 0 < a) : ptO a = 2 * a - 2 := if_pos h
theorem ptO_n {a : Int} (h : ¬ 0 < a) : ptO a = -2 * a - 1 := if_neg h
theorem opp_even (t : Nat) : opp (2 * t) = 2 * t + 1 := by unfold opp; rw [if_pos (by omega)]
theorem opp_odd (t : Nat) : opp (2 * t + 1) = 2 * t := by unfold opp; rw [if_neg (by omega)]; omega
/-- what is held when the first t variables have been gone through -/
def hlS (H : Nat → Nat → Bool) : Nat → Nat → Bool
  | 0 => fun _ => false
  | t + 1 => if (hlS H t (2 * t) || hlS H t (2 * t + 1)) = true then hlS H t else fun y => hlS H t y || H (if H (2 * t + 1) (2 * t) = true then 2 * t else 2 * t + 1) y
/-- a literal that is true always, or never -/
def fixd (H : Nat → Nat → Bool) (l : Nat) : Bool := H (opp l) l || H l (opp l)
def freq (H K : Nat → Nat → Bool) (l : Nat) : Bool := !(fixd H l) && decide (fstB (fun p => H l p && K l p) 192 = (l : Int))
def aCls (H K : Nat → Nat → Bool) (N : Nat) : Nat := cN (freq H K) N + (if cN (fixd H) N ≠ 0 then 2 else 0)
/-- a walk round a variable's literals -/
def rndR (T : Nat → Nat → Bool) (v : Nat) (z : Int) : Prop :=
  (z = -1 ∧ (shB T (2 * v - 2) (2 * v - 1) (-1) ∨ shB T (2 * v - 1) (2 * v - 2) (-1))) ∨ ∃ z1 z2 : Int, 1 ≤ z1 ∧ z1 ≤ 160 ∧ 1 ≤ z2 ∧ z2 ≤ 160 ∧ z = z1 + z2 ∧ shB T (2 * v - 2) (2 * v - 1) z1 ∧ shB T (2 * v - 1) (2 * v - 2) z2
theorem shB_uniq {B : Nat → Nat → Bool} {u v : Nat} {z z' : Int} (h : shB B u v z) (h' : shB B u v z') : z = z' := by
  rcases h with ⟨h1, h2⟩ | ⟨k, h1, -, h3, h4, h5⟩ <;> rcases h' with ⟨g1, g2⟩ | ⟨j, g1, -, g3, g4, g5⟩
  · omega
  · exact absurd g4 (h2 j g1)
  · exact absurd h4 (g2 k h1)
  · rcases Nat.lt_trichotomy k j with q | q | q
    · exact absurd h4 (g5 k h1 q)
    · omega
    · exact absurd g4 (h5 j g1 q)
theorem rndR_uniq {T : Nat → Nat → Bool} {v : Nat} {z z' : Int} (h : rndR T v z) (h' : rndR T v z') : z = z' := by
  rcases h with ⟨h1, h2⟩ | ⟨a, b, ha, ha2, hb, hb2, h1, h2, h3⟩ <;> rcases h' with ⟨g1, g2⟩ | ⟨c, d, hc, hc2, hd, hd2, g1, g2, g3⟩
  · omega
  · rcases h2 with h2 | h2
    · have := shB_uniq h2 g2; omega
    · have := shB_uniq h2 g3; omega
  · rcases g2 with g2 | g2
    · have := shB_uniq g2 h2; omega
    · have := shB_uniq g2 h3; omega
  · have := shB_uniq h2 g2; have := shB_uniq h3 g3; omega
theorem rndR_rg {T : Nat → Nat → Bool} {v : Nat} {z : Int} (h : rndR T v z) : z = -1 ∨ (2 ≤ z ∧ z ≤ 320) := by
  rcases h with ⟨h1, -⟩ | ⟨a, b, ha, ha2, hb, hb2, h1, -⟩ <;> omega
/-- the shortest round among the first t variables, and the least variable that has it -/
def rdsR (T : Nat → Nat → Bool) (t : Nat) (sr lr : Int) : Prop :=
  (sr = -1 ∧ lr = -1 ∧ ∀ w, 1 ≤ w → w ≤ t → rndR T w (-1)) ∨
  ∃ v : Nat, 1 ≤ v ∧ v ≤ t ∧ lr = (v : Int) ∧ 2 ≤ sr ∧ sr ≤ 320 ∧ rndR T v sr ∧ ∀ w, 1 ≤ w → w ≤ t → ∃ z, rndR T w z ∧ (z = -1 ∨ sr ≤ z) ∧ (w < v → z = -1 ∨ sr < z)
theorem rdsR_0 {T : Nat → Nat → Bool} : rdsR T 0 (-1) (-1) := Or.inl ⟨rfl, rfl, fun w h1 h2 => by omega⟩
theorem rdsR_uniq {T : Nat → Nat → Bool} {t : Nat} {sr lr sr' lr' : Int} (h : rdsR T t sr lr) (h' : rdsR T t sr' lr') : sr = sr' ∧ lr = lr' := by
  rcases h with ⟨h1, h2, h3⟩ | ⟨v, v1, v2, v3, v4, v5, v6, v7⟩ <;> rcases h' with ⟨g1, g2, g3⟩ | ⟨w, w1, w2, w3, w4, w5, w6, w7⟩
  · omega
  · have := rndR_uniq (h3 w w1 w2) w6; omega
  · have := rndR_uniq (g3 v v1 v2) v6; omega
  · obtain ⟨z, z1, z2, z3⟩ := v7 w w1 w2
    obtain ⟨y, y1, y2, y3⟩ := w7 v v1 v2
    have e1 := rndR_uniq z1 w6
    have e2 := rndR_uniq y1 v6
    rcases Nat.lt_trichotomy v w with q | q | q
    · have := y3 q; omega
    · omega
    · have := z3 q; omega
theorem rdsR_none {T : Nat → Nat → Bool} {t : Nat} {sr lr : Int} (h : rdsR T t sr lr) (hz : rndR T (t + 1) (-1)) : rdsR T (t + 1) sr lr := by
  rcases h with ⟨h1, h2, h3⟩ | ⟨v, v1, v2, v3, v4, v5, v6, v7⟩
  · exact Or.inl ⟨h1, h2, fun w a b => by
      by_cases q : w = t + 1
      · rw [q]; exact hz
      · exact h3 w a (by omega)⟩
  · exact Or.inr ⟨v, v1, by omega, v3, v4, v5, v6, fun w a b => by
      by_cases q : w = t + 1
      · rw [q]; exact ⟨-1, hz, Or.inl rfl, fun _ => Or.inl rfl⟩
      · exact v7 w a (by omega)⟩
theorem rdsR_less {T : Nat → Nat → Bool} {t : Nat} {sr lr z : Int} (h : rdsR T t sr lr) (hz : rndR T (t + 1) z) (hne : z ≠ -1) (hlt : sr = -1 ∨ z < sr) : rdsR T (t + 1) z ((t + 1 : Nat) : Int) := by
  have hrg := rndR_rg hz
  refine Or.inr ⟨t + 1, by omega, by omega, rfl, by omega, by omega, hz, fun w a b => ?_⟩
  by_cases q : w = t + 1
  · rw [q]; exact ⟨z, hz, Or.inr (Int.le_refl _), fun x => by omega⟩
  · rcases h with ⟨h1, h2, h3⟩ | ⟨v, v1, v2, v3, v4, v5, v6, v7⟩
    · exact ⟨-1, h3 w a (by omega), Or.inl rfl, fun _ => Or.inl rfl⟩
    · obtain ⟨y, y1, y2, y3⟩ := v7 w a (by omega)
      exact ⟨y, y1, by omega, fun _ => by omega⟩
theorem rdsR_more {T : Nat → Nat → Bool} {t : Nat} {sr lr z : Int} (h : rdsR T t sr lr) (hz : rndR T (t + 1) z) (h1 : sr ≠ -1) (h2 : sr ≤ z) : rdsR T (t + 1) sr lr := by
  rcases h with ⟨q1, -⟩ | ⟨v, v1, v2, v3, v4, v5, v6, v7⟩
  · exact absurd q1 h1
  · exact Or.inr ⟨v, v1, by omega, v3, v4, v5, v6, fun w a b => by
      by_cases q : w = t + 1
      · rw [q]; exact ⟨z, hz, Or.inr h2, fun x => by omega⟩
      · exact v7 w a (by omega)⟩
/-- without a contradiction there is no walk round -/
theorem rds_good {S : Nat → Nat → Bool} {nv : Nat} (hn : ¬ contra S (2 * nv)) : ∀ t, t ≤ nv → rdsR S t (-1) (-1) := by
  intro t ht
  refine Or.inl ⟨rfl, rfl, fun w h1 h2 => Or.inl ⟨rfl, ?_⟩⟩
  have ho : opp (2 * w - 2) = 2 * w - 1 := by rw [show 2 * w - 2 = 2 * (w - 1) by omega, opp_even]; omega
  by_cases z : ∃ k, 1 ≤ k ∧ wk S k (2 * w - 2) (2 * w - 1)
  · right
    refine Or.inl ⟨rfl, fun k hk hw => ?_⟩
    obtain ⟨j, -, hj⟩ := z
    exact hn ⟨2 * w - 2, by omega, by rw [ho]; exact ⟨j, hj⟩, by rw [ho]; exact ⟨k, hw⟩⟩
  · left
    exact Or.inl ⟨rfl, fun k hk hw => z ⟨k, hk, hw⟩⟩
def radd (f1 f2 : Nat → Int) (mm : Int) (rn : Bool) (u v : Int) (g1 g2 : Nat → Int) (mm2 : Int) (rn2 : Bool) (z : Int) : Prop :=
  (z = -1 ∧ 400 ≤ mm ∧ g1 = f1 ∧ g2 = f2 ∧ mm2 = mm ∧ rn2 = rn) ∨ (z = mm + 1 ∧ mm < 400 ∧ g1 = va_up f1 mm.toNat u ∧ g2 = va_up f2 mm.toNat v ∧ mm2 = mm + 1 ∧ rn2 = false)
section VVA
variable {p : Program} {l : Launch} {e : Env} {R : Room} {s : State} {m : MethodId} {args : Array Value} {below : List Frame} {meth : Method} {c : Code} {G : vv_G} {A : Nat → Prop} {nL : Nat} {Q : State → Prop} {pc kc ks : Nat} {lv : List (Nat × Value)} {rest st : List Value} {ws ws' : va_W}
theorem cpy_iI (f : Nat → Int) (a b k : Nat) : va_cpy (fun j => iI (f j)) (fun j => iI (f j)) a b k = fun j => iI (va_cpy f f a b k j) := by
  funext j; unfold va_cpy; split <;> rfl
theorem vv_acopy {cc : ByteArray} {own nm : String} {ret : Option FieldType} {index a n : Nat} {f : Nat → Int} {sp dp k : Int} (F : vv_F p s m args meth c cc own nm ret G A nL) (d : decode cc pc = .ok (.invokestatic index, 3)) (hl : Cond.methodLink own index arraycopyName ∈ zW) (hn : Cond.native arraycopyName ∈ zW) (hs : Cond.static arraycopyName ∈ zW) (hi : Cond.initialized "java/lang/System" ∈ zW) (q : Nat) (ha : ws[q]? = some (ceI G a n f))
    (h1 : 0 ≤ sp ∧ 0 ≤ dp ∧ 0 ≤ k) (h2 : sp + k ≤ n) (h3 : dp + k ≤ n) (h4 : n < 2147483648) (hr : (rest.map fun v => v.category).sum ≤ 8) (hf : 1 ≤ R.frames) (hlo : 8 + (nativeFrameWords "java/lang/System" "arraycopy" 5 + 11) ≤ R.locals) (hw : ws.set q (ceI G a n (va_cpy f f sp.toNat dp.toNat k.toNat)) = ws')
    (kk : vv_V p l e R s m args below meth c G A nL Q (pc + 3) lv rest ws' kc ks) : vv_V p l e R s m args below meth c G A nL Q pc lv (.int (iI k) :: .int (iI dp) :: .ref a :: .int (iI sp) :: .ref a :: rest) ws kc ks := by
  subst hw
  intro H locs ls hP hD hS hl2
  have e1 : (iI sp).toNatClampNeg = sp.toNat := iI_cl ⟨h1.1, by omega⟩
  have e2 : (iI dp).toNatClampNeg = dp.toNat := iI_cl ⟨h1.2.1, by omega⟩
  have e3 : (iI k).toNatClampNeg = k.toNat := iI_cl ⟨h1.2.2, by omega⟩
  have nn : ∀ {z : Int}, 0 ≤ z → z < 2147483648 → ¬ iI z < 0 := fun {z} a b => by rw [← iI_0, iI_lt ⟨by omega, b⟩ (by decide)]; omega
  refine va_copyi F.1.1 F.1.2.1 (by rw [F.1.2.2.1]; exact hl2.1.symm) F.1.2.2.2.1 (F.1.2.2.2.2 _ hl) (F.1.2.2.2.2 _ hn) (F.1.2.2.2.2 _ hs) (F.1.2.2.2.2 _ hi) F.2.1 hP hD hS q q 0 0 ha ha rfl rfl rfl (nn h1.1 (by omega)) (nn h1.2.1 (by omega)) (nn h1.2.2 (by omega)) (by rw [e1, e3]; omega) (by rw [e2, e3]; omega) (fun _ _ => rfl) hf (by omega) d (fun H1 l1 hP1 hD1 hS1 => ?_)
  rw [e1, e2, e3, cpy_iI] at hP1 hD1
  exact kk H1 l1 ls hP1 hD1 hS1 hl2
end VVA
