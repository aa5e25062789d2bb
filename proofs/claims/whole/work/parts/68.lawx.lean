/-! the law's own rows: its script, which is none of its cells; a long compared with itself -/
section VX
variable {p : Program} {l : Launch} {e : Env} {R : Room} {s : State} {m : MethodId} {args : Array Value} {below : List Frame} {meth : Method} {c : Code} {cc : ByteArray} {own nm : String} {ret : Option FieldType} {G : vv_G} {A : Nat → Prop} {nL : Nat} {Q : State → Prop} {pc kc ks : Nat} {lv : List (Nat × Value)} {rest : List Value} {ws : va_W}
theorem vv_xald {b L : Nat} {xs : Nat → Int32} {i : Int} (F : vv_F p s m args meth c cc own nm ret G A nL) (hX : va_X b L xs s s.heap ∧ ¬ A b) (d : decode cc pc = .ok (.iaload, 1)) (hi : 0 ≤ i ∧ i < L) (hL : L < 2147483648)
    (k : vv_V p l e R s m args below meth c G A nL Q (pc + 1) lv (.int (iI ((xs i.toNat).toInt)) :: rest) ws kc ks) : vv_V p l e R s m args below meth c G A nL Q pc lv (.int (iI i) :: .ref b :: rest) ws kc ks := by
  intro H locs ls hP hD hS hl
  have hlt : b < s.heap.size := by
    obtain ⟨scr, h1, -⟩ := hX.1
    exact (Array.getElem?_eq_some_iff.mp h1).1
  obtain ⟨scr, h1, h2, h3, h4, h5⟩ := hX.1.kept (H1 := H) (hS.2.1 b hlt hX.2)
  have hk := k H locs ls hP hD hS hl
  rw [iI_of] at hk
  have hcl : (iI i).toNatClampNeg = i.toNat := iI_cl ⟨hi.1, by omega⟩
  exact W.iald F.1.1 F.1.2.1 h1 h2 h3 (by
    have := iI_in hi hL
    unfold vp_in at this
    rw [h4]; exact this) (by rw [hcl]; exact h5 i.toNat (by omega)) rfl rfl d hk
theorem vv_xlen {b L : Nat} {xs : Nat → Int32} (F : vv_F p s m args meth c cc own nm ret G A nL) (hX : va_X b L xs s s.heap ∧ ¬ A b) (d : decode cc pc = .ok (.arraylength, 1))
    (k : vv_V p l e R s m args below meth c G A nL Q (pc + 1) lv (.int (iI (L : Int)) :: rest) ws kc ks) : vv_V p l e R s m args below meth c G A nL Q pc lv (.ref b :: rest) ws kc ks := by
  intro H locs ls hP hD hS hl
  have hlt : b < s.heap.size := by
    obtain ⟨scr, h1, -⟩ := hX.1
    exact (Array.getElem?_eq_some_iff.mp h1).1
  obtain ⟨scr, h1, h2, h3, h4, h5⟩ := hX.1.kept (H1 := H) (hS.2.1 b hlt hX.2)
  exact W.alen F.1.1 F.1.2.1 h1 h2 (by rw [h4]; exact (iI_nat L).symm) rfl rfl d (k H locs ls hP hD hS hl)
end VX
theorem lcs (x : Int64) : lg_cmp x x = iI 0 := by
  unfold lg_cmp
  simp
  try decide
theorem sbn_nil {s t : State} {locs : List Loc} {k n : Nat} (h : s.sameButNew t locs k n) (hl : ∀ q ∈ locs, s.heap.size ≤ q.base) : s.sameButNew t [] k n :=
  ⟨h.1, h.2.1, h.2.2.1, h.2.2.2.1, h.2.2.2.2.1, fun a c hc => by
    obtain ⟨c', h1, h2, h3, h4⟩ := h.2.2.2.2.2 a c hc
    exact ⟨c', h1, h2, h3, fun i _ => h4 i (fun hm => by
      have h5 := hl _ hm
      have h6 := (Array.getElem?_eq_some_iff.mp hc).1
      exact absurd h5 (Nat.not_le.mpr h6))⟩⟩
