/-! numbers: an int by an integer; the judgement vv_V (a method at pc, with its locals, stack and cells); a row an instruction -/
def iI (z : Int) : Int32 := Int32.ofInt z
abbrev rg (z : Int) : Prop := -2147483648 ≤ z ∧ z < 2147483648
def bZ (b : Bool) : Int := if b = true then 1 else 0
theorem bZ_t : bZ true = 1 := rfl
theorem bZ_f : bZ false = 0 := rfl
theorem bZ_rg (b : Bool) : rg (bZ b) := by cases b <;> decide
theorem bZ_0 (b : Bool) : bZ b = 0 ↔ b = false := by cases b <;> decide
theorem iI_toInt {z : Int} (h : rg z) : (iI z).toInt = z := Int32.toInt_ofInt_of_le (by have := h.1; omega) (by have := h.2; omega)
theorem iI_of (x : Int32) : iI x.toInt = x := Int32.ofInt_toInt x
theorem rg_of (x : Int32) : rg x.toInt := ⟨by have := x.le_toInt; omega, by have := x.toInt_lt; omega⟩
theorem iI_add (x y : Int) : iI x + iI y = iI (x + y) := (Int32.ofInt_add x y).symm
theorem iI_sub (x y : Int) : iI x - iI y = iI (x - y) := (Int32.ofInt_sub x y).symm
theorem iI_mul (x y : Int) : iI x * iI y = iI (x * y) := (Int32.ofInt_mul x y).symm
theorem iI_neg (x : Int) : -iI x = iI (-x) := (Int32.ofInt_neg x).symm
theorem iI_0 : iI 0 = 0 := by decide
theorem iI_eq {x y : Int} (hx : rg x) (hy : rg y) : iI x = iI y ↔ x = y :=
  ⟨fun h => by have := congrArg Int32.toInt h; rwa [iI_toInt hx, iI_toInt hy] at this, fun h => by rw [h]⟩
theorem iI_lt {x y : Int} (hx : rg x) (hy : rg y) : iI x < iI y ↔ x < y := by
  rw [Int32.lt_iff_toInt_lt, iI_toInt hx, iI_toInt hy]
theorem iI_le {x y : Int} (hx : rg x) (hy : rg y) : iI x ≤ iI y ↔ x ≤ y := by
  rw [Int32.le_iff_toInt_le, iI_toInt hx, iI_toInt hy]
theorem iI_nat (n : Nat) : iI (n : Int) = Int32.ofNat n := Int32.ofInt_eq_ofNat
theorem iI_in {i : Int} {n : Nat} (h : 0 ≤ i ∧ i < n) (hn : n < 2147483648) : vp_in (iI i) n := by
  rw [vp_in_iff, iI_toInt ⟨by omega, by omega⟩]; exact h
theorem iI_cl {i : Int} (h : 0 ≤ i ∧ i < 2147483648) : (iI i).toNatClampNeg = i.toNat := by
  unfold Int32.toNatClampNeg; rw [iI_toInt ⟨by omega, by omega⟩]
theorem iI_rem {x y : Int} (hx : rg x) (hy : rg y) (h0 : 0 ≤ x) (hp : 0 < y) : iI x - iI x / iI y * iI y = iI (x % y) := by
  have hd : iI x / iI y = iI (x / y) := by
    apply Int32.toInt_inj.mp
    have h1 : x / y ≤ x := Int.ediv_le_self y h0
    have h2 : 0 ≤ x / y := Int.ediv_nonneg h0 (by omega)
    rw [Int32.toInt_div_of_ne_right _ _ (fun q => by have := congrArg Int32.toInt q; rw [iI_toInt hy] at this; have h3 : (-1 : Int32).toInt = -1 := by decide
                                                     omega), iI_toInt hx, iI_toInt hy, iI_toInt ⟨by omega, by have := hx.2; omega⟩, Int.tdiv_eq_ediv_of_nonneg h0]
  rw [hd, iI_mul, iI_sub]
  congr 1
  have := Int.mul_ediv_add_emod x y
  rw [Int.mul_comm] at this
  omega
theorem iI_div {x y : Int} (hx : rg x) (hy : rg y) (h0 : 0 ≤ x) (hp : 0 < y) : iI x / iI y = iI (x / y) := by
  apply Int32.toInt_inj.mp
  have h1 : x / y ≤ x := Int.ediv_le_self y h0
  have h2 : 0 ≤ x / y := Int.ediv_nonneg h0 (by omega)
  rw [Int32.toInt_div_of_ne_right _ _ (fun q => by have := congrArg Int32.toInt q; rw [iI_toInt hy] at this; have h3 : (-1 : Int32).toInt = -1 := by decide
                                                   omega), iI_toInt hx, iI_toInt hy, iI_toInt ⟨by omega, by have := hx.2; omega⟩, Int.tdiv_eq_ediv_of_nonneg h0]
theorem iI_ne0 {y : Int} (hy : rg y) (h : y ≠ 0) : ¬ iI y = 0 := fun q => h (by have := congrArg Int32.toInt q; rw [iI_toInt hy] at this; simpa using this)
/-- the words that move by their own rows: nest mates' links, casts, declared methods -/
def zIsX : Cond → Bool
  | .methodLinkNest .. => true
  | .castable .. => true
  | .declares .. => true
  | _ => false
def zX : List Cond := lw_tbl.filter zIsX
def zE (U : State) : Prop := ∀ w ∈ zX, va_Nw w U
theorem zE_warm {s U : State} (hW : s.WarmedH U.vm) (h : zE s) : zE U := by
  intro w hw
  have h0 := h w hw
  have h1 := (List.mem_filter.mp hw).2
  cases w with
  | methodLinkNest a i x hh => exact va_Nw.warmM hW h0
  | castable a b => exact va_Nw.warmC hW h0
  | declares x => exact va_Nw.warmD hW h0
  | _ => cases h1
theorem zE_same {u U : State} (h : u.vm = U.vm) (hE : zE u) : zE U := by
  intro w hw
  have h1 := (List.mem_filter.mp hw).2
  refine va_Nw.same ?_ h (hE w hw)
  cases w <;> first | rfl | cases h1
theorem zX_at {w : Cond} (i : Nat) (h : tables_1[i]? = some w) (hg : zIsX w = true) : w ∈ zX := List.mem_filter.mpr ⟨List.mem_append_right _ (List.mem_of_getElem? h), hg⟩
theorem zE_of {args : Array Value} {s : State} (h : ∀ w ∈ lw_tbl, w.before args s = true) : zE s := by
  intro w hw
  have h1 := (List.mem_filter.mp hw).2
  refine va_Nw.of ?_ (h w (List.mem_filter.mp hw).1)
  cases w <;> first | rfl | cases h1
/-- the world of a claim: the classes' numbers and slots, and the classes of int[], long[], boolean[] -/
abbrev vv_G : Type := va_G × ClassId × ClassId × ClassId
abbrev vv_t (G : vv_G) : List (ClassId × FieldType) := [(G.2.1, .int), (G.2.2.1, .long), (G.2.2.2, .boolean)]
/-- cells: an int array, a long array, a boolean array -/
abbrev ceI (G : vv_G) (a n : Nat) (f : Nat → Int) : Nat × va_E := (a, .inl (G.2.1, n, .inl (fun k => iI (f k))))
abbrev ceJ (G : vv_G) (a n : Nat) (f : Nat → Int64) : Nat × va_E := (a, .inl (G.2.2.1, n, .inr (.inl f)))
abbrev ceZ (G : vv_G) (a n : Nat) (f : Nat → Bool) : Nat × va_E := (a, .inl (G.2.2.2, n, .inl (fun k => iI (bZ (f k)))))
abbrev ceO (ci a : Nat) (fs : List Value) : Nat × va_E := (a, .inr (ci, fs))
theorem upd_iI (f : Nat → Int) (k : Nat) (x : Int) : upd (fun j => iI (f j)) k (iI x) = fun j => iI (va_up f k x j) := by
  funext j; unfold upd va_up; by_cases h : j = k <;> simp [h]
theorem upd_bZ (f : Nat → Bool) (k : Nat) (x : Bool) : upd (fun j => iI (bZ (f j))) k (vp_nar .boolean (iI (bZ x))) = fun j => iI (bZ (va_up f k x j)) := by
  have h : vp_nar .boolean (iI (bZ x)) = iI (bZ x) := by cases x <;> decide
  rw [h]; funext j; unfold upd va_up; by_cases h : j = k <;> simp [h]
section VV
variable {p : Program} {l : Launch} {e : Env} {R : Room} {s : State} {m : MethodId} {args : Array Value} {below : List Frame} {meth : Method} {c : Code} {cc : ByteArray} {own nm : String} {ret : Option FieldType} {G : vv_G} {A : Nat → Prop} {nL : Nat} {Q : State → Prop} {pc kc ks : Nat} {lv : List (Nat × Value)} {rest : List Value} {ws : va_W}
/-- what stands through a method's walk -/
def vv_F (p : Program) (s : State) (m : MethodId) (args : Array Value) (meth : Method) (c : Code) (cc : ByteArray) (own nm : String) (ret : Option FieldType) (G : vv_G) (A : Nat → Prop) (nL : Nat) : Prop :=
  CallFix p m c cc nL s args zW own ∧ va_K G.1 zC (vv_t G) s ∧ (∀ q, s.heap.size ≤ q → A q) ∧ meth.locks = false ∧ meth.sig.returnType = ret ∧ meth.name = nm ∧ zE s
/-- the method, at pc with these locals, this stack and these cells, comes to a state with Q -/
def vv_V (p : Program) (l : Launch) (e : Env) (R : Room) (s : State) (m : MethodId) (args : Array Value) (below : List Frame) (meth : Method) (c : Code) (G : vv_G) (A : Nat → Prop) (nL : Nat) (Q : State → Prop) (pc : Nat) (lv : List (Nat × Value)) (st : List Value) (ws : va_W) (kc ks : Nat) : Prop :=
  ∀ (H : Heap) (locs : List Loc) (ls : Array Slot), va_P G.1 zC ws H → va_D A ws → va_S A s.heap H locs → lv_has ls nL lv → W p l e R s m args below meth c H locs kc ks Q (F0 m pc ls st)

theorem vv_iconst {n : Int} (F : vv_F p s m args meth c cc own nm ret G A nL) (d : decode cc pc = .ok (.iconst n, 1)) 
    (k : vv_V p l e R s m args below meth c G A nL Q (pc + 1) lv (.int (iI n) :: rest) ws kc ks) : vv_V p l e R s m args below meth c G A nL Q pc lv (rest) ws kc ks :=
  fun H locs ls hP hD hS hl => lv_iconst F.1.1 F.1.2.1 d rfl (k H locs ls hP hD hS hl)
theorem vv_bipush {n : Int} (F : vv_F p s m args meth c cc own nm ret G A nL) (d : decode cc pc = .ok (.bipush n, 2)) (hv : (Int8.ofInt n).toInt32 = iI n)
    (k : vv_V p l e R s m args below meth c G A nL Q (pc + 2) lv (.int (iI n) :: rest) ws kc ks) : vv_V p l e R s m args below meth c G A nL Q pc lv (rest) ws kc ks :=
  fun H locs ls hP hD hS hl => lv_bipush F.1.1 F.1.2.1 d hv (k H locs ls hP hD hS hl)
theorem vv_sipush {n : Int} (F : vv_F p s m args meth c cc own nm ret G A nL) (d : decode cc pc = .ok (.sipush n, 3)) (hv : (Int16.ofInt n).toInt32 = iI n)
    (k : vv_V p l e R s m args below meth c G A nL Q (pc + 3) lv (.int (iI n) :: rest) ws kc ks) : vv_V p l e R s m args below meth c G A nL Q pc lv (rest) ws kc ks :=
  fun H locs ls hP hD hS hl => lv_sipush F.1.1 F.1.2.1 d hv (k H locs ls hP hD hS hl)
theorem vv_lconst {n : Fin 2} (v : Int64) (F : vv_F p s m args meth c cc own nm ret G A nL) (d : decode cc pc = .ok (.lconst n, 1)) (hv : (match n with | 0 => (0 : Int64) | _ => 1) = v)
    (k : vv_V p l e R s m args below meth c G A nL Q (pc + 1) lv (.long v :: rest) ws kc ks) : vv_V p l e R s m args below meth c G A nL Q pc lv (rest) ws kc ks :=
  fun H locs ls hP hD hS hl => lv_lconst F.1.1 F.1.2.1 d (by subst hv; first | rfl | (match n with | 0 => rfl | 1 => rfl)) (k H locs ls hP hD hS hl)
theorem vv_iload_n {n : Fin 4} {i : Nat} {x : Int32} (F : vv_F p s m args meth c cc own nm ret G A nL) (d : decode cc pc = .ok (.iload_n n, 1)) (hi : (n : Nat) = i) (j : Nat) (hj : lv[j]? = some (i, .int x))
    (k : vv_V p l e R s m args below meth c G A nL Q (pc + 1) lv (.int x :: rest) ws kc ks) : vv_V p l e R s m args below meth c G A nL Q pc lv (rest) ws kc ks :=
  fun H locs ls hP hD hS hl => lv_iload_n F.1.1 F.1.2.1 d hi (lv_at hl j hj) (k H locs ls hP hD hS hl)
theorem vv_iload {i : Nat} {x : Int32} (F : vv_F p s m args meth c cc own nm ret G A nL) (d : decode cc pc = .ok (.iload i, 2)) (j : Nat) (hj : lv[j]? = some (i, .int x))
    (k : vv_V p l e R s m args below meth c G A nL Q (pc + 2) lv (.int x :: rest) ws kc ks) : vv_V p l e R s m args below meth c G A nL Q pc lv (rest) ws kc ks :=
  fun H locs ls hP hD hS hl => lv_iload F.1.1 F.1.2.1 d (lv_at hl j hj) (k H locs ls hP hD hS hl)
theorem vv_lload_n {n : Fin 4} {i : Nat} {x : Int64} (F : vv_F p s m args meth c cc own nm ret G A nL) (d : decode cc pc = .ok (.lload_n n, 1)) (hi : (n : Nat) = i) (j : Nat) (hj : lv[j]? = some (i, .long x))
    (k : vv_V p l e R s m args below meth c G A nL Q (pc + 1) lv (.long x :: rest) ws kc ks) : vv_V p l e R s m args below meth c G A nL Q pc lv (rest) ws kc ks :=
  fun H locs ls hP hD hS hl => lv_lload_n F.1.1 F.1.2.1 d hi (lv_at hl j hj) (k H locs ls hP hD hS hl)
theorem vv_lload {i : Nat} {x : Int64} (F : vv_F p s m args meth c cc own nm ret G A nL) (d : decode cc pc = .ok (.lload i, 2)) (j : Nat) (hj : lv[j]? = some (i, .long x))
    (k : vv_V p l e R s m args below meth c G A nL Q (pc + 2) lv (.long x :: rest) ws kc ks) : vv_V p l e R s m args below meth c G A nL Q pc lv (rest) ws kc ks :=
  fun H locs ls hP hD hS hl => lv_lload F.1.1 F.1.2.1 d (lv_at hl j hj) (k H locs ls hP hD hS hl)
theorem vv_aload_n {n : Fin 4} {i : Nat} {x : Nat} (F : vv_F p s m args meth c cc own nm ret G A nL) (d : decode cc pc = .ok (.aload_n n, 1)) (hi : (n : Nat) = i) (j : Nat) (hj : lv[j]? = some (i, .ref x))
    (k : vv_V p l e R s m args below meth c G A nL Q (pc + 1) lv (.ref x :: rest) ws kc ks) : vv_V p l e R s m args below meth c G A nL Q pc lv (rest) ws kc ks :=
  fun H locs ls hP hD hS hl => lv_aload_n F.1.1 F.1.2.1 d hi (lv_at hl j hj) (k H locs ls hP hD hS hl)
theorem vv_aload {i : Nat} {x : Nat} (F : vv_F p s m args meth c cc own nm ret G A nL) (d : decode cc pc = .ok (.aload i, 2)) (j : Nat) (hj : lv[j]? = some (i, .ref x))
    (k : vv_V p l e R s m args below meth c G A nL Q (pc + 2) lv (.ref x :: rest) ws kc ks) : vv_V p l e R s m args below meth c G A nL Q pc lv (rest) ws kc ks :=
  fun H locs ls hP hD hS hl => lv_aload F.1.1 F.1.2.1 d (lv_at hl j hj) (k H locs ls hP hD hS hl)
/-- a list of locals that says no more than what was known -/
theorem vv_lv {ls : Array Slot} {l1 l2 : List (Nat × Value)} (h : lv_has ls nL l1) (hs : ∀ q ∈ l2, q ∈ l1) : lv_has ls nL l2 := ⟨h.1, h.2.1, fun q hq => h.2.2 q (hs q hq)⟩
theorem vv_locals {lv' : List (Nat × Value)} {st : List Value} (ks' : List Nat) (h : lv_pick lv ks' = lv') (k : vv_V p l e R s m args below meth c G A nL Q pc lv' st ws kc ks) : vv_V p l e R s m args below meth c G A nL Q pc lv st ws kc ks :=
  fun H locs ls hP hD hS hl => k H locs ls hP hD hS (lv_sub hl ks' h)

theorem vv_istore_n {n : Fin 4} {i : Nat} {x : Int32} {lv' : List (Nat × Value)} (F : vv_F p s m args meth c cc own nm ret G A nL) (d : decode cc pc = .ok (.istore_n n, 1)) (hi : (n : Nat) = i) (hn : i < nL) (ps : List Nat) (hp : lv_pick ((i, Value.int x) :: lv.filter (fun q => !(q.1 == i) && !(q.1 + 1 == i && q.2.category == 2))) ps = lv')
    (k : vv_V p l e R s m args below meth c G A nL Q (pc + 1) lv' rest ws kc ks) : vv_V p l e R s m args below meth c G A nL Q pc lv (.int x :: rest) ws kc ks :=
  fun H locs ls hP hD hS hl => lv_istore_n F.1.1 F.1.2.1 d hi hl hn rfl (fun ls1 h1 => k H locs ls1 hP hD hS (lv_sub h1 ps hp))
theorem vv_istore {i : Nat} {x : Int32} {lv' : List (Nat × Value)} (F : vv_F p s m args meth c cc own nm ret G A nL) (d : decode cc pc = .ok (.istore i, 2)) (hn : i < nL) (ps : List Nat) (hp : lv_pick ((i, Value.int x) :: lv.filter (fun q => !(q.1 == i) && !(q.1 + 1 == i && q.2.category == 2))) ps = lv')
    (k : vv_V p l e R s m args below meth c G A nL Q (pc + 2) lv' rest ws kc ks) : vv_V p l e R s m args below meth c G A nL Q pc lv (.int x :: rest) ws kc ks :=
  fun H locs ls hP hD hS hl => lv_istore F.1.1 F.1.2.1 d hl hn rfl (fun ls1 h1 => k H locs ls1 hP hD hS (lv_sub h1 ps hp))
theorem vv_astore_n {n : Fin 4} {i : Nat} {x : Nat} {lv' : List (Nat × Value)} (F : vv_F p s m args meth c cc own nm ret G A nL) (d : decode cc pc = .ok (.astore_n n, 1)) (hi : (n : Nat) = i) (hn : i < nL) (ps : List Nat) (hp : lv_pick ((i, Value.ref x) :: lv.filter (fun q => !(q.1 == i) && !(q.1 + 1 == i && q.2.category == 2))) ps = lv')
    (k : vv_V p l e R s m args below meth c G A nL Q (pc + 1) lv' rest ws kc ks) : vv_V p l e R s m args below meth c G A nL Q pc lv (.ref x :: rest) ws kc ks :=
  fun H locs ls hP hD hS hl => lv_astore_n F.1.1 F.1.2.1 d hi hl hn rfl (fun ls1 h1 => k H locs ls1 hP hD hS (lv_sub h1 ps hp))
theorem vv_astore {i : Nat} {x : Nat} {lv' : List (Nat × Value)} (F : vv_F p s m args meth c cc own nm ret G A nL) (d : decode cc pc = .ok (.astore i, 2)) (hn : i < nL) (ps : List Nat) (hp : lv_pick ((i, Value.ref x) :: lv.filter (fun q => !(q.1 == i) && !(q.1 + 1 == i && q.2.category == 2))) ps = lv')
    (k : vv_V p l e R s m args below meth c G A nL Q (pc + 2) lv' rest ws kc ks) : vv_V p l e R s m args below meth c G A nL Q pc lv (.ref x :: rest) ws kc ks :=
  fun H locs ls hP hD hS hl => lv_astore F.1.1 F.1.2.1 d hl hn rfl (fun ls1 h1 => k H locs ls1 hP hD hS (lv_sub h1 ps hp))
theorem vv_lstore_n {n : Fin 4} {i : Nat} {x : Int64} {lv' : List (Nat × Value)} (F : vv_F p s m args meth c cc own nm ret G A nL) (d : decode cc pc = .ok (.lstore_n n, 1)) (hi : (n : Nat) = i) (hn : i + 1 < nL) (ps : List Nat) (hp : lv_pick ((i, Value.long x) :: lv.filter (fun q => !(q.1 == i) && (!(q.1 == i + 1) && !(q.1 + 1 == i && q.2.category == 2)))) ps = lv')
    (k : vv_V p l e R s m args below meth c G A nL Q (pc + 1) lv' rest ws kc ks) : vv_V p l e R s m args below meth c G A nL Q pc lv (.long x :: rest) ws kc ks :=
  fun H locs ls hP hD hS hl => lv_lstore_n F.1.1 F.1.2.1 d hi hl hn rfl (fun ls1 h1 => k H locs ls1 hP hD hS (lv_sub h1 ps hp))
theorem vv_lstore {i : Nat} {x : Int64} {lv' : List (Nat × Value)} (F : vv_F p s m args meth c cc own nm ret G A nL) (d : decode cc pc = .ok (.lstore i, 2)) (hn : i + 1 < nL) (ps : List Nat) (hp : lv_pick ((i, Value.long x) :: lv.filter (fun q => !(q.1 == i) && (!(q.1 == i + 1) && !(q.1 + 1 == i && q.2.category == 2)))) ps = lv')
    (k : vv_V p l e R s m args below meth c G A nL Q (pc + 2) lv' rest ws kc ks) : vv_V p l e R s m args below meth c G A nL Q pc lv (.long x :: rest) ws kc ks :=
  fun H locs ls hP hD hS hl => lv_lstore F.1.1 F.1.2.1 d hl hn rfl (fun ls1 h1 => k H locs ls1 hP hD hS (lv_sub h1 ps hp))
theorem vv_iinc {i j : Nat} {n x : Int} {lv' : List (Nat × Value)} (F : vv_F p s m args meth c cc own nm ret G A nL) (d : decode cc pc = .ok (.iinc i n, 3)) (hj : lv[j]? = some (i, .int (iI x))) (hn : i < nL) (ps : List Nat) (hp : lv_pick ((i, Value.int (iI (x + n))) :: lv.filter (fun q => !(q.1 == i) && !(q.1 + 1 == i && q.2.category == 2))) ps = lv')
    (k : vv_V p l e R s m args below meth c G A nL Q (pc + 3) lv' rest ws kc ks) : vv_V p l e R s m args below meth c G A nL Q pc lv rest ws kc ks :=
  fun H locs ls hP hD hS hl => lv_iinc F.1.1 F.1.2.1 d hl hj (iI_add x n) hn rfl (fun ls1 h1 => k H locs ls1 hP hD hS (lv_sub h1 ps hp))
theorem vv_iadd {x y : Int} (F : vv_F p s m args meth c cc own nm ret G A nL) (d : decode cc pc = .ok (.iadd, 1)) 
    (k : vv_V p l e R s m args below meth c G A nL Q (pc + 1) lv (.int (iI (x + y)) :: rest) ws kc ks) : vv_V p l e R s m args below meth c G A nL Q pc lv (.int (iI y) :: .int (iI x) :: rest) ws kc ks :=
  fun H locs ls hP hD hS hl => lv_iadd F.1.1 F.1.2.1 d (by rw [iI_add]; exact k H locs ls hP hD hS hl)
theorem vv_isub {x y : Int} (F : vv_F p s m args meth c cc own nm ret G A nL) (d : decode cc pc = .ok (.isub, 1)) 
    (k : vv_V p l e R s m args below meth c G A nL Q (pc + 1) lv (.int (iI (x - y)) :: rest) ws kc ks) : vv_V p l e R s m args below meth c G A nL Q pc lv (.int (iI y) :: .int (iI x) :: rest) ws kc ks :=
  fun H locs ls hP hD hS hl => lv_isub F.1.1 F.1.2.1 d (by rw [iI_sub]; exact k H locs ls hP hD hS hl)
theorem vv_imul {x y : Int} (F : vv_F p s m args meth c cc own nm ret G A nL) (d : decode cc pc = .ok (.imul, 1)) 
    (k : vv_V p l e R s m args below meth c G A nL Q (pc + 1) lv (.int (iI (x * y)) :: rest) ws kc ks) : vv_V p l e R s m args below meth c G A nL Q pc lv (.int (iI y) :: .int (iI x) :: rest) ws kc ks :=
  fun H locs ls hP hD hS hl => lv_imul F.1.1 F.1.2.1 d (by rw [iI_mul]; exact k H locs ls hP hD hS hl)
theorem vv_ineg {x : Int} (F : vv_F p s m args meth c cc own nm ret G A nL) (d : decode cc pc = .ok (.ineg, 1)) 
    (k : vv_V p l e R s m args below meth c G A nL Q (pc + 1) lv (.int (iI (-x)) :: rest) ws kc ks) : vv_V p l e R s m args below meth c G A nL Q pc lv (.int (iI x) :: rest) ws kc ks :=
  fun H locs ls hP hD hS hl => lv_ineg F.1.1 F.1.2.1 d (by rw [iI_neg]; exact k H locs ls hP hD hS hl)
theorem vv_idiv {x y : Int} (F : vv_F p s m args meth c cc own nm ret G A nL) (d : decode cc pc = .ok (.idiv, 1)) (hx : rg x) (hy : rg y) (h0 : 0 ≤ x) (hp : 0 < y)
    (k : vv_V p l e R s m args below meth c G A nL Q (pc + 1) lv (.int (iI (x / y)) :: rest) ws kc ks) : vv_V p l e R s m args below meth c G A nL Q pc lv (.int (iI y) :: .int (iI x) :: rest) ws kc ks :=
  fun H locs ls hP hD hS hl => lv_idiv F.1.1 F.1.2.1 d (iI_ne0 hy (by omega)) (by rw [iI_div hx hy h0 hp]; exact k H locs ls hP hD hS hl)
theorem vv_irem {x y : Int} (F : vv_F p s m args meth c cc own nm ret G A nL) (d : decode cc pc = .ok (.irem, 1)) (hx : rg x) (hy : rg y) (h0 : 0 ≤ x) (hp : 0 < y)
    (k : vv_V p l e R s m args below meth c G A nL Q (pc + 1) lv (.int (iI (x % y)) :: rest) ws kc ks) : vv_V p l e R s m args below meth c G A nL Q pc lv (.int (iI y) :: .int (iI x) :: rest) ws kc ks :=
  fun H locs ls hP hD hS hl => lv_irem F.1.1 F.1.2.1 d (iI_ne0 hy (by omega)) (by rw [iI_rem hx hy h0 hp]; exact k H locs ls hP hD hS hl)
theorem vv_ixor {x y z : Int} (F : vv_F p s m args meth c cc own nm ret G A nL) (d : decode cc pc = .ok (.ixor, 1)) (hz : iI x ^^^ iI y = iI z)
    (k : vv_V p l e R s m args below meth c G A nL Q (pc + 1) lv (.int (iI z) :: rest) ws kc ks) : vv_V p l e R s m args below meth c G A nL Q pc lv (.int (iI y) :: .int (iI x) :: rest) ws kc ks :=
  fun H locs ls hP hD hS hl => lv_ixor F.1.1 F.1.2.1 d (by rw [hz]; exact k H locs ls hP hD hS hl)
theorem vv_iand {x y z : Int} (F : vv_F p s m args meth c cc own nm ret G A nL) (d : decode cc pc = .ok (.iand, 1)) (hz : iI x &&& iI y = iI z)
    (k : vv_V p l e R s m args below meth c G A nL Q (pc + 1) lv (.int (iI z) :: rest) ws kc ks) : vv_V p l e R s m args below meth c G A nL Q pc lv (.int (iI y) :: .int (iI x) :: rest) ws kc ks :=
  fun H locs ls hP hD hS hl => lv_iand F.1.1 F.1.2.1 d (by rw [hz]; exact k H locs ls hP hD hS hl)
theorem vv_ladd {x y : Int64} (F : vv_F p s m args meth c cc own nm ret G A nL) (d : decode cc pc = .ok (.ladd, 1)) 
    (k : vv_V p l e R s m args below meth c G A nL Q (pc + 1) lv (.long (x + y) :: rest) ws kc ks) : vv_V p l e R s m args below meth c G A nL Q pc lv (.long y :: .long x :: rest) ws kc ks :=
  fun H locs ls hP hD hS hl => lv_ladd F.1.1 F.1.2.1 d (k H locs ls hP hD hS hl)
theorem vv_lsub {x y : Int64} (F : vv_F p s m args meth c cc own nm ret G A nL) (d : decode cc pc = .ok (.lsub, 1)) 
    (k : vv_V p l e R s m args below meth c G A nL Q (pc + 1) lv (.long (x - y) :: rest) ws kc ks) : vv_V p l e R s m args below meth c G A nL Q pc lv (.long y :: .long x :: rest) ws kc ks :=
  fun H locs ls hP hD hS hl => lv_lsub F.1.1 F.1.2.1 d (k H locs ls hP hD hS hl)
theorem vv_land {x y : Int64} (F : vv_F p s m args meth c cc own nm ret G A nL) (d : decode cc pc = .ok (.land, 1)) 
    (k : vv_V p l e R s m args below meth c G A nL Q (pc + 1) lv (.long (x &&& y) :: rest) ws kc ks) : vv_V p l e R s m args below meth c G A nL Q pc lv (.long y :: .long x :: rest) ws kc ks :=
  fun H locs ls hP hD hS hl => lv_land F.1.1 F.1.2.1 d (k H locs ls hP hD hS hl)
theorem vv_lor {x y : Int64} (F : vv_F p s m args meth c cc own nm ret G A nL) (d : decode cc pc = .ok (.lor, 1)) 
    (k : vv_V p l e R s m args below meth c G A nL Q (pc + 1) lv (.long (x ||| y) :: rest) ws kc ks) : vv_V p l e R s m args below meth c G A nL Q pc lv (.long y :: .long x :: rest) ws kc ks :=
  fun H locs ls hP hD hS hl => lv_lor F.1.1 F.1.2.1 d (k H locs ls hP hD hS hl)
theorem vv_lxor {x y : Int64} (F : vv_F p s m args meth c cc own nm ret G A nL) (d : decode cc pc = .ok (.lxor, 1)) 
    (k : vv_V p l e R s m args below meth c G A nL Q (pc + 1) lv (.long (x ^^^ y) :: rest) ws kc ks) : vv_V p l e R s m args below meth c G A nL Q pc lv (.long y :: .long x :: rest) ws kc ks :=
  fun H locs ls hP hD hS hl => lv_lxor F.1.1 F.1.2.1 d (k H locs ls hP hD hS hl)
theorem vv_lneg {x : Int64} (F : vv_F p s m args meth c cc own nm ret G A nL) (d : decode cc pc = .ok (.lneg, 1)) 
    (k : vv_V p l e R s m args below meth c G A nL Q (pc + 1) lv (.long (-x) :: rest) ws kc ks) : vv_V p l e R s m args below meth c G A nL Q pc lv (.long x :: rest) ws kc ks :=
  fun H locs ls hP hD hS hl => lv_lneg F.1.1 F.1.2.1 d (k H locs ls hP hD hS hl)
theorem vv_lshl {x v : Int64} {y : Int32} (F : vv_F p s m args meth c cc own nm ret G A nL) (d : decode cc pc = .ok (.lshl, 1)) (hv : x <<< (y.toInt64 &&& 63) = v)
    (k : vv_V p l e R s m args below meth c G A nL Q (pc + 1) lv (.long v :: rest) ws kc ks) : vv_V p l e R s m args below meth c G A nL Q pc lv (.int y :: .long x :: rest) ws kc ks :=
  fun H locs ls hP hD hS hl => lv_lshl F.1.1 F.1.2.1 d hv (k H locs ls hP hD hS hl)
theorem vv_lushr {x v : Int64} {y : Int32} (F : vv_F p s m args meth c cc own nm ret G A nL) (d : decode cc pc = .ok (.lushr, 1)) (hv : (x.toUInt64 >>> (y.toInt64.toUInt64 &&& Int64.toUInt64 63)).toInt64 = v)
    (k : vv_V p l e R s m args below meth c G A nL Q (pc + 1) lv (.long v :: rest) ws kc ks) : vv_V p l e R s m args below meth c G A nL Q pc lv (.int y :: .long x :: rest) ws kc ks :=
  fun H locs ls hP hD hS hl => lv_lushr F.1.1 F.1.2.1 d hv (k H locs ls hP hD hS hl)
theorem vv_i2l {x : Int32} {v : Int64} (F : vv_F p s m args meth c cc own nm ret G A nL) (d : decode cc pc = .ok (.i2l, 1)) (hv : x.toInt64 = v)
    (k : vv_V p l e R s m args below meth c G A nL Q (pc + 1) lv (.long v :: rest) ws kc ks) : vv_V p l e R s m args below meth c G A nL Q pc lv (.int x :: rest) ws kc ks :=
  fun H locs ls hP hD hS hl => lv_i2l F.1.1 F.1.2.1 d hv (k H locs ls hP hD hS hl)
theorem vv_l2i {x : Int64} {v : Int32} (F : vv_F p s m args meth c cc own nm ret G A nL) (d : decode cc pc = .ok (.l2i, 1)) (hv : x.toInt32 = v)
    (k : vv_V p l e R s m args below meth c G A nL Q (pc + 1) lv (.int v :: rest) ws kc ks) : vv_V p l e R s m args below meth c G A nL Q pc lv (.long x :: rest) ws kc ks :=
  fun H locs ls hP hD hS hl => lv_l2i F.1.1 F.1.2.1 d hv (k H locs ls hP hD hS hl)
theorem vv_lcmp {x y : Int64} {z : Int} (F : vv_F p s m args meth c cc own nm ret G A nL) (d : decode cc pc = .ok (.lcmp, 1)) (hz : lg_cmp x y = iI z)
    (k : vv_V p l e R s m args below meth c G A nL Q (pc + 1) lv (.int (iI z) :: rest) ws kc ks) : vv_V p l e R s m args below meth c G A nL Q pc lv (.long y :: .long x :: rest) ws kc ks :=
  fun H locs ls hP hD hS hl => W.lcmp F.1.1 F.1.2.1 d (by rw [hz]; exact k H locs ls hP hD hS hl)
theorem vv_ldc {index : Nat} {v : Int32} {z : Int} (F : vv_F p s m args meth c cc own nm ret G A nL) (d : decode cc pc = .ok (.ldc index, 2)) (hw : Cond.constant own index v ∈ zW) (hz : iI z = v)
    (k : vv_V p l e R s m args below meth c G A nL Q (pc + 2) lv (.int (iI z) :: rest) ws kc ks) : vv_V p l e R s m args below meth c G A nL Q pc lv (rest) ws kc ks :=
  fun H locs ls hP hD hS hl => lv_ldc F.1.1 F.1.2.1 F.1.2.2.2.1 (F.1.2.2.2.2 _ hw) d (by rw [← hz]; exact k H locs ls hP hD hS hl)
theorem vv_ldc2 {index : Nat} {v : Int64} (F : vv_F p s m args meth c cc own nm ret G A nL) (d : decode cc pc = .ok (.ldc2_w index, 3)) (hw : Cond.constantLong own index v ∈ zW)
    (k : vv_V p l e R s m args below meth c G A nL Q (pc + 3) lv (.long v :: rest) ws kc ks) : vv_V p l e R s m args below meth c G A nL Q pc lv (rest) ws kc ks :=
  fun H locs ls hP hD hS hl => lv_ldc2 F.1.1 F.1.2.1 F.1.2.2.2.1 (F.1.2.2.2.2 _ hw) d (k H locs ls hP hD hS hl)
theorem vv_dup {va : Value} (F : vv_F p s m args meth c cc own nm ret G A nL) (d : decode cc pc = .ok (.dup, 1)) (h1 : va.category = 1)
    (k : vv_V p l e R s m args below meth c G A nL Q (pc + 1) lv (va :: va :: rest) ws kc ks) : vv_V p l e R s m args below meth c G A nL Q pc lv (va :: rest) ws kc ks :=
  fun H locs ls hP hD hS hl => lv_dup F.1.1 F.1.2.1 d h1 (k H locs ls hP hD hS hl)
theorem vv_pop {va : Value} (F : vv_F p s m args meth c cc own nm ret G A nL) (d : decode cc pc = .ok (.pop, 1)) (h1 : va.category = 1)
    (k : vv_V p l e R s m args below meth c G A nL Q (pc + 1) lv (rest) ws kc ks) : vv_V p l e R s m args below meth c G A nL Q pc lv (va :: rest) ws kc ks :=
  fun H locs ls hP hD hS hl => lv_pop F.1.1 F.1.2.1 d h1 (k H locs ls hP hD hS hl)
theorem vv_dup_x1 {va vb : Value} (F : vv_F p s m args meth c cc own nm ret G A nL) (d : decode cc pc = .ok (.dup_x1, 1)) (h1 : va.category = 1) (h2 : vb.category = 1)
    (k : vv_V p l e R s m args below meth c G A nL Q (pc + 1) lv (va :: vb :: va :: rest) ws kc ks) : vv_V p l e R s m args below meth c G A nL Q pc lv (va :: vb :: rest) ws kc ks :=
  fun H locs ls hP hD hS hl => lv_dup_x1 F.1.1 F.1.2.1 d h1 h2 (k H locs ls hP hD hS hl)
theorem vv_dup_x2 {va vb vd : Value} (F : vv_F p s m args meth c cc own nm ret G A nL) (d : decode cc pc = .ok (.dup_x2, 1)) (h1 : va.category = 1) (h2 : vb.category = 1) (h3 : vd.category = 1)
    (k : vv_V p l e R s m args below meth c G A nL Q (pc + 1) lv (va :: vb :: vd :: va :: rest) ws kc ks) : vv_V p l e R s m args below meth c G A nL Q pc lv (va :: vb :: vd :: rest) ws kc ks :=
  fun H locs ls hP hD hS hl => lv_dup_x2 F.1.1 F.1.2.1 d h1 h2 h3 (k H locs ls hP hD hS hl)
theorem vv_dup2_11 {va vb : Value} (F : vv_F p s m args meth c cc own nm ret G A nL) (d : decode cc pc = .ok (.dup2, 1)) (h1 : va.category = 1) (h2 : vb.category = 1)
    (k : vv_V p l e R s m args below meth c G A nL Q (pc + 1) lv (va :: vb :: va :: vb :: rest) ws kc ks) : vv_V p l e R s m args below meth c G A nL Q pc lv (va :: vb :: rest) ws kc ks :=
  fun H locs ls hP hD hS hl => lv_dup2_11 F.1.1 F.1.2.1 d h1 h2 (k H locs ls hP hD hS hl)
theorem vv_dup2_x2_2 {va vb vd : Value} (F : vv_F p s m args meth c cc own nm ret G A nL) (d : decode cc pc = .ok (.dup2_x2, 1)) (h1 : va.category = 2) (h2 : vb.category = 1) (h3 : vd.category = 1)
    (k : vv_V p l e R s m args below meth c G A nL Q (pc + 1) lv (va :: vb :: vd :: va :: rest) ws kc ks) : vv_V p l e R s m args below meth c G A nL Q pc lv (va :: vb :: vd :: rest) ws kc ks :=
  fun H locs ls hP hD hS hl => lv_dup2_x2_2 F.1.1 F.1.2.1 d h1 h2 h3 (k H locs ls hP hD hS hl)
theorem vv_icmp_eq {x y off : Int} {tgt : Nat} (F : vv_F p s m args meth c cc own nm ret G A nL) (d : decode cc pc = .ok (.if_icmp .eq off, 3)) (ht : (pc : Int) + off = (tgt : Int)) (hx : rg x) (hy : rg y)
    (kt : x = y → vv_V p l e R s m args below meth c G A nL Q tgt lv rest ws kc ks) (kf : x ≠ y → vv_V p l e R s m args below meth c G A nL Q (pc + 3) lv rest ws kc ks) : vv_V p l e R s m args below meth c G A nL Q pc lv (.int (iI y) :: .int (iI x) :: rest) ws kc ks :=
  fun H locs ls hP hD hS hl => lv_icmp_eq F.1.1 F.1.2.1 d ht (fun h => (kt ((iI_eq hx hy).mp h) H locs ls hP hD hS hl)) (fun h => (kf (fun q => h ((iI_eq hx hy).mpr q)) H locs ls hP hD hS hl))
theorem vv_if_eq {x off : Int} {tgt : Nat} (F : vv_F p s m args meth c cc own nm ret G A nL) (d : decode cc pc = .ok (.ifCond .eq off, 3)) (ht : (pc : Int) + off = (tgt : Int)) (hx : rg x)
    (kt : x = 0 → vv_V p l e R s m args below meth c G A nL Q tgt lv rest ws kc ks) (kf : x ≠ 0 → vv_V p l e R s m args below meth c G A nL Q (pc + 3) lv rest ws kc ks) : vv_V p l e R s m args below meth c G A nL Q pc lv (.int (iI x) :: rest) ws kc ks :=
  have rg0 : rg 0 := by decide
  fun H locs ls hP hD hS hl => lv_if_eq F.1.1 F.1.2.1 d ht (fun h => by rw [← iI_0] at h; exact (kt ((iI_eq hx rg0).mp h) H locs ls hP hD hS hl)) (fun h => by rw [← iI_0] at h; exact (kf (fun q => h ((iI_eq hx rg0).mpr q)) H locs ls hP hD hS hl))
theorem vv_icmp_ne {x y off : Int} {tgt : Nat} (F : vv_F p s m args meth c cc own nm ret G A nL) (d : decode cc pc = .ok (.if_icmp .ne off, 3)) (ht : (pc : Int) + off = (tgt : Int)) (hx : rg x) (hy : rg y)
    (kt : x ≠ y → vv_V p l e R s m args below meth c G A nL Q tgt lv rest ws kc ks) (kf : x = y → vv_V p l e R s m args below meth c G A nL Q (pc + 3) lv rest ws kc ks) : vv_V p l e R s m args below meth c G A nL Q pc lv (.int (iI y) :: .int (iI x) :: rest) ws kc ks :=
  fun H locs ls hP hD hS hl => lv_icmp_ne F.1.1 F.1.2.1 d ht (fun h => (kt (fun q => h ((iI_eq hx hy).mpr q)) H locs ls hP hD hS hl)) (fun h => (kf ((iI_eq hx hy).mp h) H locs ls hP hD hS hl))
theorem vv_if_ne {x off : Int} {tgt : Nat} (F : vv_F p s m args meth c cc own nm ret G A nL) (d : decode cc pc = .ok (.ifCond .ne off, 3)) (ht : (pc : Int) + off = (tgt : Int)) (hx : rg x)
    (kt : x ≠ 0 → vv_V p l e R s m args below meth c G A nL Q tgt lv rest ws kc ks) (kf : x = 0 → vv_V p l e R s m args below meth c G A nL Q (pc + 3) lv rest ws kc ks) : vv_V p l e R s m args below meth c G A nL Q pc lv (.int (iI x) :: rest) ws kc ks :=
  have rg0 : rg 0 := by decide
  fun H locs ls hP hD hS hl => lv_if_ne F.1.1 F.1.2.1 d ht (fun h => by rw [← iI_0] at h; exact (kt (fun q => h ((iI_eq hx rg0).mpr q)) H locs ls hP hD hS hl)) (fun h => by rw [← iI_0] at h; exact (kf ((iI_eq hx rg0).mp h) H locs ls hP hD hS hl))
theorem vv_icmp_lt {x y off : Int} {tgt : Nat} (F : vv_F p s m args meth c cc own nm ret G A nL) (d : decode cc pc = .ok (.if_icmp .lt off, 3)) (ht : (pc : Int) + off = (tgt : Int)) (hx : rg x) (hy : rg y)
    (kt : x < y → vv_V p l e R s m args below meth c G A nL Q tgt lv rest ws kc ks) (kf : y ≤ x → vv_V p l e R s m args below meth c G A nL Q (pc + 3) lv rest ws kc ks) : vv_V p l e R s m args below meth c G A nL Q pc lv (.int (iI y) :: .int (iI x) :: rest) ws kc ks :=
  fun H locs ls hP hD hS hl => lv_icmp_lt F.1.1 F.1.2.1 d ht (fun h => (kt ((iI_lt hx hy).mp h) H locs ls hP hD hS hl)) (fun h => (kf (by have h2 := mt (iI_lt hx hy).mpr h; omega) H locs ls hP hD hS hl))
theorem vv_if_lt {x off : Int} {tgt : Nat} (F : vv_F p s m args meth c cc own nm ret G A nL) (d : decode cc pc = .ok (.ifCond .lt off, 3)) (ht : (pc : Int) + off = (tgt : Int)) (hx : rg x)
    (kt : x < 0 → vv_V p l e R s m args below meth c G A nL Q tgt lv rest ws kc ks) (kf : 0 ≤ x → vv_V p l e R s m args below meth c G A nL Q (pc + 3) lv rest ws kc ks) : vv_V p l e R s m args below meth c G A nL Q pc lv (.int (iI x) :: rest) ws kc ks :=
  have rg0 : rg 0 := by decide
  fun H locs ls hP hD hS hl => lv_if_lt F.1.1 F.1.2.1 d ht (fun h => by rw [← iI_0] at h; exact (kt ((iI_lt hx rg0).mp h) H locs ls hP hD hS hl)) (fun h => by rw [← iI_0] at h; exact (kf (by have h2 := mt (iI_lt hx rg0).mpr h; omega) H locs ls hP hD hS hl))
theorem vv_icmp_ge {x y off : Int} {tgt : Nat} (F : vv_F p s m args meth c cc own nm ret G A nL) (d : decode cc pc = .ok (.if_icmp .ge off, 3)) (ht : (pc : Int) + off = (tgt : Int)) (hx : rg x) (hy : rg y)
    (kt : y ≤ x → vv_V p l e R s m args below meth c G A nL Q tgt lv rest ws kc ks) (kf : x < y → vv_V p l e R s m args below meth c G A nL Q (pc + 3) lv rest ws kc ks) : vv_V p l e R s m args below meth c G A nL Q pc lv (.int (iI y) :: .int (iI x) :: rest) ws kc ks :=
  fun H locs ls hP hD hS hl => lv_icmp_ge F.1.1 F.1.2.1 d ht (fun h => (kt ((iI_le hy hx).mp h) H locs ls hP hD hS hl)) (fun h => (kf (by have h2 := mt (iI_le hy hx).mpr h; omega) H locs ls hP hD hS hl))
theorem vv_if_ge {x off : Int} {tgt : Nat} (F : vv_F p s m args meth c cc own nm ret G A nL) (d : decode cc pc = .ok (.ifCond .ge off, 3)) (ht : (pc : Int) + off = (tgt : Int)) (hx : rg x)
    (kt : 0 ≤ x → vv_V p l e R s m args below meth c G A nL Q tgt lv rest ws kc ks) (kf : x < 0 → vv_V p l e R s m args below meth c G A nL Q (pc + 3) lv rest ws kc ks) : vv_V p l e R s m args below meth c G A nL Q pc lv (.int (iI x) :: rest) ws kc ks :=
  have rg0 : rg 0 := by decide
  fun H locs ls hP hD hS hl => lv_if_ge F.1.1 F.1.2.1 d ht (fun h => by rw [← iI_0] at h; exact (kt ((iI_le rg0 hx).mp h) H locs ls hP hD hS hl)) (fun h => by rw [← iI_0] at h; exact (kf (by have h2 := mt (iI_le rg0 hx).mpr h; omega) H locs ls hP hD hS hl))
theorem vv_icmp_gt {x y off : Int} {tgt : Nat} (F : vv_F p s m args meth c cc own nm ret G A nL) (d : decode cc pc = .ok (.if_icmp .gt off, 3)) (ht : (pc : Int) + off = (tgt : Int)) (hx : rg x) (hy : rg y)
    (kt : y < x → vv_V p l e R s m args below meth c G A nL Q tgt lv rest ws kc ks) (kf : x ≤ y → vv_V p l e R s m args below meth c G A nL Q (pc + 3) lv rest ws kc ks) : vv_V p l e R s m args below meth c G A nL Q pc lv (.int (iI y) :: .int (iI x) :: rest) ws kc ks :=
  fun H locs ls hP hD hS hl => lv_icmp_gt F.1.1 F.1.2.1 d ht (fun h => (kt ((iI_lt hy hx).mp h) H locs ls hP hD hS hl)) (fun h => (kf (by have h2 := mt (iI_lt hy hx).mpr h; omega) H locs ls hP hD hS hl))
theorem vv_if_gt {x off : Int} {tgt : Nat} (F : vv_F p s m args meth c cc own nm ret G A nL) (d : decode cc pc = .ok (.ifCond .gt off, 3)) (ht : (pc : Int) + off = (tgt : Int)) (hx : rg x)
    (kt : 0 < x → vv_V p l e R s m args below meth c G A nL Q tgt lv rest ws kc ks) (kf : x ≤ 0 → vv_V p l e R s m args below meth c G A nL Q (pc + 3) lv rest ws kc ks) : vv_V p l e R s m args below meth c G A nL Q pc lv (.int (iI x) :: rest) ws kc ks :=
  have rg0 : rg 0 := by decide
  fun H locs ls hP hD hS hl => lv_if_gt F.1.1 F.1.2.1 d ht (fun h => by rw [← iI_0] at h; exact (kt ((iI_lt rg0 hx).mp h) H locs ls hP hD hS hl)) (fun h => by rw [← iI_0] at h; exact (kf (by have h2 := mt (iI_lt rg0 hx).mpr h; omega) H locs ls hP hD hS hl))
theorem vv_icmp_le {x y off : Int} {tgt : Nat} (F : vv_F p s m args meth c cc own nm ret G A nL) (d : decode cc pc = .ok (.if_icmp .le off, 3)) (ht : (pc : Int) + off = (tgt : Int)) (hx : rg x) (hy : rg y)
    (kt : x ≤ y → vv_V p l e R s m args below meth c G A nL Q tgt lv rest ws kc ks) (kf : y < x → vv_V p l e R s m args below meth c G A nL Q (pc + 3) lv rest ws kc ks) : vv_V p l e R s m args below meth c G A nL Q pc lv (.int (iI y) :: .int (iI x) :: rest) ws kc ks :=
  fun H locs ls hP hD hS hl => lv_icmp_le F.1.1 F.1.2.1 d ht (fun h => (kt ((iI_le hx hy).mp h) H locs ls hP hD hS hl)) (fun h => (kf (by have h2 := mt (iI_le hx hy).mpr h; omega) H locs ls hP hD hS hl))
theorem vv_if_le {x off : Int} {tgt : Nat} (F : vv_F p s m args meth c cc own nm ret G A nL) (d : decode cc pc = .ok (.ifCond .le off, 3)) (ht : (pc : Int) + off = (tgt : Int)) (hx : rg x)
    (kt : x ≤ 0 → vv_V p l e R s m args below meth c G A nL Q tgt lv rest ws kc ks) (kf : 0 < x → vv_V p l e R s m args below meth c G A nL Q (pc + 3) lv rest ws kc ks) : vv_V p l e R s m args below meth c G A nL Q pc lv (.int (iI x) :: rest) ws kc ks :=
  have rg0 : rg 0 := by decide
  fun H locs ls hP hD hS hl => lv_if_le F.1.1 F.1.2.1 d ht (fun h => by rw [← iI_0] at h; exact (kt ((iI_le hx rg0).mp h) H locs ls hP hD hS hl)) (fun h => by rw [← iI_0] at h; exact (kf (by have h2 := mt (iI_le hx rg0).mpr h; omega) H locs ls hP hD hS hl))
theorem vv_goto {off : Int} {tgt : Nat} (F : vv_F p s m args meth c cc own nm ret G A nL) (d : decode cc pc = .ok (.goto off, 3)) (ht : (pc : Int) + off = (tgt : Int))
    (k : vv_V p l e R s m args below meth c G A nL Q tgt lv (rest) ws kc ks) : vv_V p l e R s m args below meth c G A nL Q pc lv (rest) ws kc ks :=
  fun H locs ls hP hD hS hl => lv_goto F.1.1 F.1.2.1 d ht (k H locs ls hP hD hS hl)
theorem vv_tableOut {dflt lo hi x : Int} {offs : Array Int} {len tgt : Nat} (F : vv_F p s m args meth c cc own nm ret G A nL) (d : decode cc pc = .ok (.tableswitch dflt lo hi offs, len)) (hx : rg x) (h : x < lo ∨ hi < x) (ht : (pc : Int) + dflt = (tgt : Int))
    (k : vv_V p l e R s m args below meth c G A nL Q tgt lv rest ws kc ks) : vv_V p l e R s m args below meth c G A nL Q pc lv (.int (iI x) :: rest) ws kc ks :=
  fun H locs ls hP hD hS hl => lv_tableOut F.1.1 F.1.2.1 d (by rw [iI_toInt hx]; exact h) ht (k H locs ls hP hD hS hl)
theorem vv_tableIn {dflt lo hi x off : Int} {offs : Array Int} {len tgt : Nat} (F : vv_F p s m args meth c cc own nm ret G A nL) (d : decode cc pc = .ok (.tableswitch dflt lo hi offs, len)) (hx : rg x) (h1 : lo ≤ x) (h2 : x ≤ hi) (ho : offs[(x - lo).toNat]? = some off) (ht : (pc : Int) + off = (tgt : Int))
    (k : vv_V p l e R s m args below meth c G A nL Q tgt lv rest ws kc ks) : vv_V p l e R s m args below meth c G A nL Q pc lv (.int (iI x) :: rest) ws kc ks :=
  fun H locs ls hP hD hS hl => lv_tableIn F.1.1 F.1.2.1 d (by rw [iI_toInt hx]; omega) (by rw [iI_toInt hx]; omega) (by rw [iI_toInt hx]; exact ho) ht (k H locs ls hP hD hS hl)
theorem vv_iald {a n : Nat} {f : Nat → Int} {i : Int} (F : vv_F p s m args meth c cc own nm ret G A nL) (d : decode cc pc = .ok (.iaload, 1)) (q : Nat) (ha : ws[q]? = some (ceI G a n f)) (hi : 0 ≤ i ∧ i < n) (hn : n < 2147483648)
    (k : vv_V p l e R s m args below meth c G A nL Q (pc + 1) lv (.int (iI (f i.toNat)) :: rest) ws kc ks) : vv_V p l e R s m args below meth c G A nL Q pc lv (.int (iI i) :: .ref a :: rest) ws kc ks :=
  fun H locs ls hP hD hS hl => va_iald F.1.1 F.1.2.1 F.2.1 hP q 0 ha rfl (iI_in hi hn) d (by rw [iI_cl ⟨hi.1, by omega⟩]; exact k H locs ls hP hD hS hl)
theorem vv_zald {a n : Nat} {f : Nat → Bool} {i : Int} (F : vv_F p s m args meth c cc own nm ret G A nL) (d : decode cc pc = .ok (.baload, 1)) (q : Nat) (ha : ws[q]? = some (ceZ G a n f)) (hi : 0 ≤ i ∧ i < n) (hn : n < 2147483648)
    (k : vv_V p l e R s m args below meth c G A nL Q (pc + 1) lv (.int (iI (bZ (f i.toNat))) :: rest) ws kc ks) : vv_V p l e R s m args below meth c G A nL Q pc lv (.int (iI i) :: .ref a :: rest) ws kc ks :=
  fun H locs ls hP hD hS hl => va_zald F.1.1 F.1.2.1 F.2.1 hP q 2 ha rfl (iI_in hi hn) d (by rw [iI_cl ⟨hi.1, by omega⟩]; exact k H locs ls hP hD hS hl)
theorem vv_lald {a n : Nat} {f : Nat → Int64} {i : Int} (F : vv_F p s m args meth c cc own nm ret G A nL) (d : decode cc pc = .ok (.laload, 1)) (q : Nat) (ha : ws[q]? = some (ceJ G a n f)) (hi : 0 ≤ i ∧ i < n) (hn : n < 2147483648)
    (k : vv_V p l e R s m args below meth c G A nL Q (pc + 1) lv (.long (f i.toNat) :: rest) ws kc ks) : vv_V p l e R s m args below meth c G A nL Q pc lv (.int (iI i) :: .ref a :: rest) ws kc ks :=
  fun H locs ls hP hD hS hl => va_lald F.1.1 F.1.2.1 F.2.1 hP q 1 ha rfl (iI_in hi hn) d (by rw [iI_cl ⟨hi.1, by omega⟩]; exact k H locs ls hP hD hS hl)
theorem vv_iast {a n : Nat} {f : Nat → Int} {i x : Int} {ws' : va_W} (F : vv_F p s m args meth c cc own nm ret G A nL) (d : decode cc pc = .ok (.iastore, 1)) (q : Nat) (ha : ws[q]? = some (ceI G a n f)) (hi : 0 ≤ i ∧ i < n) (hn : n < 2147483648) (hw : ws.set q (ceI G a n (va_up f i.toNat x)) = ws')
    (k : vv_V p l e R s m args below meth c G A nL Q (pc + 1) lv rest ws' kc ks) : vv_V p l e R s m args below meth c G A nL Q pc lv (.int (iI x) :: .int (iI i) :: .ref a :: rest) ws kc ks := by
  subst hw
  exact fun H locs ls hP hD hS hl => va_iast F.1.1 F.1.2.1 F.2.1 hP hD hS q 0 ha rfl (iI_in hi hn) d (fun H1 l1 hP1 hD1 hS1 => k H1 l1 ls (by rw [iI_cl ⟨hi.1, by omega⟩, upd_iI] at hP1; exact hP1) (by rw [iI_cl ⟨hi.1, by omega⟩, upd_iI] at hD1; exact hD1) hS1 hl)
theorem vv_zast {a n : Nat} {f : Nat → Bool} {i : Int} {x : Bool} {ws' : va_W} (F : vv_F p s m args meth c cc own nm ret G A nL) (d : decode cc pc = .ok (.bastore, 1)) (q : Nat) (ha : ws[q]? = some (ceZ G a n f)) (hi : 0 ≤ i ∧ i < n) (hn : n < 2147483648) (hw : ws.set q (ceZ G a n (va_up f i.toNat x)) = ws')
    (k : vv_V p l e R s m args below meth c G A nL Q (pc + 1) lv rest ws' kc ks) : vv_V p l e R s m args below meth c G A nL Q pc lv (.int (iI (bZ x)) :: .int (iI i) :: .ref a :: rest) ws kc ks := by
  subst hw
  exact fun H locs ls hP hD hS hl => va_zast F.1.1 F.1.2.1 F.2.1 hP hD hS q 2 ha rfl (iI_in hi hn) d (fun H1 l1 hP1 hD1 hS1 => k H1 l1 ls (by rw [iI_cl ⟨hi.1, by omega⟩, upd_bZ] at hP1; exact hP1) (by rw [iI_cl ⟨hi.1, by omega⟩, upd_bZ] at hD1; exact hD1) hS1 hl)
theorem vv_last {a n : Nat} {f : Nat → Int64} {i : Int} {x : Int64} {ws' : va_W} (F : vv_F p s m args meth c cc own nm ret G A nL) (d : decode cc pc = .ok (.lastore, 1)) (q : Nat) (ha : ws[q]? = some (ceJ G a n f)) (hi : 0 ≤ i ∧ i < n) (hn : n < 2147483648) (hw : ws.set q (ceJ G a n (va_up f i.toNat x)) = ws')
    (k : vv_V p l e R s m args below meth c G A nL Q (pc + 1) lv rest ws' kc ks) : vv_V p l e R s m args below meth c G A nL Q pc lv (.long x :: .int (iI i) :: .ref a :: rest) ws kc ks := by
  subst hw
  exact fun H locs ls hP hD hS hl => va_last F.1.1 F.1.2.1 F.2.1 hP hD hS q 1 ha rfl (iI_in hi hn) d (fun H1 l1 hP1 hD1 hS1 => k H1 l1 ls (by rw [iI_cl ⟨hi.1, by omega⟩] at hP1; exact hP1) (by rw [iI_cl ⟨hi.1, by omega⟩] at hD1; exact hD1) hS1 hl)
theorem vv_alenI {a n : Nat} {f : Nat → Int} (F : vv_F p s m args meth c cc own nm ret G A nL) (d : decode cc pc = .ok (.arraylength, 1)) (q : Nat) (ha : ws[q]? = some (ceI G a n f))
    (k : vv_V p l e R s m args below meth c G A nL Q (pc + 1) lv (.int (iI n) :: rest) ws kc ks) : vv_V p l e R s m args below meth c G A nL Q pc lv (.ref a :: rest) ws kc ks :=
  fun H locs ls hP hD hS hl => va_alen F.1.1 F.1.2.1 F.2.1 hP q 0 ha rfl (iI_nat n).symm d (k H locs ls hP hD hS hl)
theorem vv_alenJ {a n : Nat} {f : Nat → Int64} (F : vv_F p s m args meth c cc own nm ret G A nL) (d : decode cc pc = .ok (.arraylength, 1)) (q : Nat) (ha : ws[q]? = some (ceJ G a n f))
    (k : vv_V p l e R s m args below meth c G A nL Q (pc + 1) lv (.int (iI n) :: rest) ws kc ks) : vv_V p l e R s m args below meth c G A nL Q pc lv (.ref a :: rest) ws kc ks :=
  fun H locs ls hP hD hS hl => va_alen F.1.1 F.1.2.1 F.2.1 hP q 1 ha rfl (iI_nat n).symm d (k H locs ls hP hD hS hl)
theorem vv_fm {is : List Nat} {w1 w2 : va_W} (h : is.map (fun i => w1[i]?) = w2.map some) : is.filterMap (fun i => w1[i]?) = w2 := by
  have h1 : is.filterMap (fun i => w1[i]?) = (is.map (fun i => w1[i]?)).filterMap id := by rw [List.filterMap_map]; rfl
  rw [h1, h, List.filterMap_map]
  exact List.filterMap_some
theorem vv_cells {ws' : va_W} {st : List Value} (is : List Nat) (hn : va_nd is = true) (hs : is.map (fun i => ws[i]?) = ws'.map some) (k : vv_V p l e R s m args below meth c G A nL Q pc lv st ws' kc ks) : vv_V p l e R s m args below meth c G A nL Q pc lv st ws kc ks :=
  fun H locs ls hP hD hS hl => k H locs ls (hP.sub is (vv_fm hs)) (hD.sub is hn hs) hS hl
theorem vv_widen {st : List Value} {kc' ks' : Nat} (h1 : kc ≤ kc') (h2 : ks ≤ ks') (k : vv_V p l e R s m args below meth c G A nL Q pc lv st ws kc' ks') : vv_V p l e R s m args below meth c G A nL Q pc lv st ws kc ks :=
  fun H locs ls hP hD hS hl => W.widen h1 h2 (k H locs ls hP hD hS hl)
theorem vv_get {C : String} {T : u_T} {N ci index a : Nat} {fs : List Value} {v : Value} (F : vv_F p s m args meth c cc own nm ret G A nL) (d : decode cc pc = .ok (.getfield index, 3)) (hin : ∀ w ∈ u_ws C T N, w ∈ zW) (q : Nat) (he : ws[q]? = some (a, .inr (ci, fs))) (hc : zC[ci]? = some (C, T, N)) (j : Nat) (hj : j < N) (hl : Cond.fieldLink own index (T j).1 (T j).2.1 (T j).2.2.1 ∈ zW) (hv : fs[j]? = some v)
    (k : vv_V p l e R s m args below meth c G A nL Q (pc + 3) lv (v :: rest) ws kc ks) : vv_V p l e R s m args below meth c G A nL Q pc lv (.ref a :: rest) ws kc ks :=
  fun H locs ls hP hD hS hl2 => va_get F.1.1 F.1.2.1 F.1.2.2.2.2 hin F.1.2.2.2.1 F.2.1 hP q he hc j hj (F.1.2.2.2.2 _ hl) (fun _ h => h) hv d (k H locs ls hP hD hS hl2)
theorem vv_put {C : String} {T : u_T} {N ci index a : Nat} {fs : List Value} {v : Value} {ty0 : Nat → FieldType} {ws' : va_W} (F : vv_F p s m args meth c cc own nm ret G A nL) (d : decode cc pc = .ok (.putfield index, 3)) (hin : ∀ w ∈ u_ws C T N, w ∈ zW) (hty : ∀ k, k < N → parseFieldDescriptor (T k).2.2.1 = some (ty0 k)) (hnm : ∀ a, a < N → ∀ b, b < N → a ≠ b → (T a).2.1 ≠ (T b).2.1) (q : Nat) (he : ws[q]? = some (a, .inr (ci, fs))) (hc : zC[ci]? = some (C, T, N)) (j : Nat) (hj : j < N) (hl : Cond.fieldLink own index (T j).1 (T j).2.1 (T j).2.2.1 ∈ zW) (hf : (T j).2.2.2 = false) (hn : narrow (ty0 j) v = v) (hfit : fits (ty0 j) v = true) (hlen : j < fs.length) (hw : ws.set q (a, .inr (ci, fs.set j v)) = ws')
    (k : vv_V p l e R s m args below meth c G A nL Q (pc + 3) lv rest ws' kc ks) : vv_V p l e R s m args below meth c G A nL Q pc lv (v :: .ref a :: rest) ws kc ks := by
  subst hw
  exact fun H locs ls hP hD hS hl2 => va_put F.1.1 F.1.2.1 F.1.2.2.2.2 hin ty0 hty hnm F.1.2.2.2.1 F.2.1 hP hD hS q he hc j hj (F.1.2.2.2.2 _ hl) (fun _ h => h) hf (hty j hj) hn hfit hlen d (fun H1 l1 hP1 hD1 hS1 => k H1 l1 ls hP1 hD1 hS1 hl2)
theorem vv_putF {C : String} {T : u_T} {N ci index a : Nat} {fs : List Value} {v : Value} {ty0 : Nat → FieldType} {ws' : va_W} (F : vv_F p s m args meth c cc own "<init>" ret G A nL) (d : decode cc pc = .ok (.putfield index, 3)) (hin : ∀ w ∈ u_ws C T N, w ∈ zW) (hty : ∀ k, k < N → parseFieldDescriptor (T k).2.2.1 = some (ty0 k)) (hnm : ∀ a, a < N → ∀ b, b < N → a ≠ b → (T a).2.1 ≠ (T b).2.1) (q : Nat) (he : ws[q]? = some (a, .inr (ci, fs))) (hc : zC[ci]? = some (C, T, N)) (j : Nat) (hj : j < N) (hl : Cond.fieldLink own index (T j).1 (T j).2.1 (T j).2.2.1 ∈ zW) (hf : (T j).2.2.2 = true) (ho : (T j).1 = own) (hn : narrow (ty0 j) v = v) (hfit : fits (ty0 j) v = true) (hlen : j < fs.length) (hw : ws.set q (a, .inr (ci, fs.set j v)) = ws')
    (k : vv_V p l e R s m args below meth c G A nL Q (pc + 3) lv rest ws' kc ks) : vv_V p l e R s m args below meth c G A nL Q pc lv (v :: .ref a :: rest) ws kc ks := by
  subst hw
  exact fun H locs ls hP hD hS hl2 => va_putF F.1.1 F.1.2.1 F.1.2.2.2.2 hin ty0 hty hnm F.1.2.2.2.1 F.2.1 hP hD hS q he hc j hj (F.1.2.2.2.2 _ hl) (fun _ h => h) hf F.2.2.2.2.2.1 ho (hty j hj) hn hfit hlen d (fun H1 l1 hP1 hD1 hS1 => k H1 l1 ls hP1 hD1 hS1 hl2)
theorem nb_bZ (b : Bool) : narrow .boolean (.int (iI (bZ b))) = .int (iI (bZ b)) := by cases b <;> rfl
theorem fb_bZ (b : Bool) : fits .boolean (.int (iI (bZ b))) = true := by cases b <;> rfl
/-- new objects, new arrays -/
theorem vv_new {C : String} {T : u_T} {N ci index : Nat} {fs : List Value} {ty0 : Nat → FieldType} (F : vv_F p s m args meth c cc own nm ret G A nL) (d : decode cc pc = .ok (.new index, 3)) (hin : ∀ w ∈ u_ws C T N, w ∈ zW) (hty : ∀ k, k < N → parseFieldDescriptor (T k).2.2.1 = some (ty0 k)) (hcl : Cond.classLink own index C ∈ zW) (hi : Cond.instantiable C N ∈ zW) (hini : Cond.initialized C ∈ zW) (hc : zC[ci]? = some (C, T, N)) (hfs : ∀ j, j < N → defaultValue (ty0 j) = vp_V fs j) (h1 : kc + 1 ≤ R.cells) (h2 : ks + N ≤ R.slots)
    (k : ∀ a : Nat, vv_V p l e R s m args below meth c G A nL Q (pc + 3) lv (.ref a :: rest) (ws ++ [(a, .inr (ci, fs))]) (kc + 1) (ks + N)) : vv_V p l e R s m args below meth c G A nL Q pc lv rest ws kc ks :=
  fun H locs ls hP hD hS hl => va_new F.1.1 F.1.2.1 F.1.2.2.2.2 hin ty0 hty F.1.2.2.2.1 (F.1.2.2.2.2 _ hcl) (F.1.2.2.2.2 _ hi) (F.1.2.2.2.2 _ hini) F.2.1 hP hD hS F.2.2.1 hc hfs h1 h2 d (fun q H1 hP1 hD1 hS1 => k q H1 locs ls hP1 hD1 hS1 hl)
theorem vv_cls {D : va_G} {cA cB : ClassId} {ty : FieldType} {tys : List (ClassId × FieldType)} {j : Nat} (hK : va_K D zC (tys ++ [(cA, ty)]) s) (hj : tys[j]? = some (cB, ty)) (hp : ∀ C, ty ≠ .object C) : cA = cB := by
  have h1 := (hK.2 tys.length (cA, ty) (by simp)).2
  have h2 := (hK.2 j (cB, ty) (by rw [List.getElem?_append_left ((List.getElem?_eq_some_iff.mp hj).1)]; exact hj)).2
  cases ty <;> first | exact Option.some.inj (h1.symm.trans h2) | exact absurd rfl (hp _)

theorem vv_newaI {i : Int} {N : Nat} (F : vv_F p s m args meth c cc own nm ret G A nL) (d : decode cc pc = .ok (.newarray .int, 2)) (hw : Cond.arrayClass .int ∈ zW) (hi : i = (N : Int)) (hN : N ≤ 60000) (h1 : kc + 1 ≤ R.cells) (h2 : ks + N ≤ R.slots)
    (k : ∀ a : Nat, vv_V p l e R s m args below meth c G A nL Q (pc + 2) lv (.ref a :: rest) (ws ++ [ceI G a N (fun _ => 0)]) (kc + 1) (ks + N)) : vv_V p l e R s m args below meth c G A nL Q pc lv (.int (iI i) :: rest) ws kc ks := by
  subst hi
  refine fun H locs ls hP hD hS hl => va_newa (atype := .int) F.1.1 F.1.2.1 (F.1.2.2.2.2 _ hw) (ty := .int) rfl F.2.1 hP hD hS F.2.2.1 (a0 := (N, .inl (fun _ => iI 0))) (fun cA => rfl) (n := iI (N : Int)) (N' := N) ?_ ?_ ?_ h1 h2 d (fun q cA H1 hK1 hP1 hD1 hS1 => ?_)
  · rw [← iI_0, iI_lt ⟨by omega, by omega⟩ (by decide)]; omega
  · rw [iI_cl ⟨by omega, by omega⟩]; rfl
  · simp only [componentBytes]; omega
  · have hcc := vv_cls hK1 (j := 0) rfl (fun C h => by cases h)
    subst hcc
    exact k q H1 locs ls hP1 hD1 hS1 hl
theorem vv_newaJ {i : Int} {N : Nat} (F : vv_F p s m args meth c cc own nm ret G A nL) (d : decode cc pc = .ok (.newarray .long, 2)) (hw : Cond.arrayClass .long ∈ zW) (hi : i = (N : Int)) (hN : N ≤ 60000) (h1 : kc + 1 ≤ R.cells) (h2 : ks + N ≤ R.slots)
    (k : ∀ a : Nat, vv_V p l e R s m args below meth c G A nL Q (pc + 2) lv (.ref a :: rest) (ws ++ [ceJ G a N (fun _ => 0)]) (kc + 1) (ks + N)) : vv_V p l e R s m args below meth c G A nL Q pc lv (.int (iI i) :: rest) ws kc ks := by
  subst hi
  refine fun H locs ls hP hD hS hl => va_newa (atype := .long) F.1.1 F.1.2.1 (F.1.2.2.2.2 _ hw) (ty := .long) rfl F.2.1 hP hD hS F.2.2.1 (a0 := (N, .inr (.inl (fun _ => 0)))) (fun cA => rfl) (n := iI (N : Int)) (N' := N) ?_ ?_ ?_ h1 h2 d (fun q cA H1 hK1 hP1 hD1 hS1 => ?_)
  · rw [← iI_0, iI_lt ⟨by omega, by omega⟩ (by decide)]; omega
  · rw [iI_cl ⟨by omega, by omega⟩]; rfl
  · simp only [componentBytes]; omega
  · have hcc := vv_cls hK1 (j := 1) rfl (fun C h => by cases h)
    subst hcc
    exact k q H1 locs ls hP1 hD1 hS1 hl
theorem vv_newaZ {i : Int} {N : Nat} (F : vv_F p s m args meth c cc own nm ret G A nL) (d : decode cc pc = .ok (.newarray .boolean, 2)) (hw : Cond.arrayClass .boolean ∈ zW) (hi : i = (N : Int)) (hN : N ≤ 60000) (h1 : kc + 1 ≤ R.cells) (h2 : ks + N ≤ R.slots)
    (k : ∀ a : Nat, vv_V p l e R s m args below meth c G A nL Q (pc + 2) lv (.ref a :: rest) (ws ++ [ceZ G a N (fun _ => false)]) (kc + 1) (ks + N)) : vv_V p l e R s m args below meth c G A nL Q pc lv (.int (iI i) :: rest) ws kc ks := by
  subst hi
  refine fun H locs ls hP hD hS hl => va_newa (atype := .boolean) F.1.1 F.1.2.1 (F.1.2.2.2.2 _ hw) (ty := .boolean) rfl F.2.1 hP hD hS F.2.2.1 (a0 := (N, .inl (fun _ => iI (bZ false)))) (fun cA => rfl) (n := iI (N : Int)) (N' := N) ?_ ?_ ?_ h1 h2 d (fun q cA H1 hK1 hP1 hD1 hS1 => ?_)
  · rw [← iI_0, iI_lt ⟨by omega, by omega⟩ (by decide)]; omega
  · rw [iI_cl ⟨by omega, by omega⟩]; rfl
  · simp only [componentBytes]; omega
  · have hcc := vv_cls hK1 (j := 2) rfl (fun C h => by cases h)
    subst hcc
    exact k q H1 locs ls hP1 hD1 hS1 hl
theorem vv_objInit {index a : Nat} (F : vv_F p s m args meth c cc own nm ret G A nL) (d : decode cc pc = .ok (.invokespecial index, 3)) (hl : Cond.methodLink own index objectInit ∈ zW) (hi : Cond.instanceMethod objectInit ∈ zW) (hc : Cond.code objectInit ⟨#[0xb1]⟩ 1 none ∈ zW) (hr : (rest.map fun v => v.category).sum ≤ 8) (h1 : 1 ≤ R.frames) (h2 : 20 ≤ R.locals)
    (k : vv_V p l e R s m args below meth c G A nL Q (pc + 3) lv rest ws kc ks) : vv_V p l e R s m args below meth c G A nL Q pc lv (.ref a :: rest) ws kc ks :=
  fun H locs ls hP hD hS hl2 => W.objInit F.1.1 F.1.2.1 F.1.2.2.2.1 (F.1.2.2.2.2 _ hl) (F.1.2.2.2.2 _ hi) (F.1.2.2.2.2 _ hc) rfl (by rw [F.1.2.2.1]; exact hl2.1) rfl d h1 (by have := lv_room (m := m) (pc := pc) (ls := ls) (rest := (.ref a :: rest)) hr; show 2 * (F0 m pc ls (.ref a :: rest)).monitorRoom + _ + 12 ≤ _; omega) (k H locs ls hP hD hS hl2)
/-- a method's contract: from these arguments and cells it returns, with an answer and cells of 'post'; no other old cell changes -/
def vv_C (l : Launch) (y : MethodName) (bytes : ByteArray) (maxL : Nat) (ret : Option FieldType) (rm : Room) (G : vv_G) (av : List Value) (ws : va_W) (post : Option Value → va_W → Prop) : Prop :=
  ∀ sz : Nat, Met l y (Cond.code y bytes maxL ret :: zW) rm (va_Pc av (fun U => U.heap.size = sz ∧ va_P G.1 zC ws U.heap ∧ va_K G.1 zC (vv_t G) U ∧ va_D (fun _ => True) ws ∧ zE U))
    (fun _ st oc t => (∃ (v : Option Value) (w1 : va_W), oc = .returned v ∧ post v w1 ∧ va_P G.1 zC w1 t.heap ∧ va_D (va_A ws sz) w1) ∧ va_F (va_A ws sz) st t) rm.cells rm.slots (va_A ws sz)
/-- .. with this answer and these cells -/
abbrev vv_D (l : Launch) (y : MethodName) (bytes : ByteArray) (maxL : Nat) (ret : Option FieldType) (rm : Room) (G : vv_G) (av : List Value) (ws : va_W) (v0 : Option Value) (w0 : va_W) : Prop :=
  vv_C l y bytes maxL ret rm G av ws (fun v w => v = v0 ∧ w = w0)
/-- where a method must come to -/
def vv_R (below : List Frame) (args : Array Value) (s : State) (rm : Room) (G : vv_G) (A : Nat → Prop) (post : Option Value → va_W → Prop) : State → Prop :=
  MQ below (fun _ st oc t => (∃ (v : Option Value) (w1 : va_W), oc = .returned v ∧ post v w1 ∧ va_P G.1 zC w1 t.heap ∧ va_D A w1) ∧ va_F A st t) args s rm.cells rm.slots A
theorem vv_met {y : MethodName} {maxL : Nat} {rm : Room} {av : List Value} {lv0 : List (Nat × Value)} {post : Option Value → va_W → Prop} (hy : plainFor y = true) (hl : (lg_sl av).length ≤ maxL) (hlv : lv_args 0 av = lv0)
    (body : ∀ (p : Program) (e : Env) (s : State) (m : MethodId) (args : Array Value) (below : List Frame) (meth : Method) (c : Code) (A : Nat → Prop), vv_F p s m args meth c cc y.cls y.name ret G A maxL → vv_V p l e rm s m args below meth c G A maxL (vv_R below args s rm G A post) 0 lv0 [] ws 0 0) : vv_C l y cc maxL ret rm G av ws post := by
  intro sz
  refine va_MetF (cc := cc) (maxL := maxL) (ret := ret) hy rfl ?_
  intro p e s m args below meth c s₁ B hml hv
  obtain ⟨rfl, hsz, hP, hK, hD0, hE⟩ := hv
  subst hsz
  have hts := atoms_spec (ws := Cond.code y cc maxL ret :: zW) B.pre
  have hD := hD0.self (sz := s.heap.size)
  have he := lv_entry av (n := maxL) hl
  rw [hlv] at he
  rw [lg_entry_eq]
  exact body p e s m _ below meth c (va_A ws s.heap.size) ⟨⟨B.exec, B.bytes, hml, findClass_of_methodNamed B.named, fun w hw => hts w (List.mem_cons_of_mem _ hw)⟩, hK, fun q h => Or.inr h, B.notSynchronized, B.returns, (name_of_methodNamed B.named B.method).1, hE⟩ s.heap [] _ hP hD va_S.rf he
section VVR
variable {post : Option Value → va_W → Prop}
theorem vv_iret {v : Int} (F : vv_F p s m args meth c cc own nm (some .int) G A nL) (d : decode cc pc = .ok (.ireturn, 1)) (h : post (some (.int (iI v))) ws) : vv_V p l e R s m args below meth c G A nL (vv_R below args s R G A post) pc lv [.int (iI v)] ws R.cells R.slots :=
  fun H locs ls hP hD hS hl => W.iret F.1.1 F.1.2.1 F.2.2.2.2.1 (fun t ht hW => ⟨⟨_, ws, rfl, h, by rw [ht]; exact hP, hD⟩, hS.F ht⟩) hS.2.2 d (hlocks := F.2.2.2.1)
theorem vv_zret {v : Bool} (F : vv_F p s m args meth c cc own nm (some .boolean) G A nL) (d : decode cc pc = .ok (.ireturn, 1)) (h : post (some (.int (iI (bZ v)))) ws) : vv_V p l e R s m args below meth c G A nL (vv_R below args s R G A post) pc lv [.int (iI (bZ v))] ws R.cells R.slots :=
  fun H locs ls hP hD hS hl => W.zret F.1.1 F.1.2.1 F.2.2.2.2.1 (nb_bZ v) (fun t ht hW => ⟨⟨_, ws, rfl, h, by rw [ht]; exact hP, hD⟩, hS.F ht⟩) hS.2.2 d (hlocks := F.2.2.2.1)
theorem vv_lret {v : Int64} (F : vv_F p s m args meth c cc own nm (some .long) G A nL) (d : decode cc pc = .ok (.lreturn, 1)) (h : post (some (.long v)) ws) : vv_V p l e R s m args below meth c G A nL (vv_R below args s R G A post) pc lv [.long v] ws R.cells R.slots :=
  fun H locs ls hP hD hS hl => W.lret F.1.1 F.1.2.1 F.2.2.2.2.1 (fun t ht hW => ⟨⟨_, ws, rfl, h, by rw [ht]; exact hP, hD⟩, hS.F ht⟩) hS.2.2 d (hlocks := F.2.2.2.1)
theorem vv_vret (F : vv_F p s m args meth c cc own nm none G A nL) (d : decode cc pc = .ok (.return_, 1)) (h : post none ws) : vv_V p l e R s m args below meth c G A nL (vv_R below args s R G A post) pc lv [] ws R.cells R.slots :=
  fun H locs ls hP hD hS hl => W.vret F.1.1 F.1.2.1 F.2.2.2.2.1 (fun t ht hW => ⟨⟨_, ws, rfl, h, by rw [ht]; exact hP, hD⟩, hS.F ht⟩) hS.2.2 d (hlocks := F.2.2.2.1)
theorem vv_aret {a : Nat} {n : String} (F : vv_F p s m args meth c cc own nm (some (.object n)) G A nL) (d : decode cc pc = .ok (.areturn, 1)) (h : post (some (.ref a)) ws) : vv_V p l e R s m args below meth c G A nL (vv_R below args s R G A post) pc lv [.ref a] ws R.cells R.slots :=
  fun H locs ls hP hD hS hl => W.aret F.1.1 F.1.2.1 F.2.2.2.2.1 (Or.inl ⟨n, rfl⟩) (Or.inr ⟨a, rfl⟩) (fun t ht hW => ⟨⟨_, ws, rfl, h, by rw [ht]; exact hP, hD⟩, hS.F ht⟩) hS.2.2 d (hlocks := F.2.2.2.1)
end VVR
/-- behind a call -/
theorem vv_go {st0 : List Value} {a : Array Value} {A1 : Nat → Prop} {H : Heap} {locs : List Loc} {ls : Array Slot} {mc ms : Nat} {free : Addr → Prop} {post : Option Value → va_W → Prop} (hr : va_Run p l e R s m args below meth c H locs kc ks mc ms (F0 m pc ls st0) rest (fun st oc t => (∃ (v : Option Value) (w1 : va_W), oc = .returned v ∧ post v w1 ∧ va_P G.1 zC w1 t.heap ∧ va_D A1 w1) ∧ va_F A1 st t) free) (hS : va_S A s.heap H locs) (hA : ∀ q, q < H.size → A1 q → A q) (hf : ∀ q, free q → A q)
    (kk : ∀ (v : Option Value) (w1 : va_W) (H1 : Heap) (locs1 : List Loc), post v w1 → va_P G.1 zC w1 H1 → va_D A1 w1 → (∀ q : Nat, q < H.size → ¬ A1 q → H1[q]? = H[q]?) → va_S A s.heap H1 locs1 → W p l e R s m args below meth c H1 locs1 (kc + mc) (ks + ms) Q (F0 m (pc + 3) ls (v.toList ++ rest))) : W p l e R s m args below meth c H locs kc ks Q (F0 m pc ls st0) := by
  intro T hT X
  obtain ⟨v, st₀, t, T', L, h0, X', hL, e1, e2, ⟨⟨v', w1, hv, hp, hb, hd⟩, hz, hk⟩, st⟩ := hr T hT X
  cases hv
  rw [h0] at hz hk
  obtain ⟨t2, a1, b1⟩ := kk v w1 T'.heap (locs ++ L) hp (by rw [e1]; exact hb) hd (fun q h1 h2 => by rw [e1]; exact hk q h1 h2)
    ⟨Nat.le_trans hS.1 (by rw [e1]; exact hz), fun q h1 h2 => by rw [e1, hk q (Nat.lt_of_lt_of_le h1 hS.1) (fun z => h2 (hA q (Nat.lt_of_lt_of_le h1 hS.1) z))]; exact hS.2.1 q h1 h2, fun q hq => by
      rcases List.mem_append.mp hq with h | h
      · exact hS.2.2 q h
      · exact hf _ (hL q h)⟩ T' rfl X'
  exact ⟨t2, st t2 a1, b1⟩
/-- what the tables say of a method that is called -/
def vv_M (y : MethodName) (bytes : ByteArray) (maxL : Nat) (ret : Option FieldType) (n : Nat) : Prop := Cond.code y bytes maxL ret ∈ zW ∧ Cond.initialized y.cls ∈ zW ∧ (y.cls ≠ "java/lang/invoke/MethodHandle" ∧ y.cls ≠ "java/lang/invoke/VarHandle") ∧ (parseMethodDescriptor y.desc).map (fun d => d.parameters.length) = some n
theorem vv_Mn {y : MethodName} {bytes : ByteArray} {maxL : Nat} {r2 : Option FieldType} {n : Nat} (h : vv_M y bytes maxL r2 n) : ∀ sig, parseMethodDescriptor y.desc = some sig → n = sig.parameters.length := by
  intro sig hs
  have := h.2.2.2
  rw [hs] at this
  exact (Option.some.inj this).symm
theorem vv_wds {y : MethodName} {bytes : ByteArray} {maxL : Nat} {r2 : Option FieldType} (F : vv_F p s m args meth c cc own nm ret G A nL) (h : Cond.code y bytes maxL r2 ∈ zW) : ∀ w ∈ (Cond.code y bytes maxL r2 :: zW), ∀ (a' : Array Value) (U : State), s.WarmedH U.vm → w.before a' U = true :=
  pay_in F.1.2.2.2.2 (fun w hw => (List.mem_cons.mp hw).elim (fun e => e ▸ ⟨h, zW_good _ h⟩) (fun h1 => ⟨h1, zW_good _ h1⟩))
theorem vv_cb {y : MethodName} {bytes : ByteArray} {maxL index : Nat} {r2 : Option FieldType} {n : Nat} {rm : Room} (F : vv_F p s m args meth c cc own nm ret G A nL) (h : vv_M y bytes maxL r2 n) (hl : Cond.methodLink own index y ∈ zW) (hR : rm.frames + 1 ≤ R.frames ∧ 8 + (maxL + 11) + rm.locals ≤ R.locals) : CallB R s args own index y bytes maxL r2 (Cond.code y bytes maxL r2 :: zW) rm rm.cells rm.slots n :=
  ⟨rfl, rfl, hR.1, hR.2, vv_wds F h.1, List.mem_cons_self, F.1.2.2.2.2 _ h.1, F.1.2.2.2.2 _ h.2.1, h.2.2.1, vv_Mn h, F.1.2.2.2.2 _ hl⟩
theorem vv_cn {y : MethodName} {host : String} {bytes : ByteArray} {maxL index : Nat} {r2 : Option FieldType} {n : Nat} {rm : Room} (F : vv_F p s m args meth c cc own nm ret G A nL) (h : vv_M y bytes maxL r2 n) (hl : Cond.methodLinkNest own index y host ∈ zX) (hR : rm.frames + 1 ≤ R.frames ∧ 8 + (maxL + 11) + rm.locals ≤ R.locals) : va_CN R s args own index y host bytes maxL r2 (Cond.code y bytes maxL r2 :: zW) rm rm.cells rm.slots n :=
  ⟨⟨rfl, rfl, hR.1, hR.2, vv_wds F h.1, List.mem_cons_self⟩, F.1.2.2.2.2 _ h.1, F.1.2.2.2.2 _ h.2.1, h.2.2.1, vv_Mn h, va_Nw.use rfl (F.2.2.2.2.2.2 _ hl)⟩
/-- what a callee finds -/
theorem vv_pre {H : Heap} {locs : List Loc} {av : List Value} {wc : va_W} (F : vv_F p s m args meth c cc own nm ret G A nL) (hP : va_P G.1 zC wc H) (hD : va_D A wc) : (FrameBlind (va_Pc av (fun U => U.heap.size = H.size ∧ va_P G.1 zC wc U.heap ∧ va_K G.1 zC (vv_t G) U ∧ va_D (fun _ => True) wc ∧ zE U))) ∧ ∀ U : State, U.heap = H → s.WarmedH U.vm → (va_Pc av (fun U => U.heap.size = H.size ∧ va_P G.1 zC wc U.heap ∧ va_K G.1 zC (vv_t G) U ∧ va_D (fun _ => True) wc ∧ zE U)) av.toArray U :=
  ⟨fun a U g mk q => by
    obtain ⟨q0, q1, qP, qK, qD, qE⟩ := q
    exact ⟨q0, q1, qP, va_K.moved (u := U) (U := U.calling g mk a) (Vm.Alike.refl U.vm) qK, qD, zE_same (u := U) rfl qE⟩,
   fun U hU hW => ⟨rfl, by rw [hU], by rw [hU]; exact hP, va_K.moved hW.alike F.2.1, hD.weaken (fun _ _ _ _ => trivial), zE_warm hW F.2.2.2.2.2.2⟩⟩
section VVC
variable {y : MethodName} {bytes : ByteArray} {maxL index n b ci N q0 : Nat} {r2 : Option FieldType} {rm : Room} {As st : List Value} {wc wr : va_W} {post : Option Value → va_W → Prop} {C host : String} {T : u_T} {fs : List Value}

theorem vv_callV (F : vv_F p s m args meth c cc own nm ret G A nL) (hM : vv_C l y bytes maxL r2 rm G (.ref b :: As) wc post) (hm : vv_M y bytes maxL r2 n) (hi : Cond.instanceMethod y ∈ zW ∧ Cond.selects C y y ∈ zW) (hl : Cond.methodLink own index y ∈ zW) (d : decode cc pc = .ok (.invokevirtual index, 3)) (hrm : rm.frames + 1 ≤ R.frames ∧ 8 + (maxL + 11) + rm.locals ≤ R.locals) (hk : kc + rm.cells ≤ R.cells ∧ ks + rm.slots ≤ R.slots) (isC isR : List Nat) (hC : isC.map (fun i => ws[i]?) = wc.map some) (hR : isR.map (fun i => ws[i]?) = wr.map some) (hn : va_nd isC = true ∧ va_nd isR = true ∧ (∀ i ∈ isR, i ∉ isC)) (hq : ws[q0]? = some (b, .inr (ci, fs))) (hc : zC[ci]? = some (C, T, N)) (hn2 : As.length = n) (hst : st = As.reverse ++ .ref b :: rest) (hcat : (rest.map fun v => v.category).sum ≤ 8)
    (k : ∀ (v : Option Value) (w1 : va_W), post v w1 → vv_V p l e R s m args below meth c G A nL Q (pc + 3) lv (v.toList ++ rest) (wr ++ w1) (kc + rm.cells) (ks + rm.slots)) : vv_V p l e R s m args below meth c G A nL Q pc lv st ws kc ks := by
  subst hst
  intro H locs ls hP hD hS hl2
  have hPc := hP.sub isC (vv_fm hC)
  have hDc := hD.sub isC hn.1 hC
  have hFc := va_free hD hS F.2.2.1 isC hC
  refine vv_go (a := (.ref b :: As : List Value).toArray) (A1 := va_A wc H.size) (G := G) (post := post) (va_runV (As := As) (rest := rest) F.1 (hM H.size) ⟨vv_cb F hm hl hrm, F.1.2.2.2.2 _ hi.1, F.1.2.2.2.2 _ hi.2⟩ ⟨(vv_pre F (locs := locs) hPc hDc).1, va_recv F.2.1 hP hc hq, (vv_pre F (locs := locs) hPc hDc).2⟩ rfl hn2 hl2.1 rfl (lv_room hcat) d hk) hS (fun q _ h => hFc q h) hFc (fun v w1 H1 locs1 hp hP1 hD1 hk1 hS1 => ?_)
  obtain ⟨hPj, hDj⟩ := va_join hP hD isC isR hC hR hn.2.1 hn.2.2 hk1 hFc hP1 hD1
  exact k v w1 hp H1 locs1 ls hPj hDj hS1 hl2
theorem vv_callI (F : vv_F p s m args meth c cc own nm ret G A nL) (hM : vv_C l y bytes maxL none rm G (.ref b :: As) wc post) (hm : vv_M y bytes maxL none n) (hi : y.name = "<init>" ∧ Cond.instanceMethod y ∈ zW) (hl : Cond.methodLink own index y ∈ zW) (d : decode cc pc = .ok (.invokespecial index, 3)) (hrm : rm.frames + 1 ≤ R.frames ∧ 8 + (maxL + 11) + rm.locals ≤ R.locals) (hk : kc + rm.cells ≤ R.cells ∧ ks + rm.slots ≤ R.slots) (isC isR : List Nat) (hC : isC.map (fun i => ws[i]?) = wc.map some) (hR : isR.map (fun i => ws[i]?) = wr.map some) (hn : va_nd isC = true ∧ va_nd isR = true ∧ (∀ i ∈ isR, i ∉ isC)) (hn2 : As.length = n) (hst : st = As.reverse ++ .ref b :: rest) (hcat : (rest.map fun v => v.category).sum ≤ 8)
    (k : ∀ (v : Option Value) (w1 : va_W), post v w1 → vv_V p l e R s m args below meth c G A nL Q (pc + 3) lv (v.toList ++ rest) (wr ++ w1) (kc + rm.cells) (ks + rm.slots)) : vv_V p l e R s m args below meth c G A nL Q pc lv st ws kc ks := by
  subst hst
  intro H locs ls hP hD hS hl2
  have hPc := hP.sub isC (vv_fm hC)
  have hDc := hD.sub isC hn.1 hC
  have hFc := va_free hD hS F.2.2.1 isC hC
  refine vv_go (a := (.ref b :: As : List Value).toArray) (A1 := va_A wc H.size) (G := G) (post := post) (va_runI (As := As) (rest := rest) F.1 (hM H.size) ⟨vv_cb F hm hl hrm, hi.1, F.1.2.2.2.2 _ hi.2⟩ (vv_pre F (locs := locs) hPc hDc) rfl hn2 hl2.1 rfl (lv_room hcat) d hk) hS (fun q _ h => hFc q h) hFc (fun v w1 H1 locs1 hp hP1 hD1 hk1 hS1 => ?_)
  obtain ⟨hPj, hDj⟩ := va_join hP hD isC isR hC hR hn.2.1 hn.2.2 hk1 hFc hP1 hD1
  exact k v w1 hp H1 locs1 ls hPj hDj hS1 hl2
theorem vv_callS (F : vv_F p s m args meth c cc own nm ret G A nL) (hM : vv_C l y bytes maxL r2 rm G (As) wc post) (hm : vv_M y bytes maxL r2 n) (hi : Cond.static y ∈ zW) (hl : Cond.methodLink own index y ∈ zW) (d : decode cc pc = .ok (.invokestatic index, 3)) (hrm : rm.frames + 1 ≤ R.frames ∧ 8 + (maxL + 11) + rm.locals ≤ R.locals) (hk : kc + rm.cells ≤ R.cells ∧ ks + rm.slots ≤ R.slots) (isC isR : List Nat) (hC : isC.map (fun i => ws[i]?) = wc.map some) (hR : isR.map (fun i => ws[i]?) = wr.map some) (hn : va_nd isC = true ∧ va_nd isR = true ∧ (∀ i ∈ isR, i ∉ isC)) (hn2 : As.length = n) (hst : st = As.reverse ++ rest) (hcat : (rest.map fun v => v.category).sum ≤ 8)
    (k : ∀ (v : Option Value) (w1 : va_W), post v w1 → vv_V p l e R s m args below meth c G A nL Q (pc + 3) lv (v.toList ++ rest) (wr ++ w1) (kc + rm.cells) (ks + rm.slots)) : vv_V p l e R s m args below meth c G A nL Q pc lv st ws kc ks := by
  subst hst
  intro H locs ls hP hD hS hl2
  have hPc := hP.sub isC (vv_fm hC)
  have hDc := hD.sub isC hn.1 hC
  have hFc := va_free hD hS F.2.2.1 isC hC
  refine vv_go (a := (As : List Value).toArray) (A1 := va_A wc H.size) (G := G) (post := post) (va_runS (As := As) (rest := rest) F.1 (hM H.size) ⟨vv_cb F hm hl hrm, F.1.2.2.2.2 _ hi⟩ (vv_pre F (locs := locs) hPc hDc) rfl hn2 hl2.1 rfl (lv_room hcat) d hk) hS (fun q _ h => hFc q h) hFc (fun v w1 H1 locs1 hp hP1 hD1 hk1 hS1 => ?_)
  obtain ⟨hPj, hDj⟩ := va_join hP hD isC isR hC hR hn.2.1 hn.2.2 hk1 hFc hP1 hD1
  exact k v w1 hp H1 locs1 ls hPj hDj hS1 hl2
theorem vv_callSN (F : vv_F p s m args meth c cc own nm ret G A nL) (hM : vv_C l y bytes maxL r2 rm G (As) wc post) (hm : vv_M y bytes maxL r2 n) (hi : Cond.static y ∈ zW) (hl : Cond.methodLinkNest own index y host ∈ zX) (d : decode cc pc = .ok (.invokestatic index, 3)) (hrm : rm.frames + 1 ≤ R.frames ∧ 8 + (maxL + 11) + rm.locals ≤ R.locals) (hk : kc + rm.cells ≤ R.cells ∧ ks + rm.slots ≤ R.slots) (isC isR : List Nat) (hC : isC.map (fun i => ws[i]?) = wc.map some) (hR : isR.map (fun i => ws[i]?) = wr.map some) (hn : va_nd isC = true ∧ va_nd isR = true ∧ (∀ i ∈ isR, i ∉ isC)) (hn2 : As.length = n) (hst : st = As.reverse ++ rest) (hcat : (rest.map fun v => v.category).sum ≤ 8)
    (k : ∀ (v : Option Value) (w1 : va_W), post v w1 → vv_V p l e R s m args below meth c G A nL Q (pc + 3) lv (v.toList ++ rest) (wr ++ w1) (kc + rm.cells) (ks + rm.slots)) : vv_V p l e R s m args below meth c G A nL Q pc lv st ws kc ks := by
  subst hst
  intro H locs ls hP hD hS hl2
  have hPc := hP.sub isC (vv_fm hC)
  have hDc := hD.sub isC hn.1 hC
  have hFc := va_free hD hS F.2.2.1 isC hC
  refine vv_go (a := (As : List Value).toArray) (A1 := va_A wc H.size) (G := G) (post := post) (va_runSN (As := As) (rest := rest) F.1 (hM H.size) ⟨vv_cn F hm hl hrm, F.1.2.2.2.2 _ hi, trivial⟩ (vv_pre F (locs := locs) hPc hDc) rfl hn2 hl2.1 rfl (lv_room hcat) d hk) hS (fun q _ h => hFc q h) hFc (fun v w1 H1 locs1 hp hP1 hD1 hk1 hS1 => ?_)
  obtain ⟨hPj, hDj⟩ := va_join hP hD isC isR hC hR hn.2.1 hn.2.2 hk1 hFc hP1 hD1
  exact k v w1 hp H1 locs1 ls hPj hDj hS1 hl2
theorem vv_callIN (F : vv_F p s m args meth c cc own nm ret G A nL) (hM : vv_C l y bytes maxL none rm G (.ref b :: As) wc post) (hm : vv_M y bytes maxL none n) (hi : y.name = "<init>" ∧ Cond.instanceMethod y ∈ zW) (hl : Cond.methodLinkNest own index y host ∈ zX) (d : decode cc pc = .ok (.invokespecial index, 3)) (hrm : rm.frames + 1 ≤ R.frames ∧ 8 + (maxL + 11) + rm.locals ≤ R.locals) (hk : kc + rm.cells ≤ R.cells ∧ ks + rm.slots ≤ R.slots) (isC isR : List Nat) (hC : isC.map (fun i => ws[i]?) = wc.map some) (hR : isR.map (fun i => ws[i]?) = wr.map some) (hn : va_nd isC = true ∧ va_nd isR = true ∧ (∀ i ∈ isR, i ∉ isC)) (hn2 : As.length = n) (hst : st = As.reverse ++ .ref b :: rest) (hcat : (rest.map fun v => v.category).sum ≤ 8)
    (k : ∀ (v : Option Value) (w1 : va_W), post v w1 → vv_V p l e R s m args below meth c G A nL Q (pc + 3) lv (v.toList ++ rest) (wr ++ w1) (kc + rm.cells) (ks + rm.slots)) : vv_V p l e R s m args below meth c G A nL Q pc lv st ws kc ks := by
  subst hst
  intro H locs ls hP hD hS hl2
  have hPc := hP.sub isC (vv_fm hC)
  have hDc := hD.sub isC hn.1 hC
  have hFc := va_free hD hS F.2.2.1 isC hC
  refine vv_go (a := (.ref b :: As : List Value).toArray) (A1 := va_A wc H.size) (G := G) (post := post) (va_runIN (As := As) (rest := rest) F.1 (hM H.size) ⟨vv_cn F hm hl hrm, hi.1, F.1.2.2.2.2 _ hi.2⟩ (vv_pre F (locs := locs) hPc hDc) rfl hn2 hl2.1 rfl (lv_room hcat) d hk) hS (fun q _ h => hFc q h) hFc (fun v w1 H1 locs1 hp hP1 hD1 hk1 hS1 => ?_)
  obtain ⟨hPj, hDj⟩ := va_join hP hD isC isR hC hR hn.2.1 hn.2.2 hk1 hFc hP1 hD1
  exact k v w1 hp H1 locs1 ls hPj hDj hS1 hl2
/-- behind a call whose answer and cells are known -/
theorem vv_then {v0 : Option Value} {w0 ws' : va_W} {st' : List Value} {kc' ks' : Nat} (js : List Nat) (hj : js.map (fun i => (wr ++ w0)[i]?) = ws'.map some) (hnj : va_nd js = true) (hst : v0.toList ++ rest = st') (k : vv_V p l e R s m args below meth c G A nL Q pc lv st' ws' kc' ks') : ∀ (v : Option Value) (w1 : va_W), (v = v0 ∧ w1 = w0) → vv_V p l e R s m args below meth c G A nL Q pc lv (v.toList ++ rest) (wr ++ w1) kc' ks' := by
  rintro _ _ ⟨rfl, rfl⟩
  subst hst
  exact vv_cells js hnj hj k
end VVC
end VV
