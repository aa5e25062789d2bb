/-! exceptions: what the heap says of Throwable's statics and of the strings; a method that throws; a throw, a call that throws, a catch -/
def xs (C n d : String) (U : State) : Prop := ∃ (c : ClassId) (k : Class) (i : Nat) (f : Field) (a : Nat) (cell : Cell) (v : Value), U.vm.findClass C = some c ∧ U.fieldFound? C n d = some (c, k, i, f) ∧ f.isStatic = true ∧ k.statics = some a ∧ U.heap[a]? = some cell ∧ cell.vm.isStatics = true ∧ cell.cls = c ∧ f.slot < cell.slots.size ∧ k.staticTypes[f.slot]? = some f.type ∧ cell.slots[f.slot]? = some v ∧ v.isRef = true
theorem xs.moved {C n d : String} {u U : State} (hvm : u.vm.Alike U.vm) (hh : ∀ (q : Nat) (cell : Cell), u.heap[q]? = some cell → cell.vm.isStatics = true → U.heap[q]? = some cell) (h : xs C n d u) : xs C n d U := by
  obtain ⟨c, k, i, f, a, cell, v, h1, h2, h3, h4, h5, h6, h7, h8, h9, h10, h11⟩ := h
  obtain ⟨k', hi', he⟩ := State.fieldFound?_setVm hvm h2
  exact ⟨c, k', i, f, a, cell, v, by rw [hvm.findClass]; exact h1, hi', h3, by rw [he]; exact h4, hh a cell h5 h6, h6, h7, h8, by rw [he]; exact h9, h10, h11⟩
theorem xs.of {C n d : String} {args : Array Value} {s : State} (hl : (Cond.laysStatic C n d).before args s = true) (hr : (Cond.isRef (.static C n d)).before args s = true) : xs C n d s := by
  obtain ⟨c, k, i, f, a, cell, hc, hi, hst, ha, hcell, hs, hcls, hlt, hty⟩ := Cond.laysStatic_spec hl
  obtain ⟨u, hu⟩ := Cond.staticRefV hi hst ha hcell hs hr
  exact ⟨c, k, i, f, a, cell, u.v, hc, hi, hst, ha, hcell, hs, hcls, hlt, hty, hu, u.ok⟩
theorem xs.lays {C n d : String} {U : State} (h : xs C n d U) (args : Array Value) : (Cond.laysStatic C n d).before args U = true := by
  obtain ⟨c, k, i, f, a, cell, v, h1, h2, h3, h4, h5, h6, h7, h8, h9, h10, h11⟩ := h
  exact Cond.laysStatic_of h1 h2 h3 h4 h5 h6 h7 h8 h9
theorem xs.ref {C n d : String} {U : State} (h : xs C n d U) (args : Array Value) : (Cond.isRef (.static C n d)).before args U = true := by
  obtain ⟨c, k, i, f, a, cell, v, h1, h2, h3, h4, h5, h6, h7, h8, h9, h10, h11⟩ := h
  have he : (Term.static C n d).eval args U none [] U = some v := by
    simp [Term.eval, State.fieldNamed?, h2, h3, h4, h5, h6, h10]
  cases v <;> first | (simp [Cond.before, Cond.holds, Cond.value, he]; done) | cases h11
def xIsS : Cond → Bool
  | .stringRef .. => true
  | _ => false
def zS : List Cond := lw_tbl.filter xIsS
theorem zS_at {w : Cond} (i : Nat) (h : tables_1[i]? = some w) (hg : xIsS w = true) : w ∈ zS := List.mem_filter.mpr ⟨List.mem_append_right _ (List.mem_of_getElem? h), hg⟩
/-- a class that is not under another -/
def xn (C D : String) (U : State) : Prop := ∃ (c d : ClassId), U.vm.findClass C = some c ∧ U.vm.findClass D = some d ∧ U.vm.assignable c d = false
theorem xn.moved {C D : String} {u U : State} (hvm : u.vm.Alike U.vm) (h : xn C D u) : xn C D U := by
  obtain ⟨c, d, h1, h2, h3⟩ := h
  exact ⟨c, d, by rw [hvm.findClass]; exact h1, by rw [hvm.findClass]; exact h2, by rw [hvm.assignable]; exact h3⟩
abbrev xIA : String := "java/lang/IllegalArgumentException"
abbrev xIO : String := "java/lang/IndexOutOfBoundsException"
abbrev xIS : String := "java/lang/IllegalStateException"
def xUp : List String := ["java/lang/RuntimeException", "java/lang/Exception"]
def xE (U : State) : Prop := xs Bundle.tN "UNASSIGNED_STACK" Bundle.steD U ∧ xs Bundle.tN "SUPPRESSED_SENTINEL" Bundle.listD U ∧ (∀ (o : String) (k : Nat) (t : String), Cond.stringRef o k t ∈ zS → ∃ a : Nat, vk_R o k t a U) ∧ xn xIA xIO U ∧ xn xIS xIA U
theorem xE_warm {s U : State} (hW : s.WarmedH U.vm) (hh : ∀ (q : Nat) (cell : Cell), s.heap[q]? = some cell → cell.vm.isStatics = true → U.heap[q]? = some cell) (h : xE s) : xE U := by
  refine ⟨h.1.moved hW.alike hh, h.2.1.moved hW.alike hh, ?_, h.2.2.2.1.moved hW.alike, h.2.2.2.2.moved hW.alike⟩
  intro o k t hw
  obtain ⟨a, h0⟩ := h.2.2.1 o k t hw
  exact ⟨a, h0.warm hW⟩
theorem xE_same {u U : State} (h : u.vm = U.vm) (hh : u.heap = U.heap) (hE : xE u) : xE U := by
  have hal : u.vm.Alike U.vm := by rw [h]; exact Vm.Alike.refl _
  refine ⟨hE.1.moved hal (fun q cell h1 _ => by rw [← hh]; exact h1), hE.2.1.moved hal (fun q cell h1 _ => by rw [← hh]; exact h1), ?_, hE.2.2.2.1.moved hal, hE.2.2.2.2.moved hal⟩
  intro o k t hw
  obtain ⟨a, h0⟩ := hE.2.2.1 o k t hw
  exact ⟨a, vk_R.same h.symm h0⟩
/-- the heap's own words of an exception's making -/
def xH : List Cond := [.laysStatic Bundle.tN "UNASSIGNED_STACK" Bundle.steD, .laysStatic Bundle.tN "SUPPRESSED_SENTINEL" Bundle.listD, .isRef (.static Bundle.tN "UNASSIGNED_STACK" Bundle.steD), .isRef (.static Bundle.tN "SUPPRESSED_SENTINEL" Bundle.listD)]
def xOk (a : Cond) : Prop := a ∈ zW ∨ a ∈ zX ∨ a ∈ xH
theorem xE.use {U : State} (h : xE U) (args : Array Value) : ∀ a ∈ xH, a.before args U = true :=
  List.forall_mem_cons.mpr ⟨h.1.lays args, List.forall_mem_cons.mpr ⟨h.2.1.lays args, List.forall_mem_cons.mpr ⟨h.1.ref args, List.forall_mem_cons.mpr ⟨h.2.1.ref args, fun _ h => absurd h List.not_mem_nil⟩⟩⟩⟩
theorem zX_onT {w : Cond} (h : w ∈ zX) : w.onTables = true := by
  have h1 := (List.mem_filter.mp h).2
  cases w <;> first | rfl | cases h1
theorem str_any {o t : String} {k : Nat} {A A' : Array Value} {U : State} (h : (Cond.stringRef o k t).before A U = true) : (Cond.stringRef o k t).before A' U = true := by
  simp only [Cond.before, Cond.holds, Cond.value] at h ⊢
  exact h
/-- beside vv_F: the words of exceptions, at the method's start; no static cell is the method's own -/
def vt_F (s : State) (A : Nat → Prop) : Prop := xE s ∧ ∀ (q : Nat) (cell : Cell), s.heap[q]? = some cell → cell.vm.isStatics = true → ¬ A q
theorem vt_F.at {s : State} {A : Nat → Prop} {H : Heap} {locs : List Loc} (h : vt_F s A) (hS : va_S A s.heap H locs) {U : State} (hU : U.heap = H) (hW : s.WarmedH U.vm) : xE U :=
  xE_warm hW (fun q cell h1 h2 => by rw [hU, hS.2.1 q (Array.getElem?_eq_some_iff.mp h1).1 (h.2 q cell h1 h2)]; exact h1) h.1
theorem vp_cell_vm (cA : ClassId) (a : vp_A) : (vp_cell cA a).vm = .none := by
  obtain ⟨n, f⟩ := a
  rcases f with f | f | f | f | f <;> rfl
theorem vt_ap {D : va_G} {cl : List vw_C} {ws : va_W} {H : Heap} (hP : va_P D cl ws H) : ∀ (q : Nat) (cell : Cell), H[q]? = some cell → cell.vm.isStatics = true → ¬ va_A ws H.size q := by
  intro q cell hq hs hA
  rcases hA with ⟨k, ee, hk⟩ | h
  · have h1 := hP k (q, ee) hk
    cases ee with
    | inl a =>
      have h2 : H[q]? = some (vp_cell a.1 a.2) := h1
      rw [hq] at h2
      rw [Option.some.inj h2, vp_cell_vm] at hs
      cases hs
    | inr o =>
      obtain ⟨r, h2, cell', h3, h4, h5, -⟩ := h1
      have h3' : H[q]? = some cell' := h3
      rw [hq] at h3'
      rw [Option.some.inj h3', h5] at hs
      cases hs
  · have := (Array.getElem?_eq_some_iff.mp hq).1
    omega
section VT
variable {p : Program} {l : Launch} {e : Env} {R : Room} {s : State} {m : MethodId} {args : Array Value} {below : List Frame} {meth : Method} {c : Code} {cc : ByteArray} {own nm : String} {ret : Option FieldType} {G : vv_G} {A : Nat → Prop} {nL : Nat} {Q : State → Prop} {pc kc ks : Nat} {lv : List (Nat × Value)} {rest : List Value} {ws : va_W}
/-- a walk's start, laid where the walk stands now -/
theorem vt_reb {T : State} {locs : List Loc} {R' : Room} (X : Stand p l e R s m args below meth c T locs kc ks) (h1 : R'.frames ≤ R.frames) (h2 : R'.locals ≤ R.locals) (h3 : kc + R'.cells ≤ R.cells) (h4 : ks + R'.slots ≤ R.slots) :
    Stand p l e R' ({ s with heap := T.heap, slotsUsed := T.slotsUsed } : State) m args below meth c T [] 0 0 := by
  have hF : ({ s with heap := T.heap, slotsUsed := T.slotsUsed } : State).frames = .invoking m args :: below := X.frames
  have hm : ({ s with heap := T.heap, slotsUsed := T.slotsUsed } : State).vm.method? m = some meth := X.method
  have hd : T.heap.toList.drop T.heap.size = [] := List.drop_eq_nil_of_le (by simp)
  have hroom : ({ s with heap := T.heap, slotsUsed := T.slotsUsed } : State).hasRoom e.platform R' = true := by
    have h := X.room
    have hb := X.book
    have hU : ({ s with heap := T.heap, slotsUsed := T.slotsUsed } : State).localsInUse = s.localsInUse := by
      rw [State.localsInUse_invoking hF hm X.code, State.localsInUse_invoking X.frames X.method X.code]
    have g1 : T.heap.size ≤ s.heap.size + kc := X.same.2.2.1
    have g2 : T.slotsUsed = s.slotsUsed + ((T.heap.toList.drop s.heap.size).map (·.slots.size)).sum := X.same.2.2.2.1
    have g3 : ((T.heap.toList.drop s.heap.size).map (·.slots.size)).sum ≤ ks := X.same.2.2.2.2.1
    unfold State.hasRoom at h ⊢
    rw [hU]
    simp only [Bool.and_eq_true, decide_eq_true_eq] at h ⊢
    obtain ⟨⟨⟨⟨a1, a2, a3, a4, a5, a6⟩, a7⟩, a8⟩, a9⟩ := h
    refine ⟨⟨⟨⟨by omega, Nat.le_trans (Nat.add_le_add_left h1 _) a2, Nat.le_trans (Nat.add_le_add_left h1 _) a3, by omega, Nat.le_trans (Nat.add_le_add_left h2 _) a5, a6⟩, by omega⟩, by omega⟩, hb⟩
  exact ⟨X.admits, X.cas, X.clock, hF, hroom, X.hears, hm, X.code, X.here, X.tail, X.warmed, X.limits, X.bytes,
    ⟨X.same.1, Nat.le_refl _, Nat.le_refl _, by show T.slotsUsed = T.slotsUsed + ((T.heap.toList.drop T.heap.size).map (·.slots.size)).sum; rw [hd]; rfl, by show ((T.heap.toList.drop T.heap.size).map (·.slots.size)).sum ≤ 0; rw [hd]; exact Nat.le_refl _, fun a c h => ⟨c, h, rfl, rfl, fun _ _ => rfl⟩⟩⟩
theorem vt_sbn {T U : State} {locs : List Loc} {k n k1 n1 : Nat} (h : s.sameButNew (T.setVm s.vm) locs k n) (h1 : ({ s with heap := T.heap, slotsUsed := T.slotsUsed } : State).sameButNew ({ U with vm := s.vm } : State) [] k1 n1) : s.sameButNew ({ U with vm := s.vm } : State) locs (k + k1) (n + n1) := by
  have h2 : (T.setVm s.vm).sameButNew ({ U with vm := s.vm } : State) [] k1 n1 := by
    refine ⟨?_, h1.2⟩
    have e1 : T.setVm s.vm = { s.setFrames T.frames with heap := T.heap, slotsUsed := T.slotsUsed } := h.1
    have e2 : ({ U with vm := s.vm } : State) = { ({ s with heap := T.heap, slotsUsed := T.slotsUsed } : State).setFrames U.frames with heap := U.heap, slotsUsed := U.slotsUsed } := h1.1
    rw [e1]
    refine e2.trans ?_
    show ({ s.setFrames U.frames with heap := U.heap, slotsUsed := U.slotsUsed } : State) = { (s.setFrames T.frames).setFrames U.frames with heap := U.heap, slotsUsed := U.slotsUsed }
    rw [State.setFrames_setFrames]
  have h3 := h.trans h2
  rwa [List.append_nil] at h3
theorem vt_cell {c1 c2 : Cell} (h1 : c1 = { c2 with slots := c1.slots }) (h2 : ∀ i : Nat, c1.slots[i]? = c2.slots[i]?) : c1 = c2 := by
  have h3 : c1.slots = c2.slots := Array.ext_getElem? h2
  rw [h1, h3]
/-- how a method that throws ends: warmer tables, old cells changed at L alone, at most k new cells of n slots -/
def vt_E (st : State) (o : Outcome) (t : State) (L : List Loc) (k n : Nat) : Prop := (∃ x, o = .threw x) ∧ st.WarmedH t.vm ∧ st.sameButNew ({ t with vm := st.vm } : State) L k n
def vt_MQ (below : List Frame) (Qc : Array Value → State → Outcome → State → Prop) (a : Array Value) (s : State) (mc ms : Nat) (free : Addr → Prop) : State → Prop := fun t =>
  ∃ o, t.status = .running ∧ Ended t below o ∧ Qc a s o t ∧ ∃ L, vt_E s o t L mc ms ∧ ∀ q ∈ L, free q.base
def vt_Met (l : Launch) (y : MethodName) (ws : List Cond) (rm : Room) (Pc : Array Value → State → Prop) (Qc : Array Value → State → Outcome → State → Prop) (mc ms : Nat) (free : Addr → Prop) : Prop :=
  MetFree l y (headSpec ws rm) Pc (fun _ _ _ _ _ => True) (fun a st o t => Qc a st o t ∧ ∃ L, vt_E st o t L mc ms ∧ ∀ q ∈ L, free q.base)
def vt_Q (G : vv_G) (A : Nat → Prop) (X : String) (post : va_W → Prop) : Array Value → State → Outcome → State → Prop := fun _ st oc t =>
  (∃ (x : Addr) (cell : Cell) (w1 : va_W), oc = .threw x ∧ t.heap[x]? = some cell ∧ cell.vm.isStatics = false ∧ st.vm.findClass X = some cell.cls ∧ post w1 ∧ va_P G.1 zC w1 t.heap ∧ va_D A w1) ∧ va_F A st t
/-- a method's contract: from these arguments and cells it throws an X, with cells of 'post' -/
def vt_C (l : Launch) (y : MethodName) (bytes : ByteArray) (maxL : Nat) (ret : Option FieldType) (rm : Room) (G : vv_G) (X : String) (av : List Value) (ws : va_W) (post : va_W → Prop) : Prop :=
  ∀ sz : Nat, vt_Met l y (Cond.code y bytes maxL ret :: zW) rm (va_Pc av (fun U => U.heap.size = sz ∧ va_P G.1 zC ws U.heap ∧ va_K G.1 zC (vv_t G) U ∧ va_D (fun _ => True) ws ∧ zE U ∧ xE U)) (vt_Q G (va_A ws sz) X post) rm.cells rm.slots (va_A ws sz)
def vt_R (below : List Frame) (args : Array Value) (s : State) (rm : Room) (G : vv_G) (A : Nat → Prop) (X : String) (post : va_W → Prop) : State → Prop :=
  vt_MQ below (vt_Q G A X post) args s rm.cells rm.slots A
theorem vt_met {y : MethodName} {maxL : Nat} {rm : Room} {av : List Value} {lv0 : List (Nat × Value)} {X : String} {post : va_W → Prop} (hy : plainFor y = true) (hl : (lg_sl av).length ≤ maxL) (hlv : lv_args 0 av = lv0)
    (body : ∀ (p : Program) (e : Env) (s : State) (m : MethodId) (args : Array Value) (below : List Frame) (meth : Method) (c : Code) (A : Nat → Prop), vv_F p s m args meth c cc y.cls y.name ret G A maxL → vt_F s A → c.exceptionTable.isEmpty = true → vv_V p l e rm s m args below meth c G A maxL (vt_R below args s rm G A X post) 0 lv0 [] ws 0 0) : vt_C l y cc maxL ret rm G X av ws post := by
  intro sz
  refine MetFree.of_bodySF (code := cc) (maxLocals := maxL) (ret := ret) hy ?_ ?_
  · intro args s m h hn
    obtain ⟨meth, c, h1, h2, h3, h4, h5, h6, -, -⟩ := Cond.code_spec hn (atoms_spec (ws := Cond.code y cc maxL ret :: zW) h _ List.mem_cons_self)
    exact ⟨meth, c, h1, h2, h3, h4, h5, h6⟩
  · intro p e s m args below meth c s₁ B hml hv _
    have hh0 : s₁.heap = s.heap := by rw [B.state]; rfl
    obtain ⟨rfl, hsz, hP, hK, hD0, hE, hX⟩ := hv
    subst hsz
    have hts := atoms_spec (ws := Cond.code y cc maxL ret :: zW) B.pre
    have hD := hD0.self (sz := s.heap.size)
    have he := lv_entry av (n := maxL) hl
    rw [hlv] at he
    have hW := body p e s m _ below meth c (va_A ws s.heap.size) ⟨⟨B.exec, B.bytes, hml, findClass_of_methodNamed B.named, fun w hw => hts w (List.mem_cons_of_mem _ hw)⟩, hK, fun q h => Or.inr h, B.notSynchronized, B.returns, (name_of_methodNamed B.named B.method).1, hE⟩ ⟨hX, vt_ap hP⟩ (B.noHandlers (hts _ List.mem_cons_self)) s.heap [] _ hP hD va_S.rf he
    rw [← lg_entry_eq] at hW
    obtain ⟨t, a1, o, b1, b2, b3⟩ := hW s₁ hh0 (Stand.of_body B)
    exact ⟨t, o, a1, b1, b2, ⟨b3.1, b3.2⟩⟩
/-- new X(text), thrown -/
theorem vt_throw {X tx : String} {ix k ic : Nat} {post : va_W → Prop} (F : vv_F p s m args meth c cc own nm ret G A nL) (E : vt_F s A) (hx0 : c.exceptionTable.isEmpty = true) (htr : l.stackTraces = false)
    (d0 : decode cc pc = .ok (.new ix, 3)) (d1 : decode cc (pc + 3) = .ok (.dup, 1)) (d2 : decode cc (pc + 4) = .ok (.ldc k, 2)) (d3 : decode cc (pc + 6) = .ok (.invokespecial ic, 3)) (d4 : decode cc (pc + 9) = .ok (.athrow, 1))
    (hc : Cond.classLink own ix X ∈ zW) (hi : Cond.initialized X ∈ zW) (hs : Cond.stringRef own k tx ∈ zS) (hw : ∀ a ∈ Bundle.ownAtoms own ic X xUp, xOk a) (hfit : Bundle.fit X = true)
    (hk : kc + 1 ≤ R.cells ∧ ks + 6 ≤ R.slots) (hfr : 5 < R.frames ∧ 83 ≤ R.locals) (hp : post ws) : vv_V p l e R s m args below meth c G A nL (vt_R below args s R G A X post) pc lv [] ws kc ks := by
  intro H locs ls hP hD hS hl2 T hT XS
  have X0 := vt_reb (R' := { frames := R.frames, cells := 1, slots := 6, locals := R.locals }) XS (Nat.le_refl _) (Nat.le_refl _) hk.1 hk.2
  have hW0 : s.WarmedH ({ s with heap := T.heap, slotsUsed := T.slotsUsed } : State).vm := State.WarmedH.refl _
  have hww : ∀ a ∈ zW, a.before args ({ s with heap := T.heap, slotsUsed := T.slotsUsed } : State) = true := fun a h => word_at hW0 (zW_good _ h) (F.1.2.2.2.2 _ h)
  have hXE : xE ({ s with heap := T.heap, slotsUsed := T.slotsUsed } : State) := E.at hS hT hW0
  have hat : ∀ a ∈ Bundle.ownAtoms own ic X xUp, a.before args ({ s with heap := T.heap, slotsUsed := T.slotsUsed } : State) = true := by
    intro a ha
    rcases hw a ha with h | h | h
    · exact hww a h
    · exact va_Nw.use (zX_onT h) (zE_same (u := s) (U := { s with heap := T.heap, slotsUsed := T.slotsUsed }) rfl F.2.2.2.2.2.2 a h)
    · exact hXE.use args a h
  have hst : (Cond.stringRef own k tx).before args ({ s with heap := T.heap, slotsUsed := T.slotsUsed } : State) = true := (hXE.2.2.1 _ _ _ hs).elim fun _ h => str_any h.1
  have htr' : e.platform.stackTraces = false := by rw [XS.admits.platform]; exact htr
  have hown : ({ s with heap := T.heap, slotsUsed := T.slotsUsed } : State).vm.findClass own = some m.cls := F.1.2.2.2.1
  obtain ⟨vm₁, cX, kX, hfX, hkX, -, -, X₁, st1⟩ := X0.newCold F.1.1 (own := own) (C := X) (index := ix) (n := 6) hown (hww _ hc) (hat (.instantiable X 6) (by simp [Bundle.ownAtoms])) (hww _ hi) (g := F0 m pc ls []) rfl (by rw [F.1.2.1]; exact d0) (Nat.le_refl _) (Nat.le_refl _)
  generalize hT1 : (T.setVm vm₁).pushCell { cls := cX, slots := kX.instanceTypes.map defaultValue, vm := .none } = T1 at X₁ st1
  have hcellA : T1.heap[T.heap.size]? = some (freshCell cX kX) := by rw [← hT1]; exact State.heap_pushCell_size _ _
  obtain ⟨-, -, -, sa, -, -, -, -, -, hev⟩ := Cond.stringRef_spec hown hst
  obtain ⟨U, hsteps, hrun, hend, hW, hsame, ce, hce, K⟩ := X₁.ctorThrowS F.1.1 htr' (own := own) (cls := X) (names := xUp) (ic := ic) hown hfit (by decide +kernel) hat (fun y hy => by cases hy) hfX hkX hcellA (Nat.le_refl _) (msg := .ref sa) rfl
    (g := F0 m (pc + 6) ls [.ref sa, .ref T.heap.size, .ref T.heap.size]) rfl (hl2.1.trans F.1.2.2.1.symm) rfl rfl (rest := []) rfl (by rw [F.1.2.1]; exact d3) (by rw [F.1.2.1]; exact d4) (covers_of_empty hx0 _) hfr.1 (by show 2 * 0 + 1 + 81 ≤ _; exact Nat.le_trans (by decide) hfr.2) (hlocks := F.2.2.2.1)
  have hkeep : ∀ q : Nat, q < H.size → U.heap[q]? = H[q]? := by
    intro q hq
    have hq' : q < T.heap.size := by rw [hT]; exact hq
    obtain ⟨c', e1, e2, e3, e4⟩ := hsame.2.2.2.2.2 q T.heap[q] (Array.getElem?_eq_getElem hq')
    have e5 : U.heap[q]? = some c' := e1
    rw [e5, vt_cell e2 (fun i => e4 i (by simp)), ← hT]
    exact (Array.getElem?_eq_getElem hq').symm
  have hsz : H.size ≤ U.heap.size := by rw [← hT]; exact hsame.2.1
  refine ⟨U, st1 _ ?_, .threw T.heap.size, hrun, hend, ⟨⟨T.heap.size, ce, ws, rfl, hce, by rw [K.vm]; rfl, K.cls, hp, fun k q hq => (hP k q hq).kept (hkeep q.1 (hP k q hq).lt), hD⟩, Nat.le_trans hS.1 hsz, fun q h1 h2 => by rw [hkeep q (Nat.lt_of_lt_of_le h1 hS.1)]; exact hS.2.1 q h1 h2⟩, locs, ⟨⟨_, rfl⟩, hW, (vt_sbn XS.same hsame).mono (by simpa using hk.1) (by simpa using hk.2)⟩, hS.2.2⟩
  show Steps p.tables e below (T1.setTop (F0 m (pc + 3) ls [.ref T.heap.size])) _
  jvm_step X₁.here [X₁.here.top, F.1.1, F.1.2.1, d1, Value.category]
  exact X₁.ldcString F.1.1 (own := own) (text := tx) (index := k) (a := sa) hown hst hev (g := F0 m (pc + 4) ls [.ref T.heap.size, .ref T.heap.size]) rfl (by rw [F.1.2.1]; exact d2) _ hsteps
end VT
