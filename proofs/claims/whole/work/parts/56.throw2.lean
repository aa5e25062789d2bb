/-! a call that throws: it goes on out, or is caught; methods with a table of handlers -/
/-- one entry of the table that covers the pc: its type, noted in the tables, takes the object or not -/
theorem xgo {Q : Handler → Pre} {E : CtlPost} {e : Env} {d : Bool} {acts : List Action} {s : State} {f : JFrame} {a : Addr} {x : ExceptionTableEntry} {t : List ExceptionTableEntry} {c : ClassId} {cell : Cell} (hx : covers x f.pc = true) (h0 : x.catchType ≠ 0)
    (hl : s.vm.ClassLinks e.platform f.method.cls x.catchType c) (hcell : s.heap[a]? = some cell) (hobj : ∀ k, cell.vm ≠ .statics k)
    (hk : ∃ k, s.vm.classes[cell.cls]? = some k) (hc : ∃ k, s.vm.classes[c]? = some k) :
    wp (findHandler.go f a (x :: t)) Q E e d acts s ↔ (if s.vm.assignable cell.cls c = true then Q (.found x.handlerPc) d acts (s.setVm (s.vm.noted f.method.cls x.catchType (.cls c))) else wp (findHandler.go f a t) Q E e d acts (s.setVm (s.vm.noted f.method.cls x.catchType (.cls c)))) := by
  have hal : s.vm.Alike (s.vm.noted f.method.cls x.catchType (.cls c)) := (Vm.Alike.refl s.vm).noted _ _ _
  obtain ⟨r1, r2⟩ := (resolveClass_links e.toSetting hl).op (op := VmOp.resolveClass f.method.cls x.catchType) rfl
  obtain ⟨u1, hu1⟩ := hk
  obtain ⟨u2, hu2⟩ := hc
  obtain ⟨v1, hv1, -⟩ := hal.2.2 _ _ hu1
  obtain ⟨v2, hv2, -⟩ := hal.2.2 _ _ hu2
  simp only [covers] at hx
  have hq := hal.assignable cell.cls c
  cases hf : s.vm.assignable cell.cls c <;> rw [hf] at hq <;> simp [findHandler.go, hx, h0, r1, r2, hcell, hobj, hv1, hv2, hq, VmOp.dirties, VmOp.acts]
/-- from the note of a throw to the handler, with the tables that the search leaves -/
theorem xcaught {tb : Tables} {e : Env} {s target : State} {g : JFrame} {c : Code} {below : List Frame} {a : Addr} {pc : Nat} {vm' : Vm} (h : At s g.method c below)
    (hfind : ∀ (Q : Handler → Pre) (E : CtlPost) (d : Bool) (acts : List Action), wp (findHandler g a) Q E e d acts ((s.setTop g).pushFrame (.throwing a)) ↔ Q (.found pc) d acts (((s.setTop g).pushFrame (.throwing a)).setVm vm'))
    (hrest : Steps tb e below ((s.setVm vm').setTop { g with pc := pc, stack := [.ref a] }) target) : Steps tb e below ((s.setTop g).pushFrame (.throwing a)) target := by
  obtain ⟨g₀, hg⟩ := Option.isSome_iff_exists.mp h.top
  obtain ⟨r, hr⟩ := State.topJava?_eq_some.mp hg
  have h1 : (stepThrowing e ((s.setTop g).pushFrame (.throwing a)) a (.java g :: r)).Is ((((s.setTop g).pushFrame (.throwing a)).setVm vm').setFrames (.java { g with pc := pc, stack := [.ref a] } :: r)) [] := by
    simp only [stepThrowing, searchFrame, vmDo]
    generalize hres : Sem.go _ e false [] _ = res
    obtain ⟨as, rfl, ha⟩ := Sem.eq_ok_of hres (a := Handler.found pc) (s' := ((s.setTop g).pushFrame (.throwing a)).setVm vm') (acts' := []) (by simp [hfind _ _ _ _])
    exact ⟨rfl, ha⟩
  have h2 : (((s.setTop g).pushFrame (.throwing a)).setVm vm').setFrames (.java { g with pc := pc, stack := [.ref a] } :: r) = (s.setVm vm').setTop { g with pc := pc, stack := [.ref a] } := by
    rw [State.setTop_of_frames (s := s.setVm vm') _ (show (s.setVm vm').frames = .java g₀ :: r from hr), State.pushFrame, State.setTop_of_frames _ hr, State.setFrames_setFrames]
    show ((s.setVm vm').setFrames _).setFrames _ = _
    rw [State.setFrames_setFrames]
  obtain ⟨hgo, hw⟩ := h.throwing a
  refine Steps.head hgo hw ?_
  rw [stepThread_throwing (frames_entered h.top _), hr, List.tail_cons, h1.1, h2]
  exact hrest
section VTX
variable {p : Program} {l : Launch} {e : Env} {R : Room} {s : State} {m : MethodId} {args : Array Value} {below : List Frame} {meth : Method} {c : Code} {own : String} {kc ks : Nat}
/-- the first handler's type is the exception's -/
theorem vt_caught1 {T : State} {locs : List Loc} (X : Stand p l e R s m args below meth c T locs kc ks) (a : Addr) {g : JFrame} (hg : g.method = m) {N : String} (hown : s.vm.findClass own = some m.cls)
    {x : ExceptionTableEntry} {tl : List ExceptionTableEntry} (hsplit : c.exceptionTable.toList = x :: tl) (hx : covers x g.pc = true) (h0 : x.catchType ≠ 0)
    (hlinkN : (Cond.classLink own x.catchType N).before args s = true) {cN : ClassId} {cell : Cell} (hcN : s.vm.findClass N = some cN) (hcell : T.heap[a]? = some cell) (hobj : cell.vm.isStatics = false) (hfit : s.vm.assignable cell.cls cN = true) :
    ∃ vm', Stand p l e R s m args below meth c (T.setVm vm') locs kc ks ∧
      ∀ target, Steps p.tables e below ((T.setVm vm').setTop { g with pc := x.handlerPc, stack := [.ref a] }) target → Steps p.tables e below ((T.setTop g).pushFrame (.throwing a)) target := by
  have hpl : e.platform.magicAccessors = ({} : Platform).magicAccessors := by rw [X.admits.platform]
  obtain ⟨cN', hcN', hclN⟩ := Cond.classLink_spec hown hlinkN e.platform hpl
  cases hcN.symm.trans hcN'
  obtain ⟨dn, _, _, kN, hdN, _, _, _, _, hkN, _, hopenN⟩ := hclN.here
  have hclN₀ := X.warmed.classLinks hclN
  have hW1 : s.WarmedH (T.vm.noted m.cls x.catchType (.cls cN)) := X.warmed.noted hdN hopenN (State.rightAt_cls hclN)
  have hal := X.warmed.alike
  obtain ⟨kN', hkN', -⟩ := hal.2.2 _ _ hkN
  have hfit0 : T.vm.assignable cell.cls cN = true := by rw [hal.assignable]; exact hfit
  refine ⟨_, X.noted hW1, fun target hrest => ?_⟩
  subst hg
  refine xcaught X.here ?_ hrest
  intro Q E d acts
  rw [Jvm.W.findHandler_eq (s := (T.setTop g).pushFrame (.throwing a)) (meth := meth) (code := c) X.method' X.code, hsplit]
  rw [xgo (s := (T.setTop g).pushFrame (.throwing a)) hx h0 (c := cN) (cell := cell) hclN₀ hcell (VmData.ne_statics_of hobj) (Vm.classAt_of_assignable hfit0 ⟨kN', hkN'⟩) ⟨kN', hkN'⟩, Stand.throwing_vm, if_pos hfit0]
end VTX
section VTC
variable {p : Program} {l : Launch} {e : Env} {R : Room} {s : State} {m : MethodId} {args : Array Value} {below : List Frame} {meth : Method} {c : Code} {cc : ByteArray} {own nm : String} {ret : Option FieldType} {G : vv_G} {A : Nat → Prop} {nL : Nat} {Q : State → Prop} {pc kc ks : Nat} {lv : List (Nat × Value)} {rest : List Value} {ws : va_W}
/-- a call that throws: where the caller stands -/
theorem vt_runV {y : MethodName} {bytes : ByteArray} {maxL mc ms n index : Nat} {r2 : Option FieldType} {wl : List Cond} {rm : Room} {Pc : Array Value → State → Prop} {Qc : Array Value → State → Outcome → State → Prop} {free : Addr → Prop} {Ts : List Cond} {C : String} {b : Addr} {As : List Value} {g : JFrame} {H : Heap} {locs : List Loc}
    (S : CallFix p m c cc nL s args Ts own) (hM : vt_Met l y wl rm Pc Qc mc ms free) (cw : CallW R s args own C index y bytes maxL r2 wl rm mc ms n) (hp : PreV s H C b Pc As)
    (hg : g.method = m) (hn : As.length = n) (hsize : g.locals.size = nL) (hstack : g.stack = As.reverse ++ .ref b :: rest) (hW : 2 * g.monitorRoom + (rest.map fun v => v.category).sum ≤ 8) (hdg : decode cc g.pc = .ok (.invokevirtual index, 3)) (hf : kc + mc ≤ R.cells ∧ ks + ms ≤ R.slots) :
    ∀ T : State, T.heap = H → Stand p l e R s m args below meth c T locs kc ks → ∃ (x : Addr) (st₀ t T' : State) (L : List Loc), st₀.heap = H ∧ s.WarmedH st₀.vm ∧ Stand p l e R s m args below meth c T' (locs ++ L) (kc + mc) (ks + ms) ∧ (∀ q ∈ L, free q.base) ∧ T'.heap = t.heap ∧ Qc (Value.ref b :: As).toArray st₀ (.threw x) t ∧
      Steps p.tables e below (T.setTop g) ((T'.setTop { g with stack := rest }).pushFrame (.throwing x)) := by
  obtain ⟨⟨hrc, hrs, hfr, hlo, hws, hcin, hcode, hini, hy, hlen, hl⟩, hin, hse⟩ := cw
  obtain ⟨hx, hb, hml, ho, -⟩ := S
  obtain ⟨hbl, ⟨cellB, hcB, hoB, hclB⟩, hPc⟩ := hp
  intro T hT X
  obtain ⟨mk, methM, hnamed, hmethM, hstM, habM⟩ := Cond.instanceMethod_spec hin
  obtain ⟨methM', cM, hmethM', hcM, -, hlM, -, -, -, hsigM⟩ := Cond.code_spec hnamed hcode
  cases hmethM.symm.trans hmethM'
  obtain ⟨c2, r2', m2, q1, q2, q3, q4, kP, hkP, hkPi⟩ := Cond.selects_spec hse
  cases hclB.symm.trans q1
  cases (State.methodFound?_of_named hnamed hy).symm.trans q2
  cases hnamed.symm.trans q3
  have hselP : selectMethod e.platform s.vm cellB.cls mk = .method mk := by rw [Launch.admits_selectMethod X.admits]; exact q4
  obtain ⟨vm₁, X₁, hstep₁⟩ := X.invokevirtual hx ho hl hnamed hmethM hstM hkP hkPi hy (a := b) (cell := cellB) (by rw [hT]; exact hcB)
    (fun z h => by rw [h] at hoB; cases hoB) hselP hmethM habM hkP hkPi (g := g) hg (argsL := As) (rest := rest) (hn.trans (hlen _ hsigM)) hstack (by rw [hb]; exact hdg)
  subst hg
  have hal := X₁.warmed.alike
  have hn1 := X₁.named hnamed
  obtain ⟨kY, hkY, -⟩ := className_of_methodNamed hn1
  have hinitY : kY.init = .initialized := Cond.initialized_spec (findClass_of_methodNamed hn1) hkY (word_at (a' := (Value.ref b :: As).toArray) (U := T.setVm vm₁) X₁.warmed (Or.inl (by first | rfl | simp [Cond.onTables, Cond.keeps, Cond.steady])) hini)
  have hdg' : decode c.code ({ g with stack := rest } : JFrame).pc = .ok (.invokevirtual index, 3) := by rw [hb]; exact hdg
  have hmY : (T.setVm vm₁).vm.method? mk = some methM := by rw [hal.method?]; exact hmethM
  have happ : (headSpec wl rm).appliesLoose y e.platform ((T.setVm vm₁).calling { g with stack := rest } mk (Value.ref b :: As).toArray) = true :=
    Spec.appliesLoose_calling (g := { g with stack := rest }) X₁.here hdg' hn1 hkY hinitY
      (X₁.room_calling (g := { g with stack := rest }) (R' := rm) (hsize.trans hml.symm) hmY hcM hfr (by rw [hlM]; have hW' : 2 * ({ g with stack := rest } : JFrame).monitorRoom + (({ g with stack := rest } : JFrame).stack.map fun v => v.category).sum ≤ 8 := hW; omega) (by rw [hrc]; exact hf.1) (by rw [hrs]; exact hf.2)) (atoms_intro fun w hw => hws w hw _ _ X₁.warmed)
  have hfrm : ((T.setVm vm₁).setTop { g with stack := rest }).frames = .java { g with stack := rest } :: below := by
    rw [State.frames_setTop' _ X₁.here.top, X₁.tail]
  obtain ⟨o, t, hsteps, -, hend, hq, L, ⟨⟨x, rfl⟩, hWt, hsame⟩, hL⟩ := Steps.callFree hM p X₁.admits X₁.cas X₁.clock (acts := []) (mid := [.java { g with stack := rest }]) hfrm happ (hbl _ _ { g with stack := rest } mk (hPc (T.setVm vm₁) hT X₁.warmed)) trivial
  rw [hfrm] at hend
  obtain ⟨T', X', -, -, ht⟩ := X₁.outOfThrown (g := { g with stack := rest }) rfl hend hWt hsame
  refine ⟨x, (T.setVm vm₁).calling { g with stack := rest } mk (Value.ref b :: As).toArray, t, T', L, hT, X₁.warmed, X', hL, ?_, hq, hstep₁ _ fun acts => ?_⟩
  · rw [ht, Stand.throwing_heap]
  · rw [doInvoke_state, ← ht]
    exact hsteps
theorem vt_pre {H : Heap} {locs : List Loc} {av : List Value} {wc : va_W} (F : vv_F p s m args meth c cc own nm ret G A nL) (E : vt_F s A) (hS : va_S A s.heap H locs) (hP : va_P G.1 zC wc H) (hD : va_D A wc) : (FrameBlind (va_Pc av (fun U => U.heap.size = H.size ∧ va_P G.1 zC wc U.heap ∧ va_K G.1 zC (vv_t G) U ∧ va_D (fun _ => True) wc ∧ zE U ∧ xE U))) ∧ ∀ U : State, U.heap = H → s.WarmedH U.vm → (va_Pc av (fun U => U.heap.size = H.size ∧ va_P G.1 zC wc U.heap ∧ va_K G.1 zC (vv_t G) U ∧ va_D (fun _ => True) wc ∧ zE U ∧ xE U)) av.toArray U :=
  ⟨fun a U g mk q => by
    obtain ⟨q0, q1, qP, qK, qD, qE, qX⟩ := q
    exact ⟨q0, q1, qP, va_K.moved (u := U) (U := U.calling g mk a) (Vm.Alike.refl U.vm) qK, qD, zE_same (u := U) rfl qE, xE_same (u := U) rfl rfl qX⟩,
   fun U hU hW => ⟨rfl, by rw [hU], by rw [hU]; exact hP, va_K.moved hW.alike F.2.1, hD.weaken (fun _ _ _ _ => trivial), zE_warm hW F.2.2.2.2.2.2, E.at hS hU hW⟩⟩
section VTD
variable {y : MethodName} {bytes : ByteArray} {maxL index n b ci N q0 : Nat} {r2 : Option FieldType} {rm : Room} {As st : List Value} {wc wr : va_W} {postC post : va_W → Prop} {C X : String} {T : u_T} {fs : List Value}
/-- what a call that throws gives its caller -/
theorem vt_after (F : vv_F p s m args meth c cc own nm ret G A nL) (E : vt_F s A) (hM : vt_C l y bytes maxL r2 rm G X (.ref b :: As) wc postC) (hm : vv_M y bytes maxL r2 n) (hi : Cond.instanceMethod y ∈ zW ∧ Cond.selects C y y ∈ zW) (hl : Cond.methodLink own index y ∈ zW) (d : decode cc pc = .ok (.invokevirtual index, 3)) (hrm : rm.frames + 1 ≤ R.frames ∧ 8 + (maxL + 11) + rm.locals ≤ R.locals) (hk : kc + rm.cells ≤ R.cells ∧ ks + rm.slots ≤ R.slots) (isC isR : List Nat) (hC : isC.map (fun i => ws[i]?) = wc.map some) (hR : isR.map (fun i => ws[i]?) = wr.map some) (hn : va_nd isC = true ∧ va_nd isR = true ∧ (∀ i ∈ isR, i ∉ isC)) (hq : ws[q0]? = some (b, .inr (ci, fs))) (hc : zC[ci]? = some (C, T, N)) (hn2 : As.length = n) (hst : st = As.reverse ++ .ref b :: rest) (hcat : (rest.map fun v => v.category).sum ≤ 8)
    {H : Heap} {locs : List Loc} {ls : Array Slot} (hP : va_P G.1 zC ws H) (hD : va_D A ws) (hS : va_S A s.heap H locs) (hl2 : lv_has ls nL lv) (U : State) (hU : U.heap = H) (XS : Stand p l e R s m args below meth c U locs kc ks) :
    ∃ (x : Addr) (cell : Cell) (w1 : va_W) (T' : State) (L : List Loc), Stand p l e R s m args below meth c T' (locs ++ L) (kc + rm.cells) (ks + rm.slots) ∧ T'.heap[x]? = some cell ∧ cell.vm.isStatics = false ∧ s.vm.findClass X = some cell.cls ∧ postC w1 ∧ va_P G.1 zC (wr ++ w1) T'.heap ∧ va_D A (wr ++ w1) ∧ va_S A s.heap T'.heap (locs ++ L) ∧
      Steps p.tables e below (U.setTop (F0 m pc ls st)) ((T'.setTop (F0 m pc ls rest)).pushFrame (.throwing x)) := by
  subst hst
  have hPc := hP.sub isC (vv_fm hC)
  have hDc := hD.sub isC hn.1 hC
  have hFc := va_free hD hS F.2.2.1 isC hC
  obtain ⟨x, st₀, t, T', L, h0, hW0, X', hL, e1, ⟨⟨x', cell, w1, hv, hcell, hns, hcls, hp, hP1, hD1⟩, hz, hk1⟩, hsteps⟩ := vt_runV (As := As) (rest := rest) F.1 (hM H.size) ⟨vv_cb F hm hl hrm, F.1.2.2.2.2 _ hi.1, F.1.2.2.2.2 _ hi.2⟩ ⟨(vt_pre F E hS hPc hDc).1, va_recv F.2.1 hP hc hq, (vt_pre F E hS hPc hDc).2⟩ (g := F0 m pc ls (As.reverse ++ .ref b :: rest)) rfl hn2 hl2.1 rfl (lv_room hcat) d hk U hU XS
  cases hv
  rw [h0] at hz hk1
  obtain ⟨hPj, hDj⟩ := va_join hP hD isC isR hC hR hn.2.1 hn.2.2 hk1 hFc hP1 hD1
  refine ⟨x, cell, w1, T', L, X', by rw [e1]; exact hcell, hns, by rw [hW0.alike.findClass] at hcls; exact hcls, hp, by rw [e1]; exact hPj, hDj, ⟨Nat.le_trans hS.1 (by rw [e1]; exact hz), fun q h1 h2 => by rw [e1, hk1 q (Nat.lt_of_lt_of_le h1 hS.1) (fun z => h2 (hFc q z))]; exact hS.2.1 q h1 h2, fun q hq => by
      rcases List.mem_append.mp hq with h | h
      · exact hS.2.2 q h
      · exact hFc _ (hL q h)⟩, hsteps⟩
/-- .. and it isn't caught here -/
theorem vt_prop (F : vv_F p s m args meth c cc own nm ret G A nL) (E : vt_F s A) (hx0 : c.exceptionTable.isEmpty = true) (hM : vt_C l y bytes maxL r2 rm G X (.ref b :: As) wc postC) (hm : vv_M y bytes maxL r2 n) (hi : Cond.instanceMethod y ∈ zW ∧ Cond.selects C y y ∈ zW) (hl : Cond.methodLink own index y ∈ zW) (d : decode cc pc = .ok (.invokevirtual index, 3)) (hrm : rm.frames + 1 ≤ R.frames ∧ 8 + (maxL + 11) + rm.locals ≤ R.locals) (hk : kc + rm.cells ≤ R.cells ∧ ks + rm.slots ≤ R.slots) (isC isR : List Nat) (hC : isC.map (fun i => ws[i]?) = wc.map some) (hR : isR.map (fun i => ws[i]?) = wr.map some) (hn : va_nd isC = true ∧ va_nd isR = true ∧ (∀ i ∈ isR, i ∉ isC)) (hq : ws[q0]? = some (b, .inr (ci, fs))) (hc : zC[ci]? = some (C, T, N)) (hn2 : As.length = n) (hst : st = As.reverse ++ .ref b :: rest) (hcat : (rest.map fun v => v.category).sum ≤ 8)
    (js : List Nat) (hnj : va_nd js = true) (hpost : ∀ w1, postC w1 → ∃ w', js.map (fun i => (wr ++ w1)[i]?) = w'.map some ∧ post w') : vv_V p l e R s m args below meth c G A nL (vt_R below args s R G A X post) pc lv st ws kc ks := by
  intro H locs ls hP hD hS hl2 U hU XS
  obtain ⟨x, cell, w1, T', L, X', hcell, hns, hcls, hp, hPj, hDj, hSj, hsteps⟩ := vt_after F E hM hm hi hl d hrm hk isC isR hC hR hn hq hc hn2 hst hcat hP hD hS hl2 U hU XS
  obtain ⟨w', hj, hp'⟩ := hpost w1 hp
  obtain ⟨hw1, hrun, hend, hWU, hsame⟩ := X'.leaveThrown x (g := F0 m pc ls rest) rfl rfl rfl (covers_of_empty hx0 _) (hlocks := F.2.2.2.1)
  exact ⟨_, hsteps.trans hw1, .threw x, hrun, hend, ⟨⟨x, cell, w', rfl, hcell, hns, hcls, hp', hPj.sub js (vv_fm hj), hDj.sub js hnj hj⟩, hSj.F rfl⟩, locs ++ L, ⟨⟨_, rfl⟩, hWU, hsame.mono hk.1 hk.2⟩, hSj.2.2⟩
/-- .. and the first handler takes it -/
theorem vt_catch {s0 e0 hd ct : Nat} {more : List (Nat × Nat × Nat × Nat)} (F : vv_F p s m args meth c cc own nm ret G A nL) (E : vt_F s A) (htab : c.exceptionTable.toList.map (fun h => (h.startPc, h.endPc, h.handlerPc, h.catchType)) = (s0, e0, hd, ct) :: more) (hcov : s0 ≤ pc ∧ pc < e0) (hct : ct ≠ 0) (hlk : Cond.classLink own ct X ∈ zW) (hcx : Cond.castable X X ∈ zX) (hM : vt_C l y bytes maxL r2 rm G X (.ref b :: As) wc postC) (hm : vv_M y bytes maxL r2 n) (hi : Cond.instanceMethod y ∈ zW ∧ Cond.selects C y y ∈ zW) (hl : Cond.methodLink own index y ∈ zW) (d : decode cc pc = .ok (.invokevirtual index, 3)) (hrm : rm.frames + 1 ≤ R.frames ∧ 8 + (maxL + 11) + rm.locals ≤ R.locals) (hk : kc + rm.cells ≤ R.cells ∧ ks + rm.slots ≤ R.slots) (isC isR : List Nat) (hC : isC.map (fun i => ws[i]?) = wc.map some) (hR : isR.map (fun i => ws[i]?) = wr.map some) (hn : va_nd isC = true ∧ va_nd isR = true ∧ (∀ i ∈ isR, i ∉ isC)) (hq : ws[q0]? = some (b, .inr (ci, fs))) (hc : zC[ci]? = some (C, T, N)) (hn2 : As.length = n) (hst : st = As.reverse ++ .ref b :: rest) (hcat : (rest.map fun v => v.category).sum ≤ 8)
    (k : ∀ (x : Nat) (w1 : va_W), postC w1 → vv_V p l e R s m args below meth c G A nL Q hd lv [.ref x] (wr ++ w1) (kc + rm.cells) (ks + rm.slots)) : vv_V p l e R s m args below meth c G A nL Q pc lv st ws kc ks := by
  intro H locs ls hP hD hS hl2 U hU XS
  obtain ⟨x, cell, w1, T', L, X', hcell, hns, hcls, hp, hPj, hDj, hSj, hsteps⟩ := vt_after F E hM hm hi hl d hrm hk isC isR hC hR hn hq hc hn2 hst hcat hP hD hS hl2 U hU XS
  obtain ⟨en, tl, htl, h1, h2⟩ := List.map_eq_cons_iff.mp htab
  simp only [Prod.mk.injEq] at h1
  obtain ⟨c3, c4, hc3, hc4, hasg⟩ := Cond.castable_spec (va_Nw.use (A := args) (zX_onT hcx) (F.2.2.2.2.2.2 _ hcx))
  cases hc3.symm.trans hcls
  cases hc4.symm.trans hcls
  obtain ⟨vm', XV, stV⟩ := vt_caught1 X' x (g := F0 m pc ls rest) rfl F.1.2.2.2.1 htl (by simp [covers, h1.1, h1.2.1, hcov.1, hcov.2]) (by rw [h1.2.2.2]; exact hct) (N := X) (by rw [h1.2.2.2]; exact F.1.2.2.2.2 _ hlk) hcls hcell hns hasg
  obtain ⟨t, a1, b1⟩ := k x w1 hp T'.heap (locs ++ L) ls hPj hDj hSj hl2 (T'.setVm vm') rfl XV
  exact ⟨t, hsteps.trans (stV t (by rw [h1.2.2.1]; exact a1)), b1⟩
end VTD
end VTC
