/-! the second handler takes it; methods with a table of handlers: their contracts, and calls of them -/
section VWC
variable {p : Program} {l : Launch} {e : Env} {R : Room} {s : State} {m : MethodId} {args : Array Value} {below : List Frame} {meth : Method} {c : Code} {cc : ByteArray} {own nm : String} {ret : Option FieldType} {G : vv_G} {A : Nat → Prop} {nL : Nat} {Q : State → Prop} {pc kc ks : Nat} {lv : List (Nat × Value)} {rest : List Value} {ws : va_W}
/-- the first handler's class isn't the exception's, the second's is -/
theorem vt_caught2 {T : State} {locs : List Loc} (X : Stand p l e R s m args below meth c T locs kc ks) (a : Addr) {g : JFrame} (hg : g.method = m) {D N : String} (hown : s.vm.findClass own = some m.cls)
    {x y : ExceptionTableEntry} {tl : List ExceptionTableEntry} (hsplit : c.exceptionTable.toList = x :: y :: tl) (hx : covers x g.pc = true) (h0 : x.catchType ≠ 0) (hy : covers y g.pc = true) (h1 : y.catchType ≠ 0)
    (hlinkD : (Cond.classLink own x.catchType D).before args s = true) (hlinkN : (Cond.classLink own y.catchType N).before args s = true) {cD cN : ClassId} {cell : Cell} (hcD : s.vm.findClass D = some cD) (hcN : s.vm.findClass N = some cN) (hcell : T.heap[a]? = some cell) (hobj : cell.vm.isStatics = false) (hno : s.vm.assignable cell.cls cD = false) (hfit : s.vm.assignable cell.cls cN = true) :
    ∃ vm', Stand p l e R s m args below meth c (T.setVm vm') locs kc ks ∧
      ∀ target, Steps p.tables e below ((T.setVm vm').setTop { g with pc := y.handlerPc, stack := [.ref a] }) target → Steps p.tables e below ((T.setTop g).pushFrame (.throwing a)) target := by
  have hpl : e.platform.magicAccessors = ({} : Platform).magicAccessors := by rw [X.admits.platform]
  obtain ⟨cD', hcD', hclD⟩ := Cond.classLink_spec hown hlinkD e.platform hpl
  cases hcD.symm.trans hcD'
  obtain ⟨cN', hcN', hclN⟩ := Cond.classLink_spec hown hlinkN e.platform hpl
  cases hcN.symm.trans hcN'
  obtain ⟨dk, _, _, kD, hdD, _, _, _, _, hkD, _, hopenD⟩ := hclD.here
  obtain ⟨dn, _, _, kN, hdN, _, _, _, _, hkN, _, hopenN⟩ := hclN.here
  have hclD₀ := X.warmed.classLinks hclD
  have hW1 : s.WarmedH (T.vm.noted m.cls x.catchType (.cls cD)) := X.warmed.noted hdD hopenD (State.rightAt_cls hclD)
  have X1 := X.noted hW1
  have hclN₀ := X1.warmed.classLinks hclN
  have hW2 : s.WarmedH ((T.vm.noted m.cls x.catchType (.cls cD)).noted m.cls y.catchType (.cls cN)) := X1.warmed.noted hdN hopenN (State.rightAt_cls hclN)
  have X2 := X1.noted hW2
  rw [State.setVm_twice] at X2
  have hal := X.warmed.alike
  have hal1 := X1.warmed.alike
  obtain ⟨kD', hkD', -⟩ := hal.2.2 _ _ hkD
  obtain ⟨kN', hkN', -⟩ := hal1.2.2 _ _ hkN
  obtain ⟨kN0, hkN0, -⟩ := hal.2.2 _ _ hkN
  have hfit0 : T.vm.assignable cell.cls cN = true := by rw [hal.assignable]; exact hfit
  have hfit1 : (T.setVm (T.vm.noted m.cls x.catchType (.cls cD))).vm.assignable cell.cls cN = true := by rw [hal1.assignable]; exact hfit
  have hno0 : T.vm.assignable cell.cls cD = false := by rw [hal.assignable]; exact hno
  refine ⟨_, X2, fun target hrest => ?_⟩
  subst hg
  refine xcaught X.here ?_ hrest
  intro Q E d acts
  rw [Jvm.W.findHandler_eq (s := (T.setTop g).pushFrame (.throwing a)) (meth := meth) (code := c) X.method' X.code, hsplit]
  rw [xgo (s := (T.setTop g).pushFrame (.throwing a)) hx h0 (c := cD) (cell := cell) hclD₀ hcell (VmData.ne_statics_of hobj) (Vm.classAt_of_assignable hfit0 ⟨kN0, hkN0⟩) ⟨kD', hkD'⟩, Stand.throwing_vm, if_neg (by rw [hno0]; decide)]
  rw [xgo (s := ((T.setTop g).pushFrame (.throwing a)).setVm (T.vm.noted g.method.cls x.catchType (.cls cD))) hy h1 (c := cN) (cell := cell) hclN₀ hcell (VmData.ne_statics_of hobj) (Vm.classAt_of_assignable hfit1 ⟨kN', hkN'⟩) ⟨kN', hkN'⟩, if_pos (show (((T.setTop g).pushFrame (.throwing a)).setVm (T.vm.noted g.method.cls x.catchType (.cls cD))).vm.assignable cell.cls cN = true from hfit1)]
  rfl
section VTD2
variable {y : MethodName} {bytes : ByteArray} {maxL index n b ci N q0 : Nat} {r2 : Option FieldType} {rm : Room} {As st : List Value} {wc wr : va_W} {postC : va_W → Prop} {post : Option Value → va_W → Prop} {C X D : String} {T : u_T} {fs : List Value} {hh : List (Nat × Nat × Nat × Nat)}
theorem vt_catch2 {s0 e0 hd0 ct0 s1 e1 hd ct : Nat} {more : List (Nat × Nat × Nat × Nat)} (F : vv_F p s m args meth c cc own nm ret G A nL) (E : vt_F s A) (htab : c.exceptionTable.toList.map (fun h => (h.startPc, h.endPc, h.handlerPc, h.catchType)) = (s0, e0, hd0, ct0) :: (s1, e1, hd, ct) :: more) (hcov : (s0 ≤ pc ∧ pc < e0) ∧ s1 ≤ pc ∧ pc < e1) (hct : ct0 ≠ 0 ∧ ct ≠ 0) (hlkD : Cond.classLink own ct0 D ∈ zW) (hlk : Cond.classLink own ct X ∈ zW) (hcx : Cond.castable X X ∈ zX) (hxn : xE s → xn X D s) (hM : vt_C l y bytes maxL r2 rm G X (.ref b :: As) wc postC) (hm : vv_M y bytes maxL r2 n) (hi : Cond.instanceMethod y ∈ zW ∧ Cond.selects C y y ∈ zW) (hl : Cond.methodLink own index y ∈ zW) (d : decode cc pc = .ok (.invokevirtual index, 3)) (hrm : rm.frames + 1 ≤ R.frames ∧ 8 + (maxL + 11) + rm.locals ≤ R.locals) (hk : kc + rm.cells ≤ R.cells ∧ ks + rm.slots ≤ R.slots) (isC isR : List Nat) (hC : isC.map (fun i => ws[i]?) = wc.map some) (hR : isR.map (fun i => ws[i]?) = wr.map some) (hn : va_nd isC = true ∧ va_nd isR = true ∧ (∀ i ∈ isR, i ∉ isC)) (hq : ws[q0]? = some (b, .inr (ci, fs))) (hc : zC[ci]? = some (C, T, N)) (hn2 : As.length = n) (hst : st = As.reverse ++ .ref b :: rest) (hcat : (rest.map fun v => v.category).sum ≤ 8)
    (k : ∀ (x : Nat) (w1 : va_W), postC w1 → vv_V p l e R s m args below meth c G A nL Q hd lv [.ref x] (wr ++ w1) (kc + rm.cells) (ks + rm.slots)) : vv_V p l e R s m args below meth c G A nL Q pc lv st ws kc ks := by
  intro H locs ls hP hD hS hl2 U hU XS
  obtain ⟨x, cell, w1, T', L, X', hcell, hns, hcls, hp, hPj, hDj, hSj, hsteps⟩ := vt_after F E hM hm hi hl d hrm hk isC isR hC hR hn hq hc hn2 hst hcat hP hD hS hl2 U hU XS
  obtain ⟨en, tl, htl, h1, h2⟩ := List.map_eq_cons_iff.mp htab
  obtain ⟨en2, tl2, htl2, h3, h4⟩ := List.map_eq_cons_iff.mp h2
  subst htl2
  simp only [Prod.mk.injEq] at h1 h3
  obtain ⟨c3, c4, hc3, hc4, hasg⟩ := Cond.castable_spec (va_Nw.use (A := args) (zX_onT hcx) (F.2.2.2.2.2.2 _ hcx))
  cases hc3.symm.trans hcls
  cases hc4.symm.trans hcls
  obtain ⟨cx, cd, hx1, hx2, hx3⟩ := hxn E.1
  cases hx1.symm.trans hcls
  obtain ⟨vm', XV, stV⟩ := vt_caught2 X' x (g := F0 m pc ls rest) rfl F.1.2.2.2.1 htl (by simp [covers, h1.1, h1.2.1, hcov.1.1, hcov.1.2]) (by rw [h1.2.2.2]; exact hct.1) (by simp [covers, h3.1, h3.2.1, hcov.2.1, hcov.2.2]) (by rw [h3.2.2.2]; exact hct.2) (D := D) (N := X) (by rw [h1.2.2.2]; exact F.1.2.2.2.2 _ hlkD) (by rw [h3.2.2.2]; exact F.1.2.2.2.2 _ hlk) hx2 hcls hcell hns hx3 hasg
  obtain ⟨t, a1, b1⟩ := k x w1 hp T'.heap (locs ++ L) ls hPj hDj hSj hl2 (T'.setVm vm') rfl XV
  exact ⟨t, hsteps.trans (stV t (by rw [h3.2.2.1]; exact a1)), b1⟩
/-- the contract of a method with a table of handlers -/
def vh_C (l : Launch) (y : MethodName) (bytes : ByteArray) (maxL : Nat) (ret : Option FieldType) (hh : List (Nat × Nat × Nat × Nat)) (rm : Room) (G : vv_G) (av : List Value) (ws : va_W) (post : Option Value → va_W → Prop) : Prop :=
  ∀ sz : Nat, Met l y (Cond.codeWith y bytes maxL ret hh :: zW) rm (va_Pc av (fun U => U.heap.size = sz ∧ va_P G.1 zC ws U.heap ∧ va_K G.1 zC (vv_t G) U ∧ va_D (fun _ => True) ws ∧ zE U ∧ xE U))
    (fun _ st oc t => (∃ (v : Option Value) (w1 : va_W), oc = .returned v ∧ post v w1 ∧ va_P G.1 zC w1 t.heap ∧ va_D (va_A ws sz) w1) ∧ va_F (va_A ws sz) st t) rm.cells rm.slots (va_A ws sz)
theorem vh_met {av : List Value} {lv0 : List (Nat × Value)} (hy : plainName y.cls = true) (hl : (lg_sl av).length ≤ maxL) (hlv : lv_args 0 av = lv0)
    (body : ∀ (p : Program) (e : Env) (s : State) (m : MethodId) (args : Array Value) (below : List Frame) (meth : Method) (c : Code) (A : Nat → Prop), vv_F p s m args meth c cc y.cls y.name ret G A maxL → vt_F s A → c.exceptionTable.toList.map (fun h => (h.startPc, h.endPc, h.handlerPc, h.catchType)) = hh → vv_V p l e rm s m args below meth c G A maxL (vv_R below args s rm G A post) 0 lv0 [] ws 0 0) : vh_C l y cc maxL ret hh rm G av ws post := by
  intro sz
  refine va_MetW (cc := cc) (maxL := maxL) (ret := ret) (hh := hh) hy rfl ?_
  intro p e s m args below meth c s₁ B hml hv
  obtain ⟨rfl, hsz, hP, hK, hD0, hE, hX⟩ := hv
  subst hsz
  have hts := atoms_spec (ws := Cond.codeWith y cc maxL ret hh :: zW) B.pre
  obtain ⟨m9, meth9, c9, hn9, h1, h2, -, -, htab, -⟩ := Cond.codeWith_spec (hts _ List.mem_cons_self)
  cases B.named.symm.trans hn9
  cases B.method.symm.trans h1
  cases (Stand.of_body B).code.symm.trans h2
  have hD := hD0.self (sz := s.heap.size)
  have he := lv_entry av (n := maxL) hl
  rw [hlv] at he
  rw [lg_entry_eq]
  exact body p e s m _ below meth c (va_A ws s.heap.size) ⟨⟨B.exec, B.bytes, hml, findClass_of_methodNamed B.named, fun w hw => hts w (List.mem_cons_of_mem _ hw)⟩, hK, fun q h => Or.inr h, B.notSynchronized, B.returns, (name_of_methodNamed B.named B.method).1, hE⟩ ⟨hX, vt_ap hP⟩ htab s.heap [] _ hP hD va_S.rf he
def vh_M (y : MethodName) (bytes : ByteArray) (maxL : Nat) (ret : Option FieldType) (hh : List (Nat × Nat × Nat × Nat)) (n : Nat) : Prop := Cond.codeWith y bytes maxL ret hh ∈ zW ∧ Cond.initialized y.cls ∈ zW ∧ (y.cls ≠ "java/lang/invoke/MethodHandle" ∧ y.cls ≠ "java/lang/invoke/VarHandle") ∧ (parseMethodDescriptor y.desc).map (fun d => d.parameters.length) = some n
theorem vh_Mn (h : vh_M y bytes maxL r2 hh n) : ∀ sig, parseMethodDescriptor y.desc = some sig → n = sig.parameters.length := by
  intro sig hs
  have := h.2.2.2
  rw [hs] at this
  exact (Option.some.inj this).symm
theorem vh_wds (F : vv_F p s m args meth c cc own nm ret G A nL) (h : Cond.codeWith y bytes maxL r2 hh ∈ zW) : ∀ w ∈ (Cond.codeWith y bytes maxL r2 hh :: zW), ∀ (a' : Array Value) (U : State), s.WarmedH U.vm → w.before a' U = true :=
  pay_in F.1.2.2.2.2 (fun w hw => (List.mem_cons.mp hw).elim (fun e => e ▸ ⟨h, zW_good _ h⟩) (fun h1 => ⟨h1, zW_good _ h1⟩))
theorem vh_run {mc ms : Nat} {Pc : Array Value → State → Prop} {Qc : Array Value → State → Outcome → State → Prop} {free : Addr → Prop} {g : JFrame} {H : Heap} {locs : List Loc} (F : vv_F p s m args meth c cc own nm ret G A nL) (hM : Met l y (Cond.codeWith y bytes maxL r2 hh :: zW) rm Pc Qc mc ms free) (hm : vh_M y bytes maxL r2 hh n) (hi : Cond.static y ∈ zW) (hl : Cond.methodLink own index y ∈ zW) (hrm : rm.frames + 1 ≤ R.frames ∧ 8 + (maxL + 11) + rm.locals ≤ R.locals) (hrc : rm.cells = mc) (hrs : rm.slots = ms) (hp : PreS s H Pc As)
    (hg : g.method = m) (hn : As.length = n) (hsize : g.locals.size = nL) (hstack : g.stack = As.reverse ++ rest) (hW : 2 * g.monitorRoom + (rest.map fun v => v.category).sum ≤ 8) (hdg : decode cc g.pc = .ok (.invokestatic index, 3)) (hf : kc + mc ≤ R.cells ∧ ks + ms ≤ R.slots) :
    va_Run p l e R s m args below meth c H locs kc ks mc ms g rest (Qc As.toArray) free := by
  have hK : Back l R p e below s args y 3 8 (PreOf R mc ms Pc) (PostOf Qc mc ms free) := va_backW (hh := hh) (bytes := bytes) (maxL := maxL) (ret := r2) hM hp.1 hrc hrs hrm.1 hrm.2 (vh_wds F hm.1) List.mem_cons_self (fun a' U hW => word_at hW (zW_good _ hm.2.1) (F.1.2.2.2.2 _ hm.2.1))
  obtain ⟨hx, hb, hml, ho, -⟩ := F.1
  intro T hT X
  obtain ⟨mk, methM, cM, hnamed, hmethM, -, -, -, -, -, -, hsigM⟩ := Cond.codeWith_spec (F.1.2.2.2.2 _ hm.1)
  have hstatic : methM.isStatic = true := Cond.static_spec hnamed hmethM (F.1.2.2.2.2 _ hi)
  obtain ⟨kP, hkP, -⟩ := className_of_methodNamed hnamed
  have hinitP : kP.init = .initialized := Cond.initialized_spec (findClass_of_methodNamed hnamed) hkP (F.1.2.2.2.2 _ hm.2.1)
  obtain ⟨vm₁, X₁, hstep₁⟩ := X.invokestatic hx ho (F.1.2.2.2.2 _ hl) hnamed hmethM hstatic hkP hinitP hm.2.2.1 (g := g) hg (argsL := As) (rest := rest) (hn.trans (vh_Mn hm _ hsigM)) hstack (by rw [hb]; exact hdg)
  obtain ⟨v, ⟨U', l2, c2, s2⟩, X', ⟨g', mk', t, L, e1, e2, hq, h1, hL, h2, h3⟩, hsteps⟩ := hK m meth c ⟨T.setVm vm₁, locs, kc, ks⟩ { g with stack := rest } (.invokestatic index) mk As.toArray X₁ hg (hsize.trans hml.symm) (by rw [hb]; exact hdg) hW (X₁.named hnamed) ⟨hf.1, hf.2, hp.2 (T.setVm vm₁) hT X₁.warmed⟩
  dsimp only [Pt.U, Pt.locs, Pt.cells, Pt.slots] at X' e1 e2 h1 h2 h3 hsteps
  subst h1; subst h2; subst h3
  exact ⟨v, (T.setVm vm₁).calling g' mk' As.toArray, t, U', L, hT, X', hL, e1, e2, hq, fun target h => hstep₁ _ fun acts => by rw [doInvoke_state]; exact hsteps.trans h⟩
theorem vh_callS (F : vv_F p s m args meth c cc own nm ret G A nL) (E : vt_F s A) (hM : vh_C l y bytes maxL r2 hh rm G As wc post) (hm : vh_M y bytes maxL r2 hh n) (hi : Cond.static y ∈ zW) (hl : Cond.methodLink own index y ∈ zW) (d : decode cc pc = .ok (.invokestatic index, 3)) (hrm : rm.frames + 1 ≤ R.frames ∧ 8 + (maxL + 11) + rm.locals ≤ R.locals) (hk : kc + rm.cells ≤ R.cells ∧ ks + rm.slots ≤ R.slots) (isC isR : List Nat) (hC : isC.map (fun i => ws[i]?) = wc.map some) (hR : isR.map (fun i => ws[i]?) = wr.map some) (hn : va_nd isC = true ∧ va_nd isR = true ∧ (∀ i ∈ isR, i ∉ isC)) (hn2 : As.length = n) (hst : st = As.reverse ++ rest) (hcat : (rest.map fun v => v.category).sum ≤ 8)
    (k : ∀ (v : Option Value) (w1 : va_W), post v w1 → vv_V p l e R s m args below meth c G A nL Q (pc + 3) lv (v.toList ++ rest) (wr ++ w1) (kc + rm.cells) (ks + rm.slots)) : vv_V p l e R s m args below meth c G A nL Q pc lv st ws kc ks := by
  subst hst
  intro H locs ls hP hD hS hl2
  have hPc := hP.sub isC (vv_fm hC)
  have hDc := hD.sub isC hn.1 hC
  have hFc := va_free hD hS F.2.2.1 isC hC
  refine vv_go (a := (As : List Value).toArray) (A1 := va_A wc H.size) (G := G) (post := post) (vh_run (As := As) (rest := rest) F (hM H.size) hm hi hl hrm rfl rfl (vt_pre F E hS hPc hDc) rfl hn2 hl2.1 rfl (lv_room hcat) d hk) hS (fun q _ h => hFc q h) hFc (fun v w1 H1 locs1 hp hP1 hD1 hk1 hS1 => ?_)
  obtain ⟨hPj, hDj⟩ := va_join hP hD isC isR hC hR hn.2.1 hn.2.2 hk1 hFc hP1 hD1
  exact k v w1 hp H1 locs1 ls hPj hDj hS1 hl2
end VTD2
end VWC
