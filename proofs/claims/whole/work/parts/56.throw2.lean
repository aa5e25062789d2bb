/-! a call that throws: it goes on out, or is caught; methods with a table of handlers -/
section VTC
variable {p : Program} {l : Launch} {e : Env} {R : Room} {s : State} {m : MethodId} {args : Array Value} {below : List Frame} {meth : Method} {c : Code} {cc : ByteArray} {own nm : String} {ret : Option FieldType} {G : vv_G} {A : Nat → Prop} {nL : Nat} {Q : State → Prop} {pc kc ks : Nat} {lv : List (Nat × Value)} {rest : List Value} {ws : va_W}
def vt_Post (Qc : Array Value → State → Outcome → State → Prop) (mc ms : Nat) (free : Addr → Prop) : Free.Pt → Array Value → Addr → Free.Pt → Prop := fun A a x B =>
  ∃ (g : JFrame) (mk : MethodId) (t : State) (L : List Loc), B.U.heap = t.heap ∧ B.U.vm = t.vm ∧ Qc a (A.U.calling g mk a) (.threw x) t ∧ B.locs = A.locs ++ L ∧ (∀ q ∈ L, free q.base) ∧ B.cells = A.cells + mc ∧ B.slots = A.slots + ms
theorem vt_back {y : MethodName} {wl : List Cond} {rm : Room} {Pc : Array Value → State → Prop} {Qc : Array Value → State → Outcome → State → Prop} {mc ms len W : Nat} {free : Addr → Prop} {bytes : ByteArray} {maxL : Nat} {r2 : Option FieldType}
    (hM : vt_Met l y wl rm Pc Qc mc ms free) (hblind : FrameBlind Pc) (hrc : rm.cells = mc) (hrs : rm.slots = ms) (hframes : rm.frames + 1 ≤ R.frames) (hlocals : W + (maxL + 11) + rm.locals ≤ R.locals)
    (hws : ∀ w ∈ wl, ∀ a' U, s.WarmedH U.vm → w.before a' U = true) (hcode : Cond.code y bytes maxL r2 ∈ wl) (hinit : ∀ a' U, s.WarmedH U.vm → (Cond.initialized y.cls).before a' U = true) :
    Free.BackT l R p e below s args y len W (PreOf R mc ms Pc) (vt_Post Qc mc ms free) := by
  refine Free.BackT.of_free (S := headSpec wl rm) (P := Pc) (K := fun _ _ _ _ _ => True) (Q := fun a st o t => Qc a st o t ∧ ∃ L, Free.FrameEndT st o t L mc ms ∧ ∀ q ∈ L, free q.base) (bytes := bytes) (maxL := maxL) (ret := r2)
    (E := fun a st o t L k n => k = mc ∧ n = ms ∧ ∀ q ∈ L, free q.base) hM hframes hlocals ?_ ?_ (fun _ _ _ _ _ _ _ _ _ => trivial) ?_ ?_
  · intro m meth c A a X hp
    exact ⟨atoms_intro fun w hw => hws w hw _ _ X.warmed, hws _ hcode _ _ X.warmed, hinit _ _ X.warmed, by rw [show (headSpec wl rm).room.cells = mc from hrc]; exact hp.1, by rw [show (headSpec wl rm).room.slots = ms from hrs]; exact hp.2.1⟩
  · intro m meth c A a g mk X hp
    exact hblind _ _ _ _ hp.2.2
  · intro a st o t ⟨hq, L, hF, hL⟩
    exact ⟨L, mc, ms, hF, rfl, rfl, hL⟩
  · intro m meth c A a g mk v t L k n X hp hq hF ⟨e1, e2, hL⟩
    subst e1; subst e2
    exact ⟨g, mk, t, L, rfl, rfl, hq.1, rfl, hL, rfl, rfl⟩
/-- a call that throws: where the caller stands -/
theorem vt_runV {y : MethodName} {bytes : ByteArray} {maxL mc ms n index : Nat} {r2 : Option FieldType} {wl : List Cond} {rm : Room} {Pc : Array Value → State → Prop} {Qc : Array Value → State → Outcome → State → Prop} {free : Addr → Prop} {Ts : List Cond} {C : String} {b : Addr} {As : List Value} {g : JFrame} {H : Heap} {locs : List Loc}
    (S : CallFix p m c cc nL s args Ts own) (hM : vt_Met l y wl rm Pc Qc mc ms free) (cw : CallW R s args own C index y bytes maxL r2 wl rm mc ms n) (hp : PreV s H C b Pc As)
    (hg : g.method = m) (hn : As.length = n) (hsize : g.locals.size = nL) (hstack : g.stack = As.reverse ++ .ref b :: rest) (hW : 2 * g.monitorRoom + (rest.map fun v => v.category).sum ≤ 8) (hdg : decode cc g.pc = .ok (.invokevirtual index, 3)) (hf : kc + mc ≤ R.cells ∧ ks + ms ≤ R.slots) :
    ∀ T : State, T.heap = H → Stand p l e R s m args below meth c T locs kc ks → ∃ (x : Addr) (st₀ t T' : State) (L : List Loc), st₀.heap = H ∧ s.WarmedH st₀.vm ∧ Stand p l e R s m args below meth c T' (locs ++ L) (kc + mc) (ks + ms) ∧ (∀ q ∈ L, free q.base) ∧ T'.heap = t.heap ∧ Qc (Value.ref b :: As).toArray st₀ (.threw x) t ∧
      Steps p.tables e below (T.setTop g) ((T'.setTop { g with stack := rest }).pushFrame (.throwing x)) := by
  obtain ⟨⟨hrc, hrs, hfr, hlo, hws, hcin, hcode, hini, hy, hlen, hl⟩, hin, hse⟩ := cw
  have hK : Free.BackT l R p e below s args y 3 8 (PreOf R mc ms Pc) (vt_Post Qc mc ms free) := vt_back (bytes := bytes) (maxL := maxL) (r2 := r2) hM hp.1 hrc hrs hfr hlo hws hcin (fun a' U hW => word_at hW (Or.inl (by first | rfl | simp [Cond.onTables, Cond.keeps, Cond.steady])) hini)
  obtain ⟨hx, hb, hml, ho, -⟩ := S
  obtain ⟨-, ⟨cellB, hcB, hoB, hclB⟩, hPc⟩ := hp
  intro T hT X
  obtain ⟨mk, methM, hnamed, hmethM, hstM, habM⟩ := Cond.instanceMethod_spec hin
  obtain ⟨methM', cM, hmethM', -, -, -, -, -, -, hsigM⟩ := Cond.code_spec hnamed hcode
  cases hmethM.symm.trans hmethM'
  obtain ⟨c2, r2', m2, q1, q2, q3, q4, kP, hkP, hkPi⟩ := Cond.selects_spec hse
  cases hclB.symm.trans q1
  cases (State.methodFound?_of_named hnamed hy).symm.trans q2
  cases hnamed.symm.trans q3
  have hselP : selectMethod e.platform s.vm cellB.cls mk = .method mk := by rw [Launch.admits_selectMethod X.admits]; exact q4
  obtain ⟨vm₁, X₁, hstep₁⟩ := X.invokevirtual hx ho hl hnamed hmethM hstM hkP hkPi hy (a := b) (cell := cellB) (by rw [hT]; exact hcB)
    (fun z h => by rw [h] at hoB; cases hoB) hselP hmethM habM hkP hkPi (g := g) hg (argsL := As) (rest := rest) (hn.trans (hlen _ hsigM)) hstack (by rw [hb]; exact hdg)
  obtain ⟨x, ⟨U', l2, c2', s2⟩, X', ⟨g', mk', t, L, e1, e2, hq, h1, hL, h2, h3⟩, hsteps⟩ := hK m meth c ⟨T.setVm vm₁, locs, kc, ks⟩ { g with stack := rest } (.invokevirtual index) mk (Value.ref b :: As).toArray X₁ hg (hsize.trans hml.symm) (by rw [hb]; exact hdg) hW (X₁.named hnamed) ⟨hf.1, hf.2, hPc (T.setVm vm₁) hT X₁.warmed⟩
  dsimp only [Free.Pt.U, Free.Pt.locs, Free.Pt.cells, Free.Pt.slots] at X' e1 e2 h1 h2 h3 hsteps
  subst h1; subst h2; subst h3
  exact ⟨x, (T.setVm vm₁).calling g' mk' (Value.ref b :: As).toArray, t, U', L, hT, X₁.warmed, X', hL, e1, hq, hstep₁ _ fun acts => by rw [doInvoke_state]; exact hsteps⟩
theorem vt_pre {H : Heap} {locs : List Loc} {av : List Value} {wc : va_W} (F : vv_F p s m args meth c cc own nm ret G A nL) (E : vt_F s A) (hS : va_S A s.heap H locs) (hP : va_P G.1 zC wc H) (hD : va_D A wc) : (FrameBlind (va_Pc av (fun U => U.heap.size = H.size ∧ va_P G.1 zC wc U.heap ∧ va_K G.1 zC (vv_t G) U ∧ va_D (fun _ => True) wc ∧ zE U ∧ xE U))) ∧ ∀ U : State, U.heap = H → s.WarmedH U.vm → (va_Pc av (fun U => U.heap.size = H.size ∧ va_P G.1 zC wc U.heap ∧ va_K G.1 zC (vv_t G) U ∧ va_D (fun _ => True) wc ∧ zE U ∧ xE U)) av.toArray U :=
  ⟨fun a U g mk q => by
    obtain ⟨q0, q1, qP, qK, qD, qE, qX⟩ := q
    exact ⟨q0, q1, qP, va_K.moved (u := U) (U := U.calling g mk a) (Vm.Alike.refl U.vm) qK, qD, zE_same (u := U) rfl qE, xE_same (u := U) rfl rfl qX⟩,
   fun U hU hW => ⟨rfl, by rw [hU], by rw [hU]; exact hP, va_K.moved hW.alike F.2.1, hD.weaken (fun _ _ _ _ => trivial), zE_warm hW F.2.2.2.2.2.2, E.at hS hU hW⟩⟩
section VTD
variable {y : MethodName} {bytes : ByteArray} {maxL index n b ci N q0 : Nat} {r2 : Option FieldType} {rm : Room} {As st : List Value} {wc wr : va_W} {postC post : va_W → Prop} {C X : String} {T : u_T} {fs : List Value}
/-- what a call that throws gives its caller -/
theorem vt_after (F : vv_F p s m args meth c cc own nm ret G A nL) (E : vt_F s A) (hM : vt_C l y bytes maxL r2 rm G X (.ref b :: As) wc postC) (hm : vv_M y bytes maxL r2 n) (hi : Cond.instanceMethod y ∈ zW ∧ Cond.selects C y y ∈ zW) (hl : Cond.methodLink own index y ∈ zW) (d : decode cc pc = .ok (.invokevirtual index, 3)) (hrm : rm.frames + 1 ≤ R.frames ∧ 8 + (maxL + 11) + rm.locals ≤ R.locals) (hk : kc + rm.cells ≤ R.cells ∧ ks + rm.slots ≤ R.slots) (isC isR : List Nat) (hC : isC.map (fun i => ws[i]?) = wc.map some) (hR : isR.map (fun i => ws[i]?) = wr.map some) (hn : va_nd isC = true ∧ va_nd isR = true ∧ (∀ i ∈ isR, i ∉ isC)) (hq : ws[q0]? = some (b, .inr (ci, fs))) (hc : zC[ci]? = some (C, T, N)) (hn2 : As.length = n) (hst : st = As.reverse ++ .ref b :: rest) (hcat : (rest.map fun v => v.category).sum ≤ 8)
    {H : Heap} {locs : List Loc} {ls : Array Slot} (hP : va_P G.1 zC ws H) (hD : va_D A ws) (hS : va_S A s.heap H locs) (hl2 : lv_has ls nL lv) (U : State) (hU : U.heap = H) (XS : Stand p l e R s m args below meth c U locs kc ks) :
    ∃ (x : Addr) (cell : Cell) (w1 : va_W) (T' : State) (L : List Loc), Stand p l e R s m args below meth c T' (locs ++ L) (kc + rm.cells) (ks + rm.slots) ∧ T'.heap[x]? = some cell ∧ cell.vm.isStatics = false ∧ s.vm.findClass X = some cell.cls ∧ postC w1 ∧ va_P G.1 zC (wr ++ w1) T'.heap ∧ va_D A (wr ++ w1) ∧ va_S A s.heap T'.heap (locs ++ L) ∧
      Steps p.tables e below (U.setTop (F0 m pc ls st)) ((T'.setTop (F0 m pc ls rest)).pushFrame (.throwing x)) := by
  subst hst
  have hPc := hP.sub isC (vv_fm hC)
  have hDc := hD.sub isC hn.1 hC
  have hFc := va_free hD hS F.2.2.1 isC hC
  obtain ⟨x, st₀, t, T', L, h0, hW0, X', hL, e1, ⟨⟨x', cell, w1, hv, hcell, hns, hcls, hp, hP1, hD1⟩, hz, hk1⟩, hsteps⟩ := vt_runV (As := As) (rest := rest) F.1 (hM H.size) ⟨vv_cb F hm hl hrm, F.1.2.2.2.2 _ hi.1, F.1.2.2.2.2 _ hi.2⟩ ⟨(vt_pre F E hS hPc hDc).1, va_recv F.2.1 hP hc hq, (vt_pre F E hS hPc hDc).2⟩ (g := F0 m pc ls (As.reverse ++ .ref b :: rest)) rfl hn2 hl2.1 rfl (lv_room hcat) d hk U hU XS
  cases hv
  rw [h0] at hz hk1
  obtain ⟨hPj, hDj⟩ := va_join hP hD isC isR hC hR hn.2.1 hn.2.2 hk1 hFc hP1 hD1
  refine ⟨x, cell, w1, T', L, X', by rw [e1]; exact hcell, hns, by rw [hW0.alike.findClass] at hcls; exact hcls, hp, by rw [e1]; exact hPj, hDj, ⟨Nat.le_trans hS.1 (by rw [e1]; exact hz), fun q h1 h2 => by rw [e1, hk1 q (Nat.lt_of_lt_of_le h1 hS.1) (fun z => h2 (hFc q z))]; exact hS.2.1 q h1 h2, fun q hq => by
      rcases List.mem_append.mp hq with h | h
      · exact hS.2.2 q h
      · exact hFc _ (hL q h)⟩, hsteps⟩
/-- .. and it isn't caught here -/
theorem vt_prop (F : vv_F p s m args meth c cc own nm ret G A nL) (E : vt_F s A) (hx0 : c.exceptionTable.isEmpty = true) (hM : vt_C l y bytes maxL r2 rm G X (.ref b :: As) wc postC) (hm : vv_M y bytes maxL r2 n) (hi : Cond.instanceMethod y ∈ zW ∧ Cond.selects C y y ∈ zW) (hl : Cond.methodLink own index y ∈ zW) (d : decode cc pc = .ok (.invokevirtual index, 3)) (hrm : rm.frames + 1 ≤ R.frames ∧ 8 + (maxL + 11) + rm.locals ≤ R.locals) (hk : kc + rm.cells ≤ R.cells ∧ ks + rm.slots ≤ R.slots) (isC isR : List Nat) (hC : isC.map (fun i => ws[i]?) = wc.map some) (hR : isR.map (fun i => ws[i]?) = wr.map some) (hn : va_nd isC = true ∧ va_nd isR = true ∧ (∀ i ∈ isR, i ∉ isC)) (hq : ws[q0]? = some (b, .inr (ci, fs))) (hc : zC[ci]? = some (C, T, N)) (hn2 : As.length = n) (hst : st = As.reverse ++ .ref b :: rest) (hcat : (rest.map fun v => v.category).sum ≤ 8)
    (js : List Nat) (hnj : va_nd js = true) (hpost : ∀ w1, postC w1 → ∃ w', js.map (fun i => (wr ++ w1)[i]?) = w'.map some ∧ post w') : vv_V p l e R s m args below meth c G A nL (vt_R below args s R G A X post) pc lv st ws kc ks := by
  intro H locs ls hP hD hS hl2 U hU XS
  obtain ⟨x, cell, w1, T', L, X', hcell, hns, hcls, hp, hPj, hDj, hSj, hsteps⟩ := vt_after F E hM hm hi hl d hrm hk isC isR hC hR hn hq hc hn2 hst hcat hP hD hS hl2 U hU XS
  obtain ⟨w', hj, hp'⟩ := hpost w1 hp
  obtain ⟨hw1, hrun, hend, hWU, hsame⟩ := X'.leaveThrown x (g := F0 m pc ls rest) rfl rfl rfl (covers_of_empty hx0 _) (hlocks := F.2.2.2.1)
  exact ⟨_, hsteps.trans hw1, .threw x, hrun, hend, ⟨⟨x, cell, w', rfl, hcell, hns, hcls, hp', hPj.sub js (vv_fm hj), hDj.sub js hnj hj⟩, hSj.F rfl⟩, locs ++ L, ⟨⟨_, rfl⟩, hWU, hsame.mono hk.1 hk.2⟩, hSj.2.2⟩
/-- .. and the first handler takes it -/
theorem vt_catch {s0 e0 hd ct : Nat} {more : List (Nat × Nat × Nat × Nat)} (F : vv_F p s m args meth c cc own nm ret G A nL) (E : vt_F s A) (htab : c.exceptionTable.toList.map (fun h => (h.startPc, h.endPc, h.handlerPc, h.catchType)) = (s0, e0, hd, ct) :: more) (hcov : s0 ≤ pc ∧ pc < e0) (hct : ct ≠ 0) (hlk : Cond.classLink own ct X ∈ zW) (hcx : Cond.castable X X ∈ zX) (hM : vt_C l y bytes maxL r2 rm G X (.ref b :: As) wc postC) (hm : vv_M y bytes maxL r2 n) (hi : Cond.instanceMethod y ∈ zW ∧ Cond.selects C y y ∈ zW) (hl : Cond.methodLink own index y ∈ zW) (d : decode cc pc = .ok (.invokevirtual index, 3)) (hrm : rm.frames + 1 ≤ R.frames ∧ 8 + (maxL + 11) + rm.locals ≤ R.locals) (hk : kc + rm.cells ≤ R.cells ∧ ks + rm.slots ≤ R.slots) (isC isR : List Nat) (hC : isC.map (fun i => ws[i]?) = wc.map some) (hR : isR.map (fun i => ws[i]?) = wr.map some) (hn : va_nd isC = true ∧ va_nd isR = true ∧ (∀ i ∈ isR, i ∉ isC)) (hq : ws[q0]? = some (b, .inr (ci, fs))) (hc : zC[ci]? = some (C, T, N)) (hn2 : As.length = n) (hst : st = As.reverse ++ .ref b :: rest) (hcat : (rest.map fun v => v.category).sum ≤ 8)
    (k : ∀ (x : Nat) (w1 : va_W), postC w1 → vv_V p l e R s m args below meth c G A nL Q hd lv [.ref x] (wr ++ w1) (kc + rm.cells) (ks + rm.slots)) : vv_V p l e R s m args below meth c G A nL Q pc lv st ws kc ks := by
  intro H locs ls hP hD hS hl2 U hU XS
  obtain ⟨x, cell, w1, T', L, X', hcell, hns, hcls, hp, hPj, hDj, hSj, hsteps⟩ := vt_after F E hM hm hi hl d hrm hk isC isR hC hR hn hq hc hn2 hst hcat hP hD hS hl2 U hU XS
  obtain ⟨en, tl, htl, h1, h2⟩ := List.map_eq_cons_iff.mp htab
  simp only [Prod.mk.injEq] at h1
  obtain ⟨c3, c4, hc3, hc4, hasg⟩ := Cond.castable_spec (va_Nw.use (A := args) (zX_onT hcx) (F.2.2.2.2.2.2 _ hcx))
  cases hc3.symm.trans hcls
  cases hc4.symm.trans hcls
  obtain ⟨vm', XV, stV⟩ := X'.caughtLink x (g := F0 m pc ls rest) rfl F.1.2.2.2.1 (name := X) [] en tl htl (fun _ h => absurd h List.not_mem_nil) (by simp [covers, h1.1, h1.2.1, hcov.1, hcov.2]) (by rw [h1.2.2.2]; exact hct) (by rw [h1.2.2.2]; exact F.1.2.2.2.2 _ hlk) hcls hcell hns hasg
  obtain ⟨t, a1, b1⟩ := k x w1 hp T'.heap (locs ++ L) ls hPj hDj hSj hl2 (T'.setVm vm') rfl XV
  refine ⟨t, hsteps.trans ?_, b1⟩
  rw [X'.pushThrowing_eq]
  exact stV t (by rw [h1.2.2.1]; exact a1)
end VTD
end VTC
