/-! THE CLAIM OUT OF ONE WALK OF THE LAW'S BODY. Your part is whole_start (and what it stands on); all else here is the same for every law, but numbers. -/
def R_law : String := "ClauseGraphLaw"
def lw_P (b : Addr) (xs : List Int32) (args : Array Value) (s : State) : Prop := args = #[.ref b] ∧ s.IntsAt b xs ∧ xs.length ≤ 1536 ∧ (Jvm.Cond.and given_1 narrow_1).before args s = true
def lw_Q (_ : Array Value) (s : State) (o : Outcome) (t : State) : Prop := o = .returned (some (.int 1)) ∧ Framed s o t [] 601024 7293034
def lw_Z (below : List Frame) (a : Array Value) (s : State) : State → Prop := fun t => ∃ o, t.status = .running ∧ Ended t below o ∧ lw_Q a s o t
/-- the law's own end, with 1 on the stack, nothing written that was there before, its room as the claim has it -/
theorem lw_ret {p : Program} {l : Launch} {e : Env} {s : State} {m : MethodId} {below : List Frame} {meth : Method} {c : Code} {b : Nat} (hx : p.tables.exec = Jvm.exec) (hb : c.code = code) (hr : meth.sig.returnType = ret) (hlocks : meth.locks = false) {pc : Nat} {H : Heap} {ls : Array Slot} (hdg : decode code pc = .ok (.ireturn, 1)) : W p l e room_1 s m #[Value.ref b] below meth c H [] 601024 7293034 (lw_Z below #[Value.ref b] s) (F0 m pc ls [.int 1]) := by
  intro T hT X
  obtain ⟨fs, hret, hrun, hended, hW, hframe⟩ := X.leave (v := some (.int 1)) (hlocks := hlocks) (fun h => by rw [hr] at h; cases h)
  have hmeth' : T.vm.method? m = some meth := X.method'
  refine ⟨T.setFrames fs, ?_, .returned (some (.int 1)), hrun, hended, rfl, ⟨_, rfl⟩, hW, hframe⟩
  jvm_step X.here [X.here.top, hx, hb, hdg, hmeth', hr, ret, narrow_b1]
  (try refine ⟨rfl, ?_⟩); (try refine ⟨rfl, ?_⟩)
  first | (intro acts; rw [hret _ acts rfl rfl rfl]) | rw [hret _ _ rfl rfl rfl]
  exact Steps.refl _
/-- what holds at the law's entry: the machine, the code, the tables' words (any of lw_tbl by 'hts w (by decide +kernel)'), the script of L ints xs at the cell b, what the Statement gives of the start (any of its parts by flat_of_before) -/
def lw_At (p : Program) (s : State) (m : MethodId) (meth : Method) (c : Code) (b L : Nat) (xs : Nat → Int32) : Prop :=
  p.tables.exec = Jvm.exec ∧ c.code = code ∧ meth.sig.returnType = ret ∧ c.maxLocals = 7 ∧ s.vm.findClass R_law = some m.cls ∧ (∀ w ∈ lw_tbl, w.before #[Value.ref b] s = true) ∧ va_X b L xs s s.heap ∧ b < s.heap.size ∧ meth.locks = false ∧ (Jvm.Cond.and given_1 narrow_1).before #[Value.ref b] s = true

theorem lw_end {p : Program} {l : Launch} {e : Env} {s : State} {m : MethodId} {below : List Frame} {meth : Method} {c : Code} {A : Nat → Prop} {G : vv_G} {b : Nat} {nm : String} {pc kc ks : Nat} {lv : List (Nat × Value)} {ws : va_W} (F : vv_F p s m #[Value.ref b] meth c zc_LA_law "ClauseGraphLaw" nm (some .boolean) G A 7) (hA : ∀ q, A q → s.heap.size ≤ q) (hk : kc ≤ room_1.cells ∧ ks ≤ room_1.slots) (hdg : decode zc_LA_law pc = .ok (.ireturn, 1)) :
    vv_V p l e room_1 s m #[Value.ref b] below meth c G A 7 (lw_Z below #[Value.ref b] s) pc lv [.int (iI 1)] ws kc ks := by
  intro H locs ls hP hD hS hl T hT X
  obtain ⟨fs, hret, hrun, hended, hW, hframe⟩ := X.leave (v := some (.int 1)) (hlocks := F.2.2.2.1) (fun h => by rw [F.2.2.2.2.1] at h; cases h)
  have hmeth' : T.vm.method? m = some meth := X.method'
  have e1 : iI 1 = 1 := by decide
  rw [e1]
  refine ⟨T.setFrames fs, ?_, .returned (some (.int 1)), hrun, hended, rfl, ⟨_, rfl⟩, hW, (sbn_nil hframe (fun q hq => hA _ (hS.2.2 q hq))).mono hk.1 hk.2⟩
  have hr := F.2.2.2.2.1
  jvm_step X.here [X.here.top, F.1.1, F.1.2.1, hdg, hmeth', hr, narrow_b1]
  (try refine ⟨rfl, ?_⟩); (try refine ⟨rfl, ?_⟩)
  first | (intro acts; rw [hret _ acts rfl rfl rfl]) | rw [hret _ _ rfl rfl rfl]
  exact Steps.refl _

set_option maxHeartbeats 4000000 in
set_option maxRecDepth 100000 in
theorem lw_loop {p : Program} {l : Launch} {e : Env} {s : State} {m : MethodId} {below : List Frame} {meth : Method} {c : Code} {A : Nat → Prop} {G : vv_G} {b : Nat} {nm : String} (hl : l.stackTraces = false) (F : vv_F p s m #[Value.ref b] meth c zc_LA_law "ClauseGraphLaw" nm (some .boolean) G A 7) (E : vt_F s A) (hA : ∀ q, A q → s.heap.size ≤ q) {cg : Nat} {y : Nat} {wt : Nat} {cn : Nat} {sm : Nat} {gs : Nat} {gb : Nat} {x : Nat} {w : Nat} {qa : Nat} {ra : Nat} {sa : Nat} {sb : Nat} {fa : Nat} {fb : Nat} {go : Nat} {ta : Nat} {tb : Nat} {o : Nat} {ah : Nat} {ab : Nat} {bh : Nat} {bb : Nat} {so : Nat} {nb : Nat} {ls : Nat} {cr : Nat} {a1R : Nat} {a2R : Nat} {stR : Nat} {sbR : Nat} {oR : Nat} {ahR : Nat} {abR : Nat} {bhR : Nat} {bbR : Nat} {soR : Nat} {wR : Nat} {qaR : Nat} {raR : Nat} {saR : Nat} {scR : Nat} {faR : Nat} {fbR : Nat} {hsR : Nat} {hbR : Nat} {mo : Nat} {tha : Nat} {rea : Nat} {poa : Nat} {cha : Nat} {goa : Nat} {lea : Nat} {fia : Nat} {sea : Nat} {sta : Nat} {lda : Nat} {vla : Nat} {dia : Nat} {qua : Nat} {ou : Nat} {L : Nat} {xs : Nat → Int32} (hX : va_X b L xs s s.heap ∧ ¬ A b) (hL : L ≤ 1536) :
    ∀ (d j kc ks : Nat) (cs : Int) (mn : Int) (W : Nat → Int) (C : Nat → Int) (g : Nat → Int) (Z : Nat → Nat → Bool) (ac : Int) (rk : Bool) (n : Int) (ch : Int) (q : Nat → Int) (r : Nat → Int) (S : Nat → Nat → Bool) (Fr : Nat → Nat → Bool) (gf : Nat → Int) (B : Nat → Nat → Bool) (H : Nat → Nat → Bool) (K : Nat → Nat → Bool) (f : Nat → Int) (Nb : Nat → Int) (Ls : Nat → Int) (tk : Int) (fl : Int) (rn : Bool) (sr : Int) (lr : Int) (nv : Int) (mm : Int) (f1 : Nat → Int) (f2 : Nat → Int) (T : Nat → Nat → Bool) (HR : Nat → Nat → Bool) (KR : Nat → Nat → Bool) (fR : Nat → Int) (qR : Nat → Int) (rR : Nat → Int) (SR : Nat → Nat → Bool) (FR : Nat → Nat → Bool) (Y : Nat → Nat → Bool) (th : Int) (gk : Bool) (mnm : Int) (ck : Bool) (gd : Bool) (flm : Int) (Hm : Nat → Nat → Bool) (Nbm : Nat → Int) (Cm : Nat → Int) (Dm : Nat → Nat → Bool) (Lsm : Nat → Int) (m1 : Nat → Int) (m2 : Nat → Int) (Sm : Nat → Nat → Bool) (Ld : Nat → Nat → Bool) (V : Nat → Int) (Di : Nat → Int) (Qu : Nat → Int) (fo : Nat → Int64), (L : Int) < 3 * (j : Int) + 3 * (d : Int) + 3 → j + d ≤ 512 → kc + d ≤ room_1.cells → ks + 6 * d ≤ room_1.slots → gC (j : Int) B n ac rk ch H K cs mn Nb Ls → gM B n gk Hm Nbm Lsm mnm Dm Cm → rC nv mm tk fl rn sr lr f1 f2 T HR KR → rM nv mm f1 f2 ck m1 m2 Sm Ld V gd flm → vv_V p l e room_1 s m #[Value.ref b] below meth c G A 7 (lw_Z below #[Value.ref b] s) 23 [(0, .ref b), (1, .ref cg), (2, .ref mo), (3, .ref ou), (4, .int (iI (3 * (j : Int))))] [] [ceO 0 cg [.ref y, .ref x, .ref cr], ceO 3 y [.ref wt, .ref cn, .ref sm, .ref gs, .int (iI cs), .ref x, .ref nb, .ref ls, .int (iI mn)], ceI G wt 160 W, ceI G cn 160 C, ceI G sm 160 g, ceO 5 gs [.ref gb], ceJ G gb 3 (tw Z), ceO 2 x [.ref w, .ref go, .int (iI ac), .int (iI (bZ rk)), .ref ta, .ref o, .int (iI n), .int (iI ch)], ceO 6 w [.ref qa, .ref ra, .ref sa, .ref fa], ceI G qa 160 q, ceI G ra 160 r, ceO 5 sa [.ref sb], ceJ G sb 3 (tw S), ceO 5 fa [.ref fb], ceJ G fb 3 (tw Fr), ceI G go 160 gf, ceO 5 ta [.ref tb], ceJ G tb 480 (tw B), ceO 4 o [.ref ah, .ref bh, .ref so], ceO 5 ah [.ref ab], ceJ G ab 480 (tw H), ceO 5 bh [.ref bb], ceJ G bb 480 (tw K), ceI G so 160 f, ceI G nb 160 Nb, ceI G ls 160 Ls, ceO 1 cr [.ref a1R, .ref a2R, .ref stR, .ref oR, .ref wR, .ref hsR, .int (iI tk), .int (iI fl), .int (iI (bZ rn)), .int (iI sr), .int (iI lr), .int (iI nv), .int (iI mm)], ceI G a1R 400 f1, ceI G a2R 400 f2, ceO 5 stR [.ref sbR], ceJ G sbR 480 (tw T), ceO 4 oR [.ref ahR, .ref bhR, .ref soR], ceO 5 ahR [.ref abR], ceJ G abR 480 (tw HR), ceO 5 bhR [.ref bbR], ceJ G bbR 480 (tw KR), ceI G soR 160 fR, ceO 6 wR [.ref qaR, .ref raR, .ref saR, .ref faR], ceI G qaR 160 qR, ceI G raR 160 rR, ceO 5 saR [.ref scR], ceJ G scR 3 (tw SR), ceO 5 faR [.ref fbR], ceJ G fbR 3 (tw FR), ceO 5 hsR [.ref hbR], ceJ G hbR 3 (tw Y), ceO 7 mo [.int (iI th), .int (iI n), .int (iI ac), .ref tha, .int (iI (bZ gk)), .ref rea, .ref poa, .int (iI mnm), .ref cha, .ref goa, .ref lea, .int (iI nv), .int (iI mm), .ref fia, .ref sea, .int (iI (bZ ck)), .ref sta, .ref lda, .ref vla, .int (iI (bZ gd)), .int (iI flm), .ref dia, .ref qua], ceZ G tha 25600 (fz B), ceZ G rea 25600 (fz Hm), ceI G poa 160 Nbm, ceI G cha 160 Cm, ceZ G goa 25600 (fz Dm), ceI G lea 160 Lsm, ceI G fia 400 m1, ceI G sea 400 m2, ceZ G sta 25600 (fz Sm), ceZ G lda 25600 (fz Ld), ceI G vla 160 V, ceI G dia 160 Di, ceI G qua 160 Qu, ceJ G ou 1 fo] kc ks := by
  intro d
  induction d with
  | zero =>
    intro j kc ks cs mn W C g Z ac rk n ch q r S Fr gf B H K f Nb Ls tk fl rn sr lr nv mm f1 f2 T HR KR fR qR rR SR FR Y th gk mnm ck gd flm Hm Nbm Cm Dm Lsm m1 m2 Sm Ld V Di Qu fo hd hjd hc1 hc2 hC hM hR hN
    refine vv_iload F zd_LA_law_23 4 rfl ?_
    refine vv_aload_n F zd_LA_law_25 rfl 0 rfl ?_
    refine vv_xlen F hX zd_LA_law_26 ?_
    refine vv_iconst F zd_LA_law_27 ?_
    refine vv_isub F zd_LA_law_28 ?_
    refine vv_icmp_gt (tgt := 1105) F zd_LA_law_29 rfl (by first | exact ⟨by omega, by omega⟩ | exact hswr) (by first | exact ⟨by omega, by omega⟩ | exact hswr) (fun _ => ?_) (fun h9 => absurd h9 (by omega))
    refine vv_iconst F zd_LA_law_1105 ?_
    exact lw_end F hA ⟨by omega, by omega⟩ zd_LA_law_1106
  | succ d ih =>
    intro j kc ks cs mn W C g Z ac rk n ch q r S Fr gf B H K f Nb Ls tk fl rn sr lr nv mm f1 f2 T HR KR fR qR rR SR FR Y th gk mnm ck gd flm Hm Nbm Cm Dm Lsm m1 m2 Sm Ld V Di Qu fo hd hjd hc1 hc2 hC hM hR hN
    have kk : ∀ (cs : Int) (mn : Int) (W : Nat → Int) (C : Nat → Int) (g : Nat → Int) (Z : Nat → Nat → Bool) (ac : Int) (rk : Bool) (n : Int) (ch : Int) (q : Nat → Int) (r : Nat → Int) (S : Nat → Nat → Bool) (Fr : Nat → Nat → Bool) (gf : Nat → Int) (B : Nat → Nat → Bool) (H : Nat → Nat → Bool) (K : Nat → Nat → Bool) (f : Nat → Int) (Nb : Nat → Int) (Ls : Nat → Int) (tk : Int) (fl : Int) (rn : Bool) (sr : Int) (lr : Int) (nv : Int) (mm : Int) (f1 : Nat → Int) (f2 : Nat → Int) (T : Nat → Nat → Bool) (HR : Nat → Nat → Bool) (KR : Nat → Nat → Bool) (fR : Nat → Int) (qR : Nat → Int) (rR : Nat → Int) (SR : Nat → Nat → Bool) (FR : Nat → Nat → Bool) (Y : Nat → Nat → Bool) (th : Int) (gk : Bool) (mnm : Int) (ck : Bool) (gd : Bool) (flm : Int) (Hm : Nat → Nat → Bool) (Nbm : Nat → Int) (Cm : Nat → Int) (Dm : Nat → Nat → Bool) (Lsm : Nat → Int) (m1 : Nat → Int) (m2 : Nat → Int) (Sm : Nat → Nat → Bool) (Ld : Nat → Nat → Bool) (V : Nat → Int) (Di : Nat → Int) (Qu : Nat → Int) (fo : Nat → Int64), gC ((j : Int) + 1) B n ac rk ch H K cs mn Nb Ls → gM B n gk Hm Nbm Lsm mnm Dm Cm → rC nv mm tk fl rn sr lr f1 f2 T HR KR → rM nv mm f1 f2 ck m1 m2 Sm Ld V gd flm → vv_V p l e room_1 s m #[Value.ref b] below meth c G A 7 (lw_Z below #[Value.ref b] s) 1099 [(0, .ref b), (1, .ref cg), (2, .ref mo), (3, .ref ou), (4, .int (iI (3 * (j : Int))))] [] [ceO 0 cg [.ref y, .ref x, .ref cr], ceO 3 y [.ref wt, .ref cn, .ref sm, .ref gs, .int (iI cs), .ref x, .ref nb, .ref ls, .int (iI mn)], ceI G wt 160 W, ceI G cn 160 C, ceI G sm 160 g, ceO 5 gs [.ref gb], ceJ G gb 3 (tw Z), ceO 2 x [.ref w, .ref go, .int (iI ac), .int (iI (bZ rk)), .ref ta, .ref o, .int (iI n), .int (iI ch)], ceO 6 w [.ref qa, .ref ra, .ref sa, .ref fa], ceI G qa 160 q, ceI G ra 160 r, ceO 5 sa [.ref sb], ceJ G sb 3 (tw S), ceO 5 fa [.ref fb], ceJ G fb 3 (tw Fr), ceI G go 160 gf, ceO 5 ta [.ref tb], ceJ G tb 480 (tw B), ceO 4 o [.ref ah, .ref bh, .ref so], ceO 5 ah [.ref ab], ceJ G ab 480 (tw H), ceO 5 bh [.ref bb], ceJ G bb 480 (tw K), ceI G so 160 f, ceI G nb 160 Nb, ceI G ls 160 Ls, ceO 1 cr [.ref a1R, .ref a2R, .ref stR, .ref oR, .ref wR, .ref hsR, .int (iI tk), .int (iI fl), .int (iI (bZ rn)), .int (iI sr), .int (iI lr), .int (iI nv), .int (iI mm)], ceI G a1R 400 f1, ceI G a2R 400 f2, ceO 5 stR [.ref sbR], ceJ G sbR 480 (tw T), ceO 4 oR [.ref ahR, .ref bhR, .ref soR], ceO 5 ahR [.ref abR], ceJ G abR 480 (tw HR), ceO 5 bhR [.ref bbR], ceJ G bbR 480 (tw KR), ceI G soR 160 fR, ceO 6 wR [.ref qaR, .ref raR, .ref saR, .ref faR], ceI G qaR 160 qR, ceI G raR 160 rR, ceO 5 saR [.ref scR], ceJ G scR 3 (tw SR), ceO 5 faR [.ref fbR], ceJ G fbR 3 (tw FR), ceO 5 hsR [.ref hbR], ceJ G hbR 3 (tw Y), ceO 7 mo [.int (iI th), .int (iI n), .int (iI ac), .ref tha, .int (iI (bZ gk)), .ref rea, .ref poa, .int (iI mnm), .ref cha, .ref goa, .ref lea, .int (iI nv), .int (iI mm), .ref fia, .ref sea, .int (iI (bZ ck)), .ref sta, .ref lda, .ref vla, .int (iI (bZ gd)), .int (iI flm), .ref dia, .ref qua], ceZ G tha 25600 (fz B), ceZ G rea 25600 (fz Hm), ceI G poa 160 Nbm, ceI G cha 160 Cm, ceZ G goa 25600 (fz Dm), ceI G lea 160 Lsm, ceI G fia 400 m1, ceI G sea 400 m2, ceZ G sta 25600 (fz Sm), ceZ G lda 25600 (fz Ld), ceI G vla 160 V, ceI G dia 160 Di, ceI G qua 160 Qu, ceJ G ou 1 fo] (kc + 1) (ks + 6) := by
      intro cs mn W C g Z ac rk n ch q r S Fr gf B H K f Nb Ls tk fl rn sr lr nv mm f1 f2 T HR KR fR qR rR SR FR Y th gk mnm ck gd flm Hm Nbm Cm Dm Lsm m1 m2 Sm Ld V Di Qu fo hC hM hR hN
      refine vv_iinc (j := 4) (lv' := [(0, .ref b), (1, .ref cg), (2, .ref mo), (3, .ref ou), (4, .int (iI ((3 * (j : Int)) + 3)))]) F zd_LA_law_1099 rfl (by decide) [1, 2, 3, 4, 0] rfl ?_
      refine vv_goto (tgt := 23) F zd_LA_law_1102 rfl ?_
      have e3 : (3 * (j : Int)) + 3 = 3 * ((j + 1 : Nat) : Int) := by omega
      rw [e3]
      exact ih (j + 1) (kc + 1) (ks + 6) cs mn W C g Z ac rk n ch q r S Fr gf B H K f Nb Ls tk fl rn sr lr nv mm f1 f2 T HR KR fR qR rR SR FR Y th gk mnm ck gd flm Hm Nbm Cm Dm Lsm m1 m2 Sm Ld V Di Qu fo (by omega) (by omega) (by omega) (by omega) (by rw [show ((j + 1 : Nat) : Int) = (j : Int) + 1 from by omega]; exact hC) hM hR hN
    refine vv_iload F zd_LA_law_23 4 rfl ?_
    refine vv_aload_n F zd_LA_law_25 rfl 0 rfl ?_
    refine vv_xlen F hX zd_LA_law_26 ?_
    refine vv_iconst F zd_LA_law_27 ?_
    refine vv_isub F zd_LA_law_28 ?_
    refine vv_icmp_gt (tgt := 1105) F zd_LA_law_29 rfl (by first | exact ⟨by omega, by omega⟩ | exact hswr) (by first | exact ⟨by omega, by omega⟩ | exact hswr) (fun h1 => ?_) (fun h1 => ?_)
    · refine vv_iconst F zd_LA_law_1105 ?_
      exact lw_end F hA ⟨by omega, by omega⟩ zd_LA_law_1106
    · refine vv_aload_n F zd_LA_law_32 rfl 0 rfl ?_
      refine vv_iload F zd_LA_law_33 4 rfl ?_
      refine vv_xald F hX zd_LA_law_35 ⟨by omega, by omega⟩ (by omega) ?_
      refine vv_bipush F zd_LA_law_36 (by decide) ?_
      refine vv_iand (z := ((iI ((xs (3 * (j : Int)).toNat).toInt)) &&& iI 31).toInt) F zd_LA_law_38 (iI_of _).symm ?_
      obtain ⟨sw, hsw⟩ : ∃ sw : Int, ((iI ((xs (3 * (j : Int)).toNat).toInt)) &&& iI 31).toInt = sw := ⟨_, rfl⟩
      have hswr : rg sw := hsw ▸ rg_of _
      refine vv_ti hsw ?_
      rcases (show (sw < 0 ∨ 20 < sw) ∨ sw = 0 ∨ sw = 1 ∨ sw = 2 ∨ sw = 3 ∨ sw = 4 ∨ sw = 5 ∨ sw = 6 ∨ sw = 7 ∨ sw = 8 ∨ sw = 9 ∨ sw = 10 ∨ sw = 11 ∨ sw = 12 ∨ sw = 13 ∨ sw = 14 ∨ sw = 15 ∨ sw = 16 ∨ sw = 17 ∨ sw = 18 ∨ sw = 19 ∨ sw = 20 by omega) with h2 | h2 | h2 | h2 | h2 | h2 | h2 | h2 | h2 | h2 | h2 | h2 | h2 | h2 | h2 | h2 | h2 | h2 | h2 | h2 | h2 | h2
      · refine vv_tableOut (tgt := 1099) F zd_LA_law_39 (by first | exact ⟨by omega, by omega⟩ | exact hswr) h2 rfl ?_
        refine vv_widen (kc' := kc + 1) (ks' := ks + 6) (Nat.le_add_right _ _) (Nat.le_add_right _ _) ?_
        exact kk cs mn W C g Z ac rk n ch q r S Fr gf B H K f Nb Ls tk fl rn sr lr nv mm f1 f2 T HR KR fR qR rR SR FR Y th gk mnm ck gd flm Hm Nbm Cm Dm Lsm m1 m2 Sm Ld V Di Qu fo (gC_next hC) hM hR hN
      · refine vv_tableIn (tgt := 136) F zd_LA_law_39 (by first | exact ⟨by omega, by omega⟩ | exact hswr) (by omega) (by omega) (by rw [h2]; rfl) rfl ?_
        exact lw_c0 hl F E hX hL (by omega) rfl rfl (rg_of _) (rg_of _) ⟨by omega, by omega⟩ hC hM hR hN kk
      · refine vv_tableIn (tgt := 172) F zd_LA_law_39 (by first | exact ⟨by omega, by omega⟩ | exact hswr) (by omega) (by omega) (by rw [h2]; rfl) rfl ?_
        exact lw_c1 hl F E hX hL (by omega) rfl rfl (rg_of _) (rg_of _) ⟨by omega, by omega⟩ hC hM hR hN kk
      · refine vv_tableIn (tgt := 240) F zd_LA_law_39 (by first | exact ⟨by omega, by omega⟩ | exact hswr) (by omega) (by omega) (by rw [h2]; rfl) rfl ?_
        exact lw_c2 hl F E hX hL (by omega) rfl rfl (rg_of _) (rg_of _) ⟨by omega, by omega⟩ hC hM hR hN kk
      · refine vv_tableIn (tgt := 315) F zd_LA_law_39 (by first | exact ⟨by omega, by omega⟩ | exact hswr) (by omega) (by omega) (by rw [h2]; rfl) rfl ?_
        exact lw_c3 hl F E hX hL (by omega) rfl rfl (rg_of _) (rg_of _) ⟨by omega, by omega⟩ hC hM hR hN kk
      · refine vv_tableIn (tgt := 328) F zd_LA_law_39 (by first | exact ⟨by omega, by omega⟩ | exact hswr) (by omega) (by omega) (by rw [h2]; rfl) rfl ?_
        exact lw_c4 hl F E hX hL (by omega) rfl rfl (rg_of _) (rg_of _) ⟨by omega, by omega⟩ hC hM hR hN kk
      · refine vv_tableIn (tgt := 384) F zd_LA_law_39 (by first | exact ⟨by omega, by omega⟩ | exact hswr) (by omega) (by omega) (by rw [h2]; rfl) rfl ?_
        exact lw_c5 hl F E hX hL (by omega) rfl rfl (rg_of _) (rg_of _) ⟨by omega, by omega⟩ hC hM hR hN kk
      · refine vv_tableIn (tgt := 452) F zd_LA_law_39 (by first | exact ⟨by omega, by omega⟩ | exact hswr) (by omega) (by omega) (by rw [h2]; rfl) rfl ?_
        exact lw_c6 hl F E hX hL (by omega) rfl rfl (rg_of _) (rg_of _) ⟨by omega, by omega⟩ hC hM hR hN kk
      · refine vv_tableIn (tgt := 527) F zd_LA_law_39 (by first | exact ⟨by omega, by omega⟩ | exact hswr) (by omega) (by omega) (by rw [h2]; rfl) rfl ?_
        exact lw_c7 hl F E hX hL (by omega) rfl rfl (rg_of _) (rg_of _) ⟨by omega, by omega⟩ hC hM hR hN kk
      · refine vv_tableIn (tgt := 595) F zd_LA_law_39 (by first | exact ⟨by omega, by omega⟩ | exact hswr) (by omega) (by omega) (by rw [h2]; rfl) rfl ?_
        exact lw_c8 hl F E hX hL (by omega) rfl rfl (rg_of _) (rg_of _) ⟨by omega, by omega⟩ hC hM hR hN kk
      · refine vv_tableIn (tgt := 663) F zd_LA_law_39 (by first | exact ⟨by omega, by omega⟩ | exact hswr) (by omega) (by omega) (by rw [h2]; rfl) rfl ?_
        exact lw_c9 hl F E hX hL (by omega) rfl rfl (rg_of _) (rg_of _) ⟨by omega, by omega⟩ hC hM hR hN kk
      · refine vv_tableIn (tgt := 676) F zd_LA_law_39 (by first | exact ⟨by omega, by omega⟩ | exact hswr) (by omega) (by omega) (by rw [h2]; rfl) rfl ?_
        exact lw_c10 hl F E hX hL (by omega) rfl rfl (rg_of _) (rg_of _) ⟨by omega, by omega⟩ hC hM hR hN kk
      · refine vv_tableIn (tgt := 712) F zd_LA_law_39 (by first | exact ⟨by omega, by omega⟩ | exact hswr) (by omega) (by omega) (by rw [h2]; rfl) rfl ?_
        exact lw_c11 hl F E hX hL (by omega) rfl rfl (rg_of _) (rg_of _) ⟨by omega, by omega⟩ hC hM hR hN kk
      · refine vv_tableIn (tgt := 780) F zd_LA_law_39 (by first | exact ⟨by omega, by omega⟩ | exact hswr) (by omega) (by omega) (by rw [h2]; rfl) rfl ?_
        exact lw_c12 hl F E hX hL (by omega) rfl rfl (rg_of _) (rg_of _) ⟨by omega, by omega⟩ hC hM hR hN kk
      · refine vv_tableIn (tgt := 816) F zd_LA_law_39 (by first | exact ⟨by omega, by omega⟩ | exact hswr) (by omega) (by omega) (by rw [h2]; rfl) rfl ?_
        exact lw_c13 hl F E hX hL (by omega) rfl rfl (rg_of _) (rg_of _) ⟨by omega, by omega⟩ hC hM hR hN kk
      · refine vv_tableIn (tgt := 829) F zd_LA_law_39 (by first | exact ⟨by omega, by omega⟩ | exact hswr) (by omega) (by omega) (by rw [h2]; rfl) rfl ?_
        exact lw_c14 hl F E hX hL (by omega) rfl rfl (rg_of _) (rg_of _) ⟨by omega, by omega⟩ hC hM hR hN kk
      · refine vv_tableIn (tgt := 885) F zd_LA_law_39 (by first | exact ⟨by omega, by omega⟩ | exact hswr) (by omega) (by omega) (by rw [h2]; rfl) rfl ?_
        exact lw_c15 hl F E hX hL (by omega) rfl rfl (rg_of _) (rg_of _) ⟨by omega, by omega⟩ hC hM hR hN kk
      · refine vv_tableIn (tgt := 941) F zd_LA_law_39 (by first | exact ⟨by omega, by omega⟩ | exact hswr) (by omega) (by omega) (by rw [h2]; rfl) rfl ?_
        exact lw_c16 hl F E hX hL (by omega) rfl rfl (rg_of _) (rg_of _) ⟨by omega, by omega⟩ hC hM hR hN kk
      · refine vv_tableIn (tgt := 1016) F zd_LA_law_39 (by first | exact ⟨by omega, by omega⟩ | exact hswr) (by omega) (by omega) (by rw [h2]; rfl) rfl ?_
        exact lw_c17 hl F E hX hL (by omega) rfl rfl (rg_of _) (rg_of _) ⟨by omega, by omega⟩ hC hM hR hN kk
      · refine vv_tableIn (tgt := 1029) F zd_LA_law_39 (by first | exact ⟨by omega, by omega⟩ | exact hswr) (by omega) (by omega) (by rw [h2]; rfl) rfl ?_
        exact lw_c18 hl F E hX hL (by omega) rfl rfl (rg_of _) (rg_of _) ⟨by omega, by omega⟩ hC hM hR hN kk
      · refine vv_tableIn (tgt := 1042) F zd_LA_law_39 (by first | exact ⟨by omega, by omega⟩ | exact hswr) (by omega) (by omega) (by rw [h2]; rfl) rfl ?_
        exact lw_c19 hl F E hX hL (by omega) rfl rfl (rg_of _) (rg_of _) ⟨by omega, by omega⟩ hC hM hR hN kk
      · refine vv_tableIn (tgt := 1055) F zd_LA_law_39 (by first | exact ⟨by omega, by omega⟩ | exact hswr) (by omega) (by omega) (by rw [h2]; rfl) rfl ?_
        exact lw_c20 hl F E hX hL (by omega) rfl rfl (rg_of _) (rg_of _) ⟨by omega, by omega⟩ hC hM hR hN kk

theorem lw_G {args : Array Value} {s : State} (h : ∀ w ∈ zW, w.before args s = true) : ∃ G : vv_G, va_K G.1 zC (vv_t G) s := by
  have hk : ∀ c : Nat, ∃ D : ClassId × (Nat → Nat), ∀ q : vw_C, zC[c]? = some q → u_Kn s q.1 q.2.1 q.2.2 D.1 D.2 := by
    intro c
    rcases (show c = 0 ∨ c = 1 ∨ c = 2 ∨ c = 3 ∨ c = 4 ∨ c = 5 ∨ c = 6 ∨ c = 7 ∨ 8 ≤ c by omega) with rfl | rfl | rfl | rfl | rfl | rfl | rfl | rfl | hc
    · obtain ⟨cC, iS, hu⟩ := u_known h zf_CG (h _ zw_20)
      exact ⟨(cC, iS), fun q hq => by cases hq; exact hu⟩
    · obtain ⟨cC, iS, hu⟩ := u_known h zf_CR (h _ zw_178)
      exact ⟨(cC, iS), fun q hq => by cases hq; exact hu⟩
    · obtain ⟨cC, iS, hu⟩ := u_known h zf_NE (h _ zw_46)
      exact ⟨(cC, iS), fun q hq => by cases hq; exact hu⟩
    · obtain ⟨cC, iS, hu⟩ := u_known h zf_PA (h _ zw_28)
      exact ⟨(cC, iS), fun q hq => by cases hq; exact hu⟩
    · obtain ⟨cC, iS, hu⟩ := u_known h zf_RE (h _ zw_75)
      exact ⟨(cC, iS), fun q hq => by cases hq; exact hu⟩
    · obtain ⟨cC, iS, hu⟩ := u_known h zf_TA (h _ zw_34)
      exact ⟨(cC, iS), fun q hq => by cases hq; exact hu⟩
    · obtain ⟨cC, iS, hu⟩ := u_known h zf_WA (h _ zw_52)
      exact ⟨(cC, iS), fun q hq => by cases hq; exact hu⟩
    · obtain ⟨cC, iS, hu⟩ := u_known h zf_MO (h _ zw_751)
      exact ⟨(cC, iS), fun q hq => by cases hq; exact hu⟩
    · exact ⟨(0, fun _ => 0), fun q hq => by rw [List.getElem?_eq_none (by show 8 ≤ c; exact hc)] at hq; cases hq⟩
  have ha : ∀ ty : FieldType, Cond.arrayClass ty ∈ zW → ∃ cA : ClassId, ArrOfT s cA ty ∧ s.vm.findClass ("[" ++ ty.toString) = some cA := by
    intro ty hw
    obtain ⟨cA, kA, comp, h1, h2, h3⟩ := Cond.arrayClass_spec (h _ hw)
    exact ⟨cA, fun n z => ⟨fun k h => (by cases h), kA, h2, comp, h3⟩, h1⟩
  obtain ⟨cI, i1, i2⟩ := ha .int zw_43
  obtain ⟨cJ, j1, j2⟩ := ha .long zw_44
  obtain ⟨cZ, z1, z2⟩ := ha .boolean zw_826
  refine ⟨((fun c => (Classical.choose (hk c)).1, fun c => (Classical.choose (hk c)).2), cI, cJ, cZ), fun c q hq => Classical.choose_spec (hk c) q hq, fun k q hq => ?_⟩
  rcases (show k = 0 ∨ k = 1 ∨ k = 2 ∨ 3 ≤ k by omega) with rfl | rfl | rfl | hc
  · cases hq; exact ⟨i1, i2⟩
  · cases hq; exact ⟨j1, j2⟩
  · cases hq; exact ⟨z1, z2⟩
  · rw [List.getElem?_eq_none (by show 3 ≤ k; exact hc)] at hq; cases hq

theorem lw_g0 : gC ((0 : Nat) : Int) (fun _ _ => false) 1 0 true (0 + 1) (idB 1) (idB 1) 0 0 (fun _ => 0) (fun _ => 0) := by
  rw [show ((0 : Nat) : Int) = -1 + 1 from rfl, show idB 1 = idB (1 : Int).toNat from rfl]
  exact gC_begin ⟨by omega, by omega⟩ ⟨by omega, by omega, by omega⟩
theorem str_R {o t : String} {k : Nat} {args : Array Value} {s : State} (h : (Cond.stringRef o k t).before args s = true) : ∃ a : Nat, vk_R o k t a s := by
  have h0 : (Cond.stringRef o k t).before #[] s = true := str_any h
  have h1 := h0
  simp only [Cond.before, Cond.holds, Cond.value] at h1
  cases hc : s.vm.findClass o with
  | none => simp [hc] at h1
  | some cur =>
    obtain ⟨-, -, -, a, -, -, -, -, -, hev⟩ := Cond.stringRef_spec hc h0
    exact ⟨a, vk_R.of h0 hev⟩
theorem xn_of {C D : String} {args : Array Value} {s : State} (h : (Cond.not (.castable C D)).before args s = true) : xn C D s := by
  simp only [Cond.before, Cond.holds, Cond.value] at h
  cases h1 : s.vm.findClass C with
  | none => simp [h1] at h
  | some c1 =>
    cases h2 : s.vm.findClass D with
    | none => simp [h1, h2] at h
    | some d1 => exact ⟨c1, d1, h1, h2, by simpa [h1, h2] using h⟩
theorem lw_X {b : Nat} {s : State} (hts : ∀ w ∈ lw_tbl, w.before #[Value.ref b] s = true) (hgv : (Jvm.Cond.and given_1 narrow_1).before #[Value.ref b] s = true) : xE s := by
  have hs := flat_of_before _ hgv
  have ht : ∀ (i : Nat) (w : Cond), tables_1[i]? = some w → w.before #[Value.ref b] s = true := fun i w h => hts w (List.mem_append_right _ (List.mem_of_getElem? h))
  refine ⟨xs.of (ht 445 _ (by decide +kernel)) (hs _ (by decide +kernel)), xs.of (ht 447 _ (by decide +kernel)) (hs _ (by decide +kernel)), fun o k t hw => str_R (hts _ (List.mem_filter.mp hw).1), xn_of (hs _ (by decide +kernel)), xn_of (hs _ (by decide +kernel))⟩

set_option maxHeartbeats 4000000 in
set_option maxRecDepth 100000 in
theorem whole_start {p : Program} {e : Env} {s : State} {m : MethodId} {below : List Frame} {meth : Method} {c : Code} (l : Launch) (hl : l.stackTraces = false) {b L : Nat} {xs : Nat → Int32} (hL : L ≤ 1536) (C0 : lw_At p s m meth c b L xs) : W p l e room_1 s m #[Value.ref b] below meth c s.heap [] 0 0 (lw_Z below #[Value.ref b] s) (entryFrame m ([Value.ref b] : List Value).toArray 7) := by
  obtain ⟨hx, hb, hr, hml, hown, hts, hX0, hbl, hlk, hgv⟩ := C0
  obtain ⟨G, hK⟩ := lw_G (zW_in hts)
  have F : vv_F p s m #[Value.ref b] meth c zc_LA_law "ClauseGraphLaw" meth.name (some .boolean) G (fun q => s.heap.size ≤ q) 7 := ⟨⟨hx, hb, hml, hown, zW_in hts⟩, hK, fun q h => h, hlk, hr, rfl, zE_of hts⟩
  have E : vt_F s (fun q => s.heap.size ≤ q) := ⟨lw_X hts hgv, fun q cell h1 _ h2 => absurd (Array.getElem?_eq_some_iff.mp h1).1 (Nat.not_lt.mpr h2)⟩
  have hX : va_X b L xs s s.heap ∧ ¬ (s.heap.size ≤ b) := ⟨hX0, Nat.not_le.mpr hbl⟩
  have he := lv_entry ([Value.ref b] : List Value) (n := 7) (Nat.le_of_ble_eq_true rfl)
  have hv : vv_V p l e room_1 s m #[Value.ref b] below meth c G (fun q => s.heap.size ≤ q) 7 (lw_Z below #[Value.ref b] s) 0 [(0, .ref b)] [] [] 0 0 := by
    refine vv_new (ci := 0) (fs := [.null, .null, .null]) F zd_LA_law_0 zf_CG zt_CG_ok zw_19 zw_20 zw_1 rfl (fun j hj => by rcases (show j = 0 ∨ j = 1 ∨ j = 2 by omega) with rfl | rfl | rfl <;> rfl) (by decide) (by decide) (fun a1 => ?_)
    show vv_V _ _ _ _ _ _ _ _ _ _ _ _ _ _ _ [(0, .ref b)] [.ref a1] [ceO 0 a1 [.null, .null, .null]] 1 3
    refine vv_dup F zd_LA_law_3 rfl ?_
    refine vv_callI (As := []) (rest := [.ref a1]) (wr := []) F (cn_CG_init l G a1) zm_CG_init ⟨rfl, zw_22⟩ zw_21 zd_LA_law_4 ⟨by decide, by decide⟩ ⟨by decide, by decide⟩ [0] [] rfl rfl ⟨rfl, rfl, by decide⟩ rfl rfl (Nat.le_of_ble_eq_true rfl) (fun v9 w9 hp9 => ?_)
    obtain ⟨y_2, wt_3, cn_4, sm_5, gs_6, gb_7, x_8, w_9, qa_10, ra_11, sa_12, sb_13, fa_14, fb_15, go_16, ta_17, tb_18, o_19, ah_20, ab_21, bh_22, bb_23, so_24, nb_25, ls_26, cr_27, a1R_28, a2R_29, stR_30, sbR_31, oR_32, ahR_33, abR_34, bhR_35, bbR_36, soR_37, wR_38, qaR_39, raR_40, saR_41, scR_42, faR_43, fbR_44, hsR_45, hbR_46, rfl, rfl⟩ := hp9
    refine vv_thenE (ws' := [ceO 0 a1 [.ref y_2, .ref x_8, .ref cr_27], ceO 3 y_2 [.ref wt_3, .ref cn_4, .ref sm_5, .ref gs_6, .int (iI 0), .ref x_8, .ref nb_25, .ref ls_26, .int (iI 0)], ceI G wt_3 160 (fun _ => 0), ceI G cn_4 160 (fun _ => 0), ceI G sm_5 160 (fun _ => 0), ceO 5 gs_6 [.ref gb_7], ceJ G gb_7 3 (tw (fun _ _ => false)), ceO 2 x_8 [.ref w_9, .ref go_16, .int (iI 0), .int (iI (bZ true)), .ref ta_17, .ref o_19, .int (iI 1), .int (iI (0 + 1))], ceO 6 w_9 [.ref qa_10, .ref ra_11, .ref sa_12, .ref fa_14], ceI G qa_10 160 (fun _ => 0), ceI G ra_11 160 (fun _ => 0), ceO 5 sa_12 [.ref sb_13], ceJ G sb_13 3 (tw (fun _ _ => false)), ceO 5 fa_14 [.ref fb_15], ceJ G fb_15 3 (tw (fun _ _ => false)), ceI G go_16 160 (fun _ => 0), ceO 5 ta_17 [.ref tb_18], ceJ G tb_18 480 (tw (fun _ _ => false)), ceO 4 o_19 [.ref ah_20, .ref bh_22, .ref so_24], ceO 5 ah_20 [.ref ab_21], ceJ G ab_21 480 (tw (idB 1)), ceO 5 bh_22 [.ref bb_23], ceJ G bb_23 480 (tw (idB 1)), ceI G so_24 160 (fun _ => 0), ceI G nb_25 160 (fun _ => 0), ceI G ls_26 160 (fun _ => 0), ceO 1 cr_27 [.ref a1R_28, .ref a2R_29, .ref stR_30, .ref oR_32, .ref wR_38, .ref hsR_45, .int (iI 0), .int (iI (-1)), .int (iI (bZ false)), .int (iI 0), .int (iI 0), .int (iI 1), .int (iI 0)], ceI G a1R_28 400 (fun _ => 0), ceI G a2R_29 400 (fun _ => 0), ceO 5 stR_30 [.ref sbR_31], ceJ G sbR_31 480 (tw (fun _ _ => false)), ceO 4 oR_32 [.ref ahR_33, .ref bhR_35, .ref soR_37], ceO 5 ahR_33 [.ref abR_34], ceJ G abR_34 480 (tw (idB (2 * (1 : Int)).toNat)), ceO 5 bhR_35 [.ref bbR_36], ceJ G bbR_36 480 (tw (idB (2 * (1 : Int)).toNat)), ceI G soR_37 160 (fun _ => 0), ceO 6 wR_38 [.ref qaR_39, .ref raR_40, .ref saR_41, .ref faR_43], ceI G qaR_39 160 (fun _ => 0), ceI G raR_40 160 (fun _ => 0), ceO 5 saR_41 [.ref scR_42], ceJ G scR_42 3 (tw (fun _ _ => false)), ceO 5 faR_43 [.ref fbR_44], ceJ G fbR_44 3 (tw (fun _ _ => false)), ceO 5 hsR_45 [.ref hbR_46], ceJ G hbR_46 3 (tw (fun _ _ => false))]) (st' := [.ref a1]) (kc' := 46) (ks' := 5677) [0, 1, 2, 3, 4, 5, 6, 7, 8, 9, 10, 11, 12, 13, 14, 15, 16, 17, 18, 19, 20, 21, 22, 23, 24, 25, 26, 27, 28, 29, 30, 31, 32, 33, 34, 35, 36, 37, 38, 39, 40, 41, 42, 43, 44, 45] rfl rfl rfl ?_
    refine vv_astore_n (lv' := [(0, .ref b), (1, .ref a1)]) F zd_LA_law_7 rfl (by decide) [1, 0] rfl ?_
    refine vv_new (ci := 7) (fs := [.int (iI 0), .int (iI 0), .int (iI 0), .null, .int (iI (bZ false)), .null, .null, .int (iI 0), .null, .null, .null, .int (iI 0), .int (iI 0), .null, .null, .int (iI (bZ false)), .null, .null, .null, .int (iI (bZ false)), .int (iI 0), .null, .null]) F zd_LA_law_8 zf_MO zt_MO_ok zw_750 zw_751 zw_9 rfl (fun j hj => by rcases (show j = 0 ∨ j = 1 ∨ j = 2 ∨ j = 3 ∨ j = 4 ∨ j = 5 ∨ j = 6 ∨ j = 7 ∨ j = 8 ∨ j = 9 ∨ j = 10 ∨ j = 11 ∨ j = 12 ∨ j = 13 ∨ j = 14 ∨ j = 15 ∨ j = 16 ∨ j = 17 ∨ j = 18 ∨ j = 19 ∨ j = 20 ∨ j = 21 ∨ j = 22 by omega) with rfl | rfl | rfl | rfl | rfl | rfl | rfl | rfl | rfl | rfl | rfl | rfl | rfl | rfl | rfl | rfl | rfl | rfl | rfl | rfl | rfl | rfl | rfl <;> rfl) (by decide) (by decide) (fun a47 => ?_)
    show vv_V _ _ _ _ _ _ _ _ _ _ _ _ _ _ _ [(0, .ref b), (1, .ref a1)] [.ref a47] [ceO 0 a1 [.ref y_2, .ref x_8, .ref cr_27], ceO 3 y_2 [.ref wt_3, .ref cn_4, .ref sm_5, .ref gs_6, .int (iI 0), .ref x_8, .ref nb_25, .ref ls_26, .int (iI 0)], ceI G wt_3 160 (fun _ => 0), ceI G cn_4 160 (fun _ => 0), ceI G sm_5 160 (fun _ => 0), ceO 5 gs_6 [.ref gb_7], ceJ G gb_7 3 (tw (fun _ _ => false)), ceO 2 x_8 [.ref w_9, .ref go_16, .int (iI 0), .int (iI (bZ true)), .ref ta_17, .ref o_19, .int (iI 1), .int (iI (0 + 1))], ceO 6 w_9 [.ref qa_10, .ref ra_11, .ref sa_12, .ref fa_14], ceI G qa_10 160 (fun _ => 0), ceI G ra_11 160 (fun _ => 0), ceO 5 sa_12 [.ref sb_13], ceJ G sb_13 3 (tw (fun _ _ => false)), ceO 5 fa_14 [.ref fb_15], ceJ G fb_15 3 (tw (fun _ _ => false)), ceI G go_16 160 (fun _ => 0), ceO 5 ta_17 [.ref tb_18], ceJ G tb_18 480 (tw (fun _ _ => false)), ceO 4 o_19 [.ref ah_20, .ref bh_22, .ref so_24], ceO 5 ah_20 [.ref ab_21], ceJ G ab_21 480 (tw (idB 1)), ceO 5 bh_22 [.ref bb_23], ceJ G bb_23 480 (tw (idB 1)), ceI G so_24 160 (fun _ => 0), ceI G nb_25 160 (fun _ => 0), ceI G ls_26 160 (fun _ => 0), ceO 1 cr_27 [.ref a1R_28, .ref a2R_29, .ref stR_30, .ref oR_32, .ref wR_38, .ref hsR_45, .int (iI 0), .int (iI (-1)), .int (iI (bZ false)), .int (iI 0), .int (iI 0), .int (iI 1), .int (iI 0)], ceI G a1R_28 400 (fun _ => 0), ceI G a2R_29 400 (fun _ => 0), ceO 5 stR_30 [.ref sbR_31], ceJ G sbR_31 480 (tw (fun _ _ => false)), ceO 4 oR_32 [.ref ahR_33, .ref bhR_35, .ref soR_37], ceO 5 ahR_33 [.ref abR_34], ceJ G abR_34 480 (tw (idB (2 * (1 : Int)).toNat)), ceO 5 bhR_35 [.ref bbR_36], ceJ G bbR_36 480 (tw (idB (2 * (1 : Int)).toNat)), ceI G soR_37 160 (fun _ => 0), ceO 6 wR_38 [.ref qaR_39, .ref raR_40, .ref saR_41, .ref faR_43], ceI G qaR_39 160 (fun _ => 0), ceI G raR_40 160 (fun _ => 0), ceO 5 saR_41 [.ref scR_42], ceJ G scR_42 3 (tw (fun _ _ => false)), ceO 5 faR_43 [.ref fbR_44], ceJ G fbR_44 3 (tw (fun _ _ => false)), ceO 5 hsR_45 [.ref hbR_46], ceJ G hbR_46 3 (tw (fun _ _ => false)), ceO 7 a47 [.int (iI 0), .int (iI 0), .int (iI 0), .null, .int (iI (bZ false)), .null, .null, .int (iI 0), .null, .null, .null, .int (iI 0), .int (iI 0), .null, .null, .int (iI (bZ false)), .null, .null, .null, .int (iI (bZ false)), .int (iI 0), .null, .null]] 47 5700
    refine vv_dup F zd_LA_law_11 rfl ?_
    refine vv_callI (As := []) (rest := [.ref a47]) (wr := [ceO 0 a1 [.ref y_2, .ref x_8, .ref cr_27], ceO 3 y_2 [.ref wt_3, .ref cn_4, .ref sm_5, .ref gs_6, .int (iI 0), .ref x_8, .ref nb_25, .ref ls_26, .int (iI 0)], ceI G wt_3 160 (fun _ => 0), ceI G cn_4 160 (fun _ => 0), ceI G sm_5 160 (fun _ => 0), ceO 5 gs_6 [.ref gb_7], ceJ G gb_7 3 (tw (fun _ _ => false)), ceO 2 x_8 [.ref w_9, .ref go_16, .int (iI 0), .int (iI (bZ true)), .ref ta_17, .ref o_19, .int (iI 1), .int (iI (0 + 1))], ceO 6 w_9 [.ref qa_10, .ref ra_11, .ref sa_12, .ref fa_14], ceI G qa_10 160 (fun _ => 0), ceI G ra_11 160 (fun _ => 0), ceO 5 sa_12 [.ref sb_13], ceJ G sb_13 3 (tw (fun _ _ => false)), ceO 5 fa_14 [.ref fb_15], ceJ G fb_15 3 (tw (fun _ _ => false)), ceI G go_16 160 (fun _ => 0), ceO 5 ta_17 [.ref tb_18], ceJ G tb_18 480 (tw (fun _ _ => false)), ceO 4 o_19 [.ref ah_20, .ref bh_22, .ref so_24], ceO 5 ah_20 [.ref ab_21], ceJ G ab_21 480 (tw (idB 1)), ceO 5 bh_22 [.ref bb_23], ceJ G bb_23 480 (tw (idB 1)), ceI G so_24 160 (fun _ => 0), ceI G nb_25 160 (fun _ => 0), ceI G ls_26 160 (fun _ => 0), ceO 1 cr_27 [.ref a1R_28, .ref a2R_29, .ref stR_30, .ref oR_32, .ref wR_38, .ref hsR_45, .int (iI 0), .int (iI (-1)), .int (iI (bZ false)), .int (iI 0), .int (iI 0), .int (iI 1), .int (iI 0)], ceI G a1R_28 400 (fun _ => 0), ceI G a2R_29 400 (fun _ => 0), ceO 5 stR_30 [.ref sbR_31], ceJ G sbR_31 480 (tw (fun _ _ => false)), ceO 4 oR_32 [.ref ahR_33, .ref bhR_35, .ref soR_37], ceO 5 ahR_33 [.ref abR_34], ceJ G abR_34 480 (tw (idB (2 * (1 : Int)).toNat)), ceO 5 bhR_35 [.ref bbR_36], ceJ G bbR_36 480 (tw (idB (2 * (1 : Int)).toNat)), ceI G soR_37 160 (fun _ => 0), ceO 6 wR_38 [.ref qaR_39, .ref raR_40, .ref saR_41, .ref faR_43], ceI G qaR_39 160 (fun _ => 0), ceI G raR_40 160 (fun _ => 0), ceO 5 saR_41 [.ref scR_42], ceJ G scR_42 3 (tw (fun _ _ => false)), ceO 5 faR_43 [.ref fbR_44], ceJ G fbR_44 3 (tw (fun _ _ => false)), ceO 5 hsR_45 [.ref hbR_46], ceJ G hbR_46 3 (tw (fun _ _ => false))]) F (cn_MO_init l G a47) zm_MO_init ⟨rfl, zw_753⟩ zw_752 zd_LA_law_12 ⟨by decide, by decide⟩ ⟨by decide, by decide⟩ [46] [0, 1, 2, 3, 4, 5, 6, 7, 8, 9, 10, 11, 12, 13, 14, 15, 16, 17, 18, 19, 20, 21, 22, 23, 24, 25, 26, 27, 28, 29, 30, 31, 32, 33, 34, 35, 36, 37, 38, 39, 40, 41, 42, 43, 44, 45] rfl rfl ⟨rfl, rfl, by decide⟩ rfl rfl (Nat.le_of_ble_eq_true rfl) (fun v9 w9 hp9 => ?_)
    obtain ⟨tha_48, rea_49, poa_50, cha_51, goa_52, lea_53, fia_54, sea_55, sta_56, lda_57, vla_58, dia_59, qua_60, rfl, rfl⟩ := hp9
    refine vv_thenE (ws' := [ceO 0 a1 [.ref y_2, .ref x_8, .ref cr_27], ceO 3 y_2 [.ref wt_3, .ref cn_4, .ref sm_5, .ref gs_6, .int (iI 0), .ref x_8, .ref nb_25, .ref ls_26, .int (iI 0)], ceI G wt_3 160 (fun _ => 0), ceI G cn_4 160 (fun _ => 0), ceI G sm_5 160 (fun _ => 0), ceO 5 gs_6 [.ref gb_7], ceJ G gb_7 3 (tw (fun _ _ => false)), ceO 2 x_8 [.ref w_9, .ref go_16, .int (iI 0), .int (iI (bZ true)), .ref ta_17, .ref o_19, .int (iI 1), .int (iI (0 + 1))], ceO 6 w_9 [.ref qa_10, .ref ra_11, .ref sa_12, .ref fa_14], ceI G qa_10 160 (fun _ => 0), ceI G ra_11 160 (fun _ => 0), ceO 5 sa_12 [.ref sb_13], ceJ G sb_13 3 (tw (fun _ _ => false)), ceO 5 fa_14 [.ref fb_15], ceJ G fb_15 3 (tw (fun _ _ => false)), ceI G go_16 160 (fun _ => 0), ceO 5 ta_17 [.ref tb_18], ceJ G tb_18 480 (tw (fun _ _ => false)), ceO 4 o_19 [.ref ah_20, .ref bh_22, .ref so_24], ceO 5 ah_20 [.ref ab_21], ceJ G ab_21 480 (tw (idB 1)), ceO 5 bh_22 [.ref bb_23], ceJ G bb_23 480 (tw (idB 1)), ceI G so_24 160 (fun _ => 0), ceI G nb_25 160 (fun _ => 0), ceI G ls_26 160 (fun _ => 0), ceO 1 cr_27 [.ref a1R_28, .ref a2R_29, .ref stR_30, .ref oR_32, .ref wR_38, .ref hsR_45, .int (iI 0), .int (iI (-1)), .int (iI (bZ false)), .int (iI 0), .int (iI 0), .int (iI 1), .int (iI 0)], ceI G a1R_28 400 (fun _ => 0), ceI G a2R_29 400 (fun _ => 0), ceO 5 stR_30 [.ref sbR_31], ceJ G sbR_31 480 (tw (fun _ _ => false)), ceO 4 oR_32 [.ref ahR_33, .ref bhR_35, .ref soR_37], ceO 5 ahR_33 [.ref abR_34], ceJ G abR_34 480 (tw (idB (2 * (1 : Int)).toNat)), ceO 5 bhR_35 [.ref bbR_36], ceJ G bbR_36 480 (tw (idB (2 * (1 : Int)).toNat)), ceI G soR_37 160 (fun _ => 0), ceO 6 wR_38 [.ref qaR_39, .ref raR_40, .ref saR_41, .ref faR_43], ceI G qaR_39 160 (fun _ => 0), ceI G raR_40 160 (fun _ => 0), ceO 5 saR_41 [.ref scR_42], ceJ G scR_42 3 (tw (fun _ _ => false)), ceO 5 faR_43 [.ref fbR_44], ceJ G fbR_44 3 (tw (fun _ _ => false)), ceO 5 hsR_45 [.ref hbR_46], ceJ G hbR_46 3 (tw (fun _ _ => false)), ceO 7 a47 [.int (iI 0), .int (iI 1), .int (iI 0), .ref tha_48, .int (iI (bZ false)), .ref rea_49, .ref poa_50, .int (iI 0), .ref cha_51, .ref goa_52, .ref lea_53, .int (iI 1), .int (iI 0), .ref fia_54, .ref sea_55, .int (iI (bZ false)), .ref sta_56, .ref lda_57, .ref vla_58, .int (iI (bZ false)), .int (iI 0), .ref dia_59, .ref qua_60], ceZ G tha_48 25600 (fun _ => false), ceZ G rea_49 25600 (fun _ => false), ceI G poa_50 160 (fun _ => 0), ceI G cha_51 160 (fun _ => 0), ceZ G goa_52 25600 (fun _ => false), ceI G lea_53 160 (fun _ => 0), ceI G fia_54 400 (fun _ => 0), ceI G sea_55 400 (fun _ => 0), ceZ G sta_56 25600 (fun _ => false), ceZ G lda_57 25600 (fun _ => false), ceI G vla_58 160 (fun _ => 0), ceI G dia_59 160 (fun _ => 0), ceI G qua_60 160 (fun _ => 0)]) (st' := [.ref a47]) (kc' := 60) (ks' := 135460) [0, 1, 2, 3, 4, 5, 6, 7, 8, 9, 10, 11, 12, 13, 14, 15, 16, 17, 18, 19, 20, 21, 22, 23, 24, 25, 26, 27, 28, 29, 30, 31, 32, 33, 34, 35, 36, 37, 38, 39, 40, 41, 42, 43, 44, 45, 46, 47, 48, 49, 50, 51, 52, 53, 54, 55, 56, 57, 58, 59] rfl rfl rfl ?_
    refine vv_astore_n (lv' := [(0, .ref b), (1, .ref a1), (2, .ref a47)]) F zd_LA_law_15 rfl (by decide) [1, 2, 0] rfl ?_
    refine vv_iconst F zd_LA_law_16 ?_
    refine vv_newaJ (N := 1) F zd_LA_law_17 zw_44 rfl (by omega) (by decide) (by decide) (fun a61 => ?_)
    show vv_V _ _ _ _ _ _ _ _ _ _ _ _ _ _ _ [(0, .ref b), (1, .ref a1), (2, .ref a47)] [.ref a61] [ceO 0 a1 [.ref y_2, .ref x_8, .ref cr_27], ceO 3 y_2 [.ref wt_3, .ref cn_4, .ref sm_5, .ref gs_6, .int (iI 0), .ref x_8, .ref nb_25, .ref ls_26, .int (iI 0)], ceI G wt_3 160 (fun _ => 0), ceI G cn_4 160 (fun _ => 0), ceI G sm_5 160 (fun _ => 0), ceO 5 gs_6 [.ref gb_7], ceJ G gb_7 3 (tw (fun _ _ => false)), ceO 2 x_8 [.ref w_9, .ref go_16, .int (iI 0), .int (iI (bZ true)), .ref ta_17, .ref o_19, .int (iI 1), .int (iI (0 + 1))], ceO 6 w_9 [.ref qa_10, .ref ra_11, .ref sa_12, .ref fa_14], ceI G qa_10 160 (fun _ => 0), ceI G ra_11 160 (fun _ => 0), ceO 5 sa_12 [.ref sb_13], ceJ G sb_13 3 (tw (fun _ _ => false)), ceO 5 fa_14 [.ref fb_15], ceJ G fb_15 3 (tw (fun _ _ => false)), ceI G go_16 160 (fun _ => 0), ceO 5 ta_17 [.ref tb_18], ceJ G tb_18 480 (tw (fun _ _ => false)), ceO 4 o_19 [.ref ah_20, .ref bh_22, .ref so_24], ceO 5 ah_20 [.ref ab_21], ceJ G ab_21 480 (tw (idB 1)), ceO 5 bh_22 [.ref bb_23], ceJ G bb_23 480 (tw (idB 1)), ceI G so_24 160 (fun _ => 0), ceI G nb_25 160 (fun _ => 0), ceI G ls_26 160 (fun _ => 0), ceO 1 cr_27 [.ref a1R_28, .ref a2R_29, .ref stR_30, .ref oR_32, .ref wR_38, .ref hsR_45, .int (iI 0), .int (iI (-1)), .int (iI (bZ false)), .int (iI 0), .int (iI 0), .int (iI 1), .int (iI 0)], ceI G a1R_28 400 (fun _ => 0), ceI G a2R_29 400 (fun _ => 0), ceO 5 stR_30 [.ref sbR_31], ceJ G sbR_31 480 (tw (fun _ _ => false)), ceO 4 oR_32 [.ref ahR_33, .ref bhR_35, .ref soR_37], ceO 5 ahR_33 [.ref abR_34], ceJ G abR_34 480 (tw (idB (2 * (1 : Int)).toNat)), ceO 5 bhR_35 [.ref bbR_36], ceJ G bbR_36 480 (tw (idB (2 * (1 : Int)).toNat)), ceI G soR_37 160 (fun _ => 0), ceO 6 wR_38 [.ref qaR_39, .ref raR_40, .ref saR_41, .ref faR_43], ceI G qaR_39 160 (fun _ => 0), ceI G raR_40 160 (fun _ => 0), ceO 5 saR_41 [.ref scR_42], ceJ G scR_42 3 (tw (fun _ _ => false)), ceO 5 faR_43 [.ref fbR_44], ceJ G fbR_44 3 (tw (fun _ _ => false)), ceO 5 hsR_45 [.ref hbR_46], ceJ G hbR_46 3 (tw (fun _ _ => false)), ceO 7 a47 [.int (iI 0), .int (iI 1), .int (iI 0), .ref tha_48, .int (iI (bZ false)), .ref rea_49, .ref poa_50, .int (iI 0), .ref cha_51, .ref goa_52, .ref lea_53, .int (iI 1), .int (iI 0), .ref fia_54, .ref sea_55, .int (iI (bZ false)), .ref sta_56, .ref lda_57, .ref vla_58, .int (iI (bZ false)), .int (iI 0), .ref dia_59, .ref qua_60], ceZ G tha_48 25600 (fun _ => false), ceZ G rea_49 25600 (fun _ => false), ceI G poa_50 160 (fun _ => 0), ceI G cha_51 160 (fun _ => 0), ceZ G goa_52 25600 (fun _ => false), ceI G lea_53 160 (fun _ => 0), ceI G fia_54 400 (fun _ => 0), ceI G sea_55 400 (fun _ => 0), ceZ G sta_56 25600 (fun _ => false), ceZ G lda_57 25600 (fun _ => false), ceI G vla_58 160 (fun _ => 0), ceI G dia_59 160 (fun _ => 0), ceI G qua_60 160 (fun _ => 0), ceJ G a61 1 (fun _ => 0)] 61 135461
    refine vv_astore_n (lv' := [(0, .ref b), (1, .ref a1), (2, .ref a47), (3, .ref a61)]) F zd_LA_law_19 rfl (by decide) [1, 2, 3, 0] rfl ?_
    refine vv_iconst F zd_LA_law_20 ?_
    refine vv_istore (lv' := [(0, .ref b), (1, .ref a1), (2, .ref a47), (3, .ref a61), (4, .int (iI 0))]) F zd_LA_law_21 (by decide) [1, 2, 3, 4, 0] rfl ?_
    have e3 : (3 * ((0 : Nat) : Int)) = 0 := by decide
    have hh := lw_loop (e := e) (below := below) hl F E (fun q h => h) (cg := a1) (y := y_2) (wt := wt_3) (cn := cn_4) (sm := sm_5) (gs := gs_6) (gb := gb_7) (x := x_8) (w := w_9) (qa := qa_10) (ra := ra_11) (sa := sa_12) (sb := sb_13) (fa := fa_14) (fb := fb_15) (go := go_16) (ta := ta_17) (tb := tb_18) (o := o_19) (ah := ah_20) (ab := ab_21) (bh := bh_22) (bb := bb_23) (so := so_24) (nb := nb_25) (ls := ls_26) (cr := cr_27) (a1R := a1R_28) (a2R := a2R_29) (stR := stR_30) (sbR := sbR_31) (oR := oR_32) (ahR := ahR_33) (abR := abR_34) (bhR := bhR_35) (bbR := bbR_36) (soR := soR_37) (wR := wR_38) (qaR := qaR_39) (raR := raR_40) (saR := saR_41) (scR := scR_42) (faR := faR_43) (fbR := fbR_44) (hsR := hsR_45) (hbR := hbR_46) (mo := a47) (tha := tha_48) (rea := rea_49) (poa := poa_50) (cha := cha_51) (goa := goa_52) (lea := lea_53) (fia := fia_54) (sea := sea_55) (sta := sta_56) (lda := lda_57) (vla := vla_58) (dia := dia_59) (qua := qua_60) (ou := a61) hX hL 512 0 61 135461 0 0 (fun _ => 0) (fun _ => 0) (fun _ => 0) (fun _ _ => false) 0 true 1 (0 + 1) (fun _ => 0) (fun _ => 0) (fun _ _ => false) (fun _ _ => false) (fun _ => 0) (fun _ _ => false) (idB 1) (idB 1) (fun _ => 0) (fun _ => 0) (fun _ => 0) 0 (-1) false 0 0 1 0 (fun _ => 0) (fun _ => 0) (fun _ _ => false) (idB (2 * (1 : Int)).toNat) (idB (2 * (1 : Int)).toNat) (fun _ => 0) (fun _ => 0) (fun _ => 0) (fun _ _ => false) (fun _ _ => false) (fun _ _ => false) 0 false 0 false false 0 (fun _ _ => false) (fun _ => 0) (fun _ => 0) (fun _ _ => false) (fun _ => 0) (fun _ => 0) (fun _ => 0) (fun _ _ => false) (fun _ _ => false) (fun _ => 0) (fun _ => 0) (fun _ => 0) (fun _ => 0) (by omega) (by decide) (by decide) (by decide) lw_g0 (fun q => (by cases q)) (rC_begin (u := 1) ⟨by omega, by omega⟩) (rM_begin (mm := 0))
    rw [e3] at hh
    exact hh
  rw [lg_entry_eq]
  exact hv s.heap [] _ (fun k q h => (by cases h)) ⟨fun i j p q h => (by cases h), fun k q h => (by cases h)⟩ va_S.rf he

set_option maxHeartbeats 4000000 in
theorem lw_walk (l : Launch) (hl : l.stackTraces = false) (b : Addr) (xs : List Int32) : MetFree l x (headSpec (Jvm.Cond.code x code maxLocals ret :: tables_1) room_1) (lw_P b xs) (fun _ _ _ _ _ => True) lw_Q := by
  refine MetFree.of_bodyS (code := code) (maxLocals := maxLocals) (ret := ret) (by decide) ?_ ?_
  · intro args s m h hn
    obtain ⟨meth, c, h1, h2, h3, h4, h5, h6, -, -⟩ := Cond.code_spec hn (atoms_spec (ws := Jvm.Cond.code x code maxLocals ret :: tables_1) h _ List.mem_cons_self)
    exact ⟨meth, c, h1, h2, h3, h4, h5, h6⟩
  · intro p e s m args below meth c s₁ B hml0 hP _
    obtain ⟨rfl, hx, hbd, hgv⟩ := hP
    obtain ⟨scr, harrAt, hlist, hof, hsmall⟩ := hx
    obtain ⟨hcb, hkn, -, -⟩ := State.arrayAt?_spec harrAt
    have hown : s.vm.findClass R_law = some m.cls := findClass_of_methodNamed B.named
    have hts0 : ∀ c ∈ (Jvm.Cond.code x code maxLocals ret :: tables_1), c.before #[Value.ref b] s = true := atoms_spec (ws := Jvm.Cond.code x code maxLocals ret :: tables_1) B.pre
    have hts : ∀ w ∈ lw_tbl, w.before #[Value.ref b] s = true := k2_hts_sels lw_privs (fun w hw => hts0 w (List.mem_cons_of_mem _ hw)) lw_privs_ok
    have hml : c.maxLocals = 7 := B.maxLocals_eq (hts0 _ List.mem_cons_self)
    have X₀ : Stand p l e room_1 s m #[Value.ref b] below meth c s₁ [] 0 0 := Stand.of_body B
    have hh0 : s₁.heap = s.heap := by rw [B.state]; rfl
    have hsz : scr.slots.size = xs.length := by rw [← Array.length_toList, hlist, List.length_map]
    have hval : ∀ j : Nat, j < xs.length → scr.slots[j]? = some (.int (xs.getD j 0)) := fun j hj => by
      rw [← Array.getElem?_toList, hlist]
      simp [hj]
    have hbl : b < s.heap.size := (Array.getElem?_eq_some_iff.mp hcb).1
    have hX : va_X b xs.length (fun j => xs.getD j 0) s s.heap := ⟨scr, hcb, hof, hkn, hsz, hval⟩
    have K : W p l e room_1 s m #[Value.ref b] below meth c s₁.heap [] 0 0 (lw_Z below #[Value.ref b] s) (entryFrame m ([Value.ref b] : List Value).toArray 7) := by
      rw [hh0]
      exact whole_start l hl hbd ⟨B.exec, B.bytes, B.returns, hml, hown, hts, hX, hbl, B.notSynchronized, hgv⟩
    obtain ⟨t, a1, o, b1, b2, b3⟩ := K s₁ rfl X₀
    exact ⟨t, o, a1, b1, b2, b3⟩
theorem lw_pre_spec {args : Array Value} {s : State} (h : (Jvm.Cond.and given_1 narrow_1).before args s = true) (hr : rest_1_c.before args s = true) : ∃ (b : Addr) (xs : List Int32), lw_P b xs args s := by
  have hs := flat_of_before _ h
  have hq := flat_of_before _ hr
  have hc : (Cond.count 1).before args s = true := hs _ (by decide +kernel)
  have harr : (Cond.arrayOf (.arg 0) .int).before args s = true := hs _ (by decide +kernel)
  have hle : (Cond.le (.length (.arg 0)) (.int 1536)).before args s = true := hs _ (by decide +kernel)
  have hlen : (Cond.isInt (.length (.arg 0))).before args s = true := hq _ (by decide +kernel)
  have hall : (Cond.all (.arg 0) (.isInt (.elem (.arg 0) (.index 0)))).before args s = true := hq _ (by decide +kernel)
  obtain ⟨b, xs, hb, hx⟩ := State.ints_of_pre rfl harr hlen hall
  have hsm : xs.length < 2 ^ 31 := hx.choose_spec.2.2.2
  have hev : (Term.length (.arg 0)).eval args s none [] s = some (.int xs.length.toInt32) := hx.length_eval hb
  have hv := Cond.le_ints hev (show (Term.int 1536).eval args s none [] s = some (.int 1536) from rfl)
  have hd : xs.length.toInt32 ≤ 1536 := by
    simpa [Cond.before, Cond.holds, hv] using hle
  have hN : xs.length ≤ 1536 := (Int32.ofNat_le_ofNat hsm (by decide)).mp (show Int32.ofNat xs.length ≤ Int32.ofNat 1536 from hd)
  exact ⟨b, xs, Cond.one_arg hc (show args[0]? = some (.ref b) from hb), hx, hN, h⟩
theorem lw_comes (l : Launch) (hl : l.stackTraces = false) : Comes l x (Jvm.Cond.code x code maxLocals ret :: tables_1) room_1 (fun tb e args s => Calls_1 tb e args s ∧ rest_1 tb e args s ∧ Pre_1 tb e args s)
    (fun _ _ args s o t => lw_Q args s o t) := by
  intro p e ha hc hk s m args below hf hfit hheap happ hpre
  obtain ⟨b, xs, hP⟩ := lw_pre_spec hpre.2.2 hpre.2.1
  obtain ⟨k, o, h1, h2, h3, hQ⟩ := lw_walk l hl b xs p e ha hc hk s m args below hf ((Spec.applies_iff_loose hf).mp happ).1 hP trivial
  exact ⟨k, o, h1, h2, h3, hQ⟩
theorem lw_frame {s t : State} {o : Outcome} {args : Array Value} (h : Framed s o t [] 601024 7293034) :
    Framed s o t (fieldLocs frame_1_writes args s ++ arrayLocs frame_1_arrays args s ++ staticLocs frame_1_statics s) 601024 7293034 := h
theorem lw_limb (L : Cond) (hL : ∀ (args : Array Value) (s t : State), L.after args s (.returned (some (.int 1))) t = true) :
    ArmFor flags0 classFile x code maxLocals ret World_1 tables_1 room_1 Calls_1 rest_1 Pre_1
      (fun tb e a s o t => postC L tb e a s o t ∧ Framed s o t (fieldLocs frame_1_writes a s ++ arrayLocs frame_1_arrays a s ++ staticLocs frame_1_statics s) 601024 7293034) := by
  intro l hfl _ _ p e ha hc hk s m args below hf hfit hheap happ hpre
  obtain ⟨k, o, h1, h2, h3, rfl, hF⟩ := lw_comes l (by first | (unfold Launch.stackTraces; rw [hfl]; decide +kernel) | (simp only [Launch.stackTraces, hfl]; decide +kernel)) p e ha hc hk s m args below hf hfit hheap happ hpre
  exact ⟨k, _, h1, h2, h3, hL args s _, lw_frame hF⟩
theorem i_vc : Claimed_1_1 ∧ Claimed_1_2 := ⟨lw_limb limb_1_1 (fun args s t => by simp [limb_1_1, Cond.after, Cond.holds, Cond.value]), lw_limb limb_1_2 (fun args s t => Cond.after_iff.mpr (by
  first | (rw [show limb_1_2 = Cond.eq .result (.int 1) from rfl, Cond.eq_ints (x := 1) (y := 1) rfl rfl]; simp; done) | (simp [limb_1_2, Cond.value, Term.eval]; done)))⟩
