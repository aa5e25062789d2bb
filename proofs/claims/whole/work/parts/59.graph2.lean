set_option maxHeartbeats 4000000 in
set_option maxRecDepth 100000 in
theorem cn_CG_needNode (l : Launch) (G : vv_G) (cg : Nat) (y : Nat) (x : Nat) (cr : Nat) (w : Nat) (go : Nat) (ac : Int) (rk : Bool) (ta : Nat) (o : Nat) (n : Int) (ch : Int) (u : Int) (hi : 0 ≤ u ∧ u < n) (hn : 1 ≤ n ∧ n ≤ 160) :
    vv_D l zy_CG_needNode zc_CG_needNode 2 none { frames := 6, cells := 0, slots := 0, locals := 83 } G [.ref cg, .int (iI u)] [ceO 0 cg [.ref y, .ref x, .ref cr], ceO 2 x [.ref w, .ref go, .int (iI ac), .int (iI (bZ rk)), .ref ta, .ref o, .int (iI n), .int (iI ch)]] none [ceO 0 cg [.ref y, .ref x, .ref cr], ceO 2 x [.ref w, .ref go, .int (iI ac), .int (iI (bZ rk)), .ref ta, .ref o, .int (iI n), .int (iI ch)]] := by
  refine vv_met (by decide +kernel) (Nat.le_of_ble_eq_true rfl) rfl ?_
  intro p e s m args below meth c A F
  refine vv_iload_n F zd_CG_needNode_0 rfl 1 rfl ?_
  refine vv_if_lt (tgt := 15) F zd_CG_needNode_1 rfl (by first | exact ⟨by omega, by omega⟩) (fun h1 => ?_) (fun h1 => ?_)
  · exfalso
    omega
  · refine vv_iload_n F zd_CG_needNode_4 rfl 1 rfl ?_
    refine vv_aload_n F zd_CG_needNode_5 rfl 0 rfl ?_
    refine vv_get F zd_CG_needNode_6 zf_CG 0 rfl rfl 1 (by decide) zw_244 rfl ?_
    refine vv_get F zd_CG_needNode_9 zf_NE 1 rfl rfl 6 (by decide) zw_125 rfl ?_
    refine vv_icmp_lt (tgt := 25) F zd_CG_needNode_12 rfl (by first | exact ⟨by omega, by omega⟩) (by first | exact ⟨by omega, by omega⟩) (fun h2 => ?_) (fun h2 => ?_)
    · exact vv_vret F zd_CG_needNode_25 ⟨rfl, rfl⟩
    · exfalso
      omega

set_option maxHeartbeats 4000000 in
set_option maxRecDepth 100000 in
theorem cn_CG_needNode_t (l : Launch) (hl : l.stackTraces = false) (G : vv_G) (cg : Nat) (y : Nat) (x : Nat) (cr : Nat) (w : Nat) (go : Nat) (ac : Int) (rk : Bool) (ta : Nat) (o : Nat) (n : Int) (ch : Int) (u : Int) (hi : u < 0 ∨ n ≤ u) (hn : 1 ≤ n ∧ n ≤ 160) (hu : rg u) :
    vt_C l zy_CG_needNode zc_CG_needNode 2 none { frames := 6, cells := 1, slots := 6, locals := 83 } G "java/lang/IndexOutOfBoundsException" [.ref cg, .int (iI u)] [ceO 0 cg [.ref y, .ref x, .ref cr], ceO 2 x [.ref w, .ref go, .int (iI ac), .int (iI (bZ rk)), .ref ta, .ref o, .int (iI n), .int (iI ch)]] (fun w7 => w7 = [ceO 0 cg [.ref y, .ref x, .ref cr], ceO 2 x [.ref w, .ref go, .int (iI ac), .int (iI (bZ rk)), .ref ta, .ref o, .int (iI n), .int (iI ch)]]) := by
  refine vt_met (by decide +kernel) (Nat.le_of_ble_eq_true rfl) rfl ?_
  intro p e s m args below meth c A F E hx0
  refine vv_iload_n F zd_CG_needNode_0 rfl 1 rfl ?_
  refine vv_if_lt (tgt := 15) F zd_CG_needNode_1 rfl (by first | exact ⟨by omega, by omega⟩ | exact hu) (fun h1 => ?_) (fun h1 => ?_)
  · exact vt_throw F E hx0 hl zd_CG_needNode_15 zd_CG_needNode_18 zd_CG_needNode_19 zd_CG_needNode_21 zd_CG_needNode_24 zw_499 zw_14 zt_508 xa_IO (by decide +kernel) ⟨by decide, by decide⟩ ⟨by decide, by decide⟩ rfl
  · refine vv_iload_n F zd_CG_needNode_4 rfl 1 rfl ?_
    refine vv_aload_n F zd_CG_needNode_5 rfl 0 rfl ?_
    refine vv_get F zd_CG_needNode_6 zf_CG 0 rfl rfl 1 (by decide) zw_244 rfl ?_
    refine vv_get F zd_CG_needNode_9 zf_NE 1 rfl rfl 6 (by decide) zw_125 rfl ?_
    refine vv_icmp_lt (tgt := 25) F zd_CG_needNode_12 rfl (by first | exact ⟨by omega, by omega⟩ | exact hu) (by first | exact ⟨by omega, by omega⟩ | exact hu) (fun h2 => ?_) (fun h2 => ?_)
    · exfalso
      omega
    · exact vt_throw F E hx0 hl zd_CG_needNode_15 zd_CG_needNode_18 zd_CG_needNode_19 zd_CG_needNode_21 zd_CG_needNode_24 zw_499 zw_14 zt_508 xa_IO (by decide +kernel) ⟨by decide, by decide⟩ ⟨by decide, by decide⟩ rfl

set_option maxHeartbeats 4000000 in
set_option maxRecDepth 100000 in
theorem cn_CG_needVariable (l : Launch) (G : vv_G) (cg : Nat) (y : Nat) (x : Nat) (cr : Nat) (a1 : Nat) (a2 : Nat) (st : Nat) (o : Nat) (w : Nat) (hs : Nat) (tk : Int) (fl : Int) (rn : Bool) (sr : Int) (lr : Int) (nv : Int) (mm : Int) (u : Int) (hi : 1 ≤ u ∧ u ≤ nv) (hn : 1 ≤ nv ∧ nv ≤ 80) :
    vv_D l zy_CG_needVariable zc_CG_needVariable 2 none { frames := 6, cells := 0, slots := 0, locals := 83 } G [.ref cg, .int (iI u)] [ceO 0 cg [.ref y, .ref x, .ref cr], ceO 1 cr [.ref a1, .ref a2, .ref st, .ref o, .ref w, .ref hs, .int (iI tk), .int (iI fl), .int (iI (bZ rn)), .int (iI sr), .int (iI lr), .int (iI nv), .int (iI mm)]] none [ceO 0 cg [.ref y, .ref x, .ref cr], ceO 1 cr [.ref a1, .ref a2, .ref st, .ref o, .ref w, .ref hs, .int (iI tk), .int (iI fl), .int (iI (bZ rn)), .int (iI sr), .int (iI lr), .int (iI nv), .int (iI mm)]] := by
  refine vv_met (by decide +kernel) (Nat.le_of_ble_eq_true rfl) rfl ?_
  intro p e s m args below meth c A F
  refine vv_iload_n F zd_CG_needVariable_0 rfl 1 rfl ?_
  refine vv_iconst F zd_CG_needVariable_1 ?_
  refine vv_icmp_lt (tgt := 16) F zd_CG_needVariable_2 rfl (by first | exact ⟨by omega, by omega⟩) (by decide) (fun h1 => ?_) (fun h1 => ?_)
  · exfalso
    omega
  · refine vv_iload_n F zd_CG_needVariable_5 rfl 1 rfl ?_
    refine vv_aload_n F zd_CG_needVariable_6 rfl 0 rfl ?_
    refine vv_get F zd_CG_needVariable_7 zf_CG 0 rfl rfl 2 (by decide) zw_245 rfl ?_
    refine vv_get F zd_CG_needVariable_10 zf_CR 1 rfl rfl 11 (by decide) zw_213 rfl ?_
    refine vv_icmp_le (tgt := 26) F zd_CG_needVariable_13 rfl (by first | exact ⟨by omega, by omega⟩) (by first | exact ⟨by omega, by omega⟩) (fun h2 => ?_) (fun h2 => ?_)
    · exact vv_vret F zd_CG_needVariable_26 ⟨rfl, rfl⟩
    · exfalso
      omega

set_option maxHeartbeats 4000000 in
set_option maxRecDepth 100000 in
theorem cn_CG_needVariable_t (l : Launch) (hl : l.stackTraces = false) (G : vv_G) (cg : Nat) (y : Nat) (x : Nat) (cr : Nat) (a1 : Nat) (a2 : Nat) (st : Nat) (o : Nat) (w : Nat) (hs : Nat) (tk : Int) (fl : Int) (rn : Bool) (sr : Int) (lr : Int) (nv : Int) (mm : Int) (u : Int) (hi : u < 1 ∨ nv < u) (hn : 1 ≤ nv ∧ nv ≤ 80) (hu : rg u) :
    vt_C l zy_CG_needVariable zc_CG_needVariable 2 none { frames := 6, cells := 1, slots := 6, locals := 83 } G "java/lang/IllegalArgumentException" [.ref cg, .int (iI u)] [ceO 0 cg [.ref y, .ref x, .ref cr], ceO 1 cr [.ref a1, .ref a2, .ref st, .ref o, .ref w, .ref hs, .int (iI tk), .int (iI fl), .int (iI (bZ rn)), .int (iI sr), .int (iI lr), .int (iI nv), .int (iI mm)]] (fun w7 => w7 = [ceO 0 cg [.ref y, .ref x, .ref cr], ceO 1 cr [.ref a1, .ref a2, .ref st, .ref o, .ref w, .ref hs, .int (iI tk), .int (iI fl), .int (iI (bZ rn)), .int (iI sr), .int (iI lr), .int (iI nv), .int (iI mm)]]) := by
  refine vt_met (by decide +kernel) (Nat.le_of_ble_eq_true rfl) rfl ?_
  intro p e s m args below meth c A F E hx0
  refine vv_iload_n F zd_CG_needVariable_0 rfl 1 rfl ?_
  refine vv_iconst F zd_CG_needVariable_1 ?_
  refine vv_icmp_lt (tgt := 16) F zd_CG_needVariable_2 rfl (by first | exact ⟨by omega, by omega⟩ | exact hu) (by decide) (fun h1 => ?_) (fun h1 => ?_)
  · exact vt_throw F E hx0 hl zd_CG_needVariable_16 zd_CG_needVariable_19 zd_CG_needVariable_20 zd_CG_needVariable_22 zd_CG_needVariable_25 zw_418 zw_13 zt_676 xa_IA (by decide +kernel) ⟨by decide, by decide⟩ ⟨by decide, by decide⟩ rfl
  · refine vv_iload_n F zd_CG_needVariable_5 rfl 1 rfl ?_
    refine vv_aload_n F zd_CG_needVariable_6 rfl 0 rfl ?_
    refine vv_get F zd_CG_needVariable_7 zf_CG 0 rfl rfl 2 (by decide) zw_245 rfl ?_
    refine vv_get F zd_CG_needVariable_10 zf_CR 1 rfl rfl 11 (by decide) zw_213 rfl ?_
    refine vv_icmp_le (tgt := 26) F zd_CG_needVariable_13 rfl (by first | exact ⟨by omega, by omega⟩ | exact hu) (by first | exact ⟨by omega, by omega⟩ | exact hu) (fun h2 => ?_) (fun h2 => ?_)
    · exfalso
      omega
    · exact vt_throw F E hx0 hl zd_CG_needVariable_16 zd_CG_needVariable_19 zd_CG_needVariable_20 zd_CG_needVariable_22 zd_CG_needVariable_25 zw_418 zw_13 zt_676 xa_IA (by decide +kernel) ⟨by decide, by decide⟩ ⟨by decide, by decide⟩ rfl

set_option maxHeartbeats 4000000 in
set_option maxRecDepth 100000 in
theorem cn_CG_needLiteral (l : Launch) (G : vv_G) (cg : Nat) (y : Nat) (x : Nat) (cr : Nat) (a1 : Nat) (a2 : Nat) (st : Nat) (o : Nat) (w : Nat) (hs : Nat) (tk : Int) (fl : Int) (rn : Bool) (sr : Int) (lr : Int) (nv : Int) (mm : Int) (u : Int) (hi : u ≠ 0 ∧ -nv ≤ u ∧ u ≤ nv) (hn : 1 ≤ nv ∧ nv ≤ 80) :
    vv_D l zy_CG_needLiteral zc_CG_needLiteral 2 none { frames := 6, cells := 0, slots := 0, locals := 83 } G [.ref cg, .int (iI u)] [ceO 0 cg [.ref y, .ref x, .ref cr], ceO 1 cr [.ref a1, .ref a2, .ref st, .ref o, .ref w, .ref hs, .int (iI tk), .int (iI fl), .int (iI (bZ rn)), .int (iI sr), .int (iI lr), .int (iI nv), .int (iI mm)]] none [ceO 0 cg [.ref y, .ref x, .ref cr], ceO 1 cr [.ref a1, .ref a2, .ref st, .ref o, .ref w, .ref hs, .int (iI tk), .int (iI fl), .int (iI (bZ rn)), .int (iI sr), .int (iI lr), .int (iI nv), .int (iI mm)]] := by
  refine vv_met (by decide +kernel) (Nat.le_of_ble_eq_true rfl) rfl ?_
  intro p e s m args below meth c A F
  refine vv_iload_n F zd_CG_needLiteral_0 rfl 1 rfl ?_
  refine vv_if_eq (tgt := 27) F zd_CG_needLiteral_1 rfl (by first | exact ⟨by omega, by omega⟩) (fun h1 => ?_) (fun h1 => ?_)
  · exfalso
    omega
  · refine vv_iload_n F zd_CG_needLiteral_4 rfl 1 rfl ?_
    refine vv_aload_n F zd_CG_needLiteral_5 rfl 0 rfl ?_
    refine vv_get F zd_CG_needLiteral_6 zf_CG 0 rfl rfl 2 (by decide) zw_245 rfl ?_
    refine vv_get F zd_CG_needLiteral_9 zf_CR 1 rfl rfl 11 (by decide) zw_213 rfl ?_
    refine vv_ineg F zd_CG_needLiteral_12 ?_
    refine vv_icmp_lt (tgt := 27) F zd_CG_needLiteral_13 rfl (by first | exact ⟨by omega, by omega⟩) (by first | exact ⟨by omega, by omega⟩) (fun h2 => ?_) (fun h2 => ?_)
    · exfalso
      omega
    · refine vv_iload_n F zd_CG_needLiteral_16 rfl 1 rfl ?_
      refine vv_aload_n F zd_CG_needLiteral_17 rfl 0 rfl ?_
      refine vv_get F zd_CG_needLiteral_18 zf_CG 0 rfl rfl 2 (by decide) zw_245 rfl ?_
      refine vv_get F zd_CG_needLiteral_21 zf_CR 1 rfl rfl 11 (by decide) zw_213 rfl ?_
      refine vv_icmp_le (tgt := 37) F zd_CG_needLiteral_24 rfl (by first | exact ⟨by omega, by omega⟩) (by first | exact ⟨by omega, by omega⟩) (fun h3 => ?_) (fun h3 => ?_)
      · exact vv_vret F zd_CG_needLiteral_37 ⟨rfl, rfl⟩
      · exfalso
        omega

set_option maxHeartbeats 4000000 in
set_option maxRecDepth 100000 in
theorem cn_CG_needLiteral_t (l : Launch) (hl : l.stackTraces = false) (G : vv_G) (cg : Nat) (y : Nat) (x : Nat) (cr : Nat) (a1 : Nat) (a2 : Nat) (st : Nat) (o : Nat) (w : Nat) (hs : Nat) (tk : Int) (fl : Int) (rn : Bool) (sr : Int) (lr : Int) (nv : Int) (mm : Int) (u : Int) (hi : u = 0 ∨ u < -nv ∨ nv < u) (hn : 1 ≤ nv ∧ nv ≤ 80) (hu : rg u) :
    vt_C l zy_CG_needLiteral zc_CG_needLiteral 2 none { frames := 6, cells := 1, slots := 6, locals := 83 } G "java/lang/IllegalArgumentException" [.ref cg, .int (iI u)] [ceO 0 cg [.ref y, .ref x, .ref cr], ceO 1 cr [.ref a1, .ref a2, .ref st, .ref o, .ref w, .ref hs, .int (iI tk), .int (iI fl), .int (iI (bZ rn)), .int (iI sr), .int (iI lr), .int (iI nv), .int (iI mm)]] (fun w7 => w7 = [ceO 0 cg [.ref y, .ref x, .ref cr], ceO 1 cr [.ref a1, .ref a2, .ref st, .ref o, .ref w, .ref hs, .int (iI tk), .int (iI fl), .int (iI (bZ rn)), .int (iI sr), .int (iI lr), .int (iI nv), .int (iI mm)]]) := by
  refine vt_met (by decide +kernel) (Nat.le_of_ble_eq_true rfl) rfl ?_
  intro p e s m args below meth c A F E hx0
  refine vv_iload_n F zd_CG_needLiteral_0 rfl 1 rfl ?_
  refine vv_if_eq (tgt := 27) F zd_CG_needLiteral_1 rfl (by first | exact ⟨by omega, by omega⟩ | exact hu) (fun h1 => ?_) (fun h1 => ?_)
  · exact vt_throw F E hx0 hl zd_CG_needLiteral_27 zd_CG_needLiteral_30 zd_CG_needLiteral_31 zd_CG_needLiteral_33 zd_CG_needLiteral_36 zw_418 zw_13 zt_643 xa_IA (by decide +kernel) ⟨by decide, by decide⟩ ⟨by decide, by decide⟩ rfl
  · refine vv_iload_n F zd_CG_needLiteral_4 rfl 1 rfl ?_
    refine vv_aload_n F zd_CG_needLiteral_5 rfl 0 rfl ?_
    refine vv_get F zd_CG_needLiteral_6 zf_CG 0 rfl rfl 2 (by decide) zw_245 rfl ?_
    refine vv_get F zd_CG_needLiteral_9 zf_CR 1 rfl rfl 11 (by decide) zw_213 rfl ?_
    refine vv_ineg F zd_CG_needLiteral_12 ?_
    refine vv_icmp_lt (tgt := 27) F zd_CG_needLiteral_13 rfl (by first | exact ⟨by omega, by omega⟩ | exact hu) (by first | exact ⟨by omega, by omega⟩ | exact hu) (fun h2 => ?_) (fun h2 => ?_)
    · exact vt_throw F E hx0 hl zd_CG_needLiteral_27 zd_CG_needLiteral_30 zd_CG_needLiteral_31 zd_CG_needLiteral_33 zd_CG_needLiteral_36 zw_418 zw_13 zt_643 xa_IA (by decide +kernel) ⟨by decide, by decide⟩ ⟨by decide, by decide⟩ rfl
    · refine vv_iload_n F zd_CG_needLiteral_16 rfl 1 rfl ?_
      refine vv_aload_n F zd_CG_needLiteral_17 rfl 0 rfl ?_
      refine vv_get F zd_CG_needLiteral_18 zf_CG 0 rfl rfl 2 (by decide) zw_245 rfl ?_
      refine vv_get F zd_CG_needLiteral_21 zf_CR 1 rfl rfl 11 (by decide) zw_213 rfl ?_
      refine vv_icmp_le (tgt := 37) F zd_CG_needLiteral_24 rfl (by first | exact ⟨by omega, by omega⟩ | exact hu) (by first | exact ⟨by omega, by omega⟩ | exact hu) (fun h3 => ?_) (fun h3 => ?_)
      · exfalso
        omega
      · exact vt_throw F E hx0 hl zd_CG_needLiteral_27 zd_CG_needLiteral_30 zd_CG_needLiteral_31 zd_CG_needLiteral_33 zd_CG_needLiteral_36 zw_418 zw_13 zt_643 xa_IA (by decide +kernel) ⟨by decide, by decide⟩ ⟨by decide, by decide⟩ rfl

set_option maxHeartbeats 4000000 in
set_option maxRecDepth 100000 in
theorem cn_CG_needGood (l : Launch) (G : vv_G) (cg : Nat) (y : Nat) (x : Nat) (cr : Nat) (a1 : Nat) (a2 : Nat) (st : Nat) (o : Nat) (w : Nat) (hs : Nat) (tk : Int) (fl : Int) (rn : Bool) (sr : Int) (lr : Int) (nv : Int) (mm : Int) (f1 : Nat → Int) (f2 : Nat → Int) (sb : Nat) (T : Nat → Nat → Bool) (ah : Nat) (bh : Nat) (so : Nat) (ab : Nat) (H : Nat → Nat → Bool) (bb : Nat) (K : Nat → Nat → Bool) (f : Nat → Int) (hI : rowI nv.toNat f1 f2 mm tk fl T H K) (hnv : 0 ≤ nv) (hG : ∀ (fl2 : Int) (T2 H2 K2 : Nat → Nat → Bool), rowI nv.toNat f1 f2 mm mm fl2 T2 H2 K2 → fl2 = -1) :
    vv_C l zy_CG_needGood zc_CG_needGood 1 none { frames := 6, cells := 0, slots := 0, locals := 138 } G [.ref cg] [ceO 0 cg [.ref y, .ref x, .ref cr], ceO 1 cr [.ref a1, .ref a2, .ref st, .ref o, .ref w, .ref hs, .int (iI tk), .int (iI fl), .int (iI (bZ rn)), .int (iI sr), .int (iI lr), .int (iI nv), .int (iI mm)], ceI G a1 400 f1, ceI G a2 400 f2, ceO 5 st [.ref sb], ceJ G sb 480 (tw T), ceO 4 o [.ref ah, .ref bh, .ref so], ceO 5 ah [.ref ab], ceJ G ab 480 (tw H), ceO 5 bh [.ref bb], ceJ G bb 480 (tw K), ceI G so 160 f] (fun v7 w7 => ∃ (fl2 : Int) (T2 : Nat → Nat → Bool) (H2 : Nat → Nat → Bool) (K2 : Nat → Nat → Bool) (f3 : Nat → Int), (rowI nv.toNat f1 f2 mm mm fl2 T2 H2 K2) ∧ (fl2 = -1) ∧ v7 = none ∧ w7 = [ceO 0 cg [.ref y, .ref x, .ref cr], ceO 1 cr [.ref a1, .ref a2, .ref st, .ref o, .ref w, .ref hs, .int (iI mm), .int (iI fl2), .int (iI (bZ rn)), .int (iI sr), .int (iI lr), .int (iI nv), .int (iI mm)], ceI G a1 400 f1, ceI G a2 400 f2, ceO 5 st [.ref sb], ceJ G sb 480 (tw T2), ceO 4 o [.ref ah, .ref bh, .ref so], ceO 5 ah [.ref ab], ceJ G ab 480 (tw H2), ceO 5 bh [.ref bb], ceJ G bb 480 (tw K2), ceI G so 160 f3]) := by
  refine vv_met (by decide +kernel) (Nat.le_of_ble_eq_true rfl) rfl ?_
  intro p e s m args below meth c A F
  refine vv_aload_n F zd_CG_needGood_0 rfl 0 rfl ?_
  refine vv_get F zd_CG_needGood_1 zf_CG 0 rfl rfl 2 (by decide) zw_245 rfl ?_
  refine vv_callV (q0 := 1) (As := []) (rest := []) (wr := [ceO 0 cg [.ref y, .ref x, .ref cr]]) F (cn_CR_failing l G cr a1 a2 st o w hs sb T ah ab bh bb so tk fl rn sr lr nv mm H K f f1 f2 hI hnv) zm_CR_failing ⟨zw_360, zw_361⟩ zw_359 zd_CG_needGood_4 ⟨by decide, by decide⟩ ⟨by decide, by decide⟩ [1, 2, 3, 4, 5, 6, 7, 8, 9, 10, 11] [0] rfl rfl ⟨rfl, rfl, by decide⟩ rfl rfl rfl rfl (Nat.le_of_ble_eq_true rfl) (fun v9 w9 hp9 => ?_)
  obtain ⟨fl2_1, T2_2, H2_3, K2_4, f3_5, hf1_0, rfl, rfl⟩ := hp9
  refine vv_thenE (ws' := [ceO 0 cg [.ref y, .ref x, .ref cr], ceO 1 cr [.ref a1, .ref a2, .ref st, .ref o, .ref w, .ref hs, .int (iI mm), .int (iI fl2_1), .int (iI (bZ rn)), .int (iI sr), .int (iI lr), .int (iI nv), .int (iI mm)], ceI G a1 400 f1, ceI G a2 400 f2, ceO 5 st [.ref sb], ceJ G sb 480 (tw T2_2), ceO 4 o [.ref ah, .ref bh, .ref so], ceO 5 ah [.ref ab], ceJ G ab 480 (tw H2_3), ceO 5 bh [.ref bb], ceJ G bb 480 (tw K2_4), ceI G so 160 f3_5]) (st' := [.int (iI fl2_1)]) (kc' := 0) (ks' := 0) [0, 1, 2, 3, 4, 5, 6, 7, 8, 9, 10, 11] rfl rfl rfl ?_
  have hfr := fai_rg hf1_0.2.2.2.2.1
  have hmr := hf1_0.2.1
  have hgg := hG _ _ _ _ hf1_0
  refine vv_iconst F zd_CG_needGood_7 ?_
  refine vv_icmp_eq (tgt := 21) F zd_CG_needGood_8 rfl (by first | exact ⟨by omega, by omega⟩) (by decide) (fun h1 => ?_) (fun h1 => ?_)
  · exact vv_vret F zd_CG_needGood_21 ⟨_, _, _, _, _, hf1_0, hgg, rfl, rfl⟩
  · exfalso
    omega

set_option maxHeartbeats 4000000 in
set_option maxRecDepth 100000 in
theorem cn_CG_needGood_t (l : Launch) (hl : l.stackTraces = false) (G : vv_G) (cg : Nat) (y : Nat) (x : Nat) (cr : Nat) (a1 : Nat) (a2 : Nat) (st : Nat) (o : Nat) (w : Nat) (hs : Nat) (tk : Int) (fl : Int) (rn : Bool) (sr : Int) (lr : Int) (nv : Int) (mm : Int) (f1 : Nat → Int) (f2 : Nat → Int) (sb : Nat) (T : Nat → Nat → Bool) (ah : Nat) (bh : Nat) (so : Nat) (ab : Nat) (H : Nat → Nat → Bool) (bb : Nat) (K : Nat → Nat → Bool) (f : Nat → Int) (hI : rowI nv.toNat f1 f2 mm tk fl T H K) (hnv : 0 ≤ nv) (hG : ∀ (fl2 : Int) (T2 H2 K2 : Nat → Nat → Bool), rowI nv.toNat f1 f2 mm mm fl2 T2 H2 K2 → ¬ fl2 = -1) :
    vt_C l zy_CG_needGood zc_CG_needGood 1 none { frames := 6, cells := 1, slots := 6, locals := 138 } G "java/lang/IllegalStateException" [.ref cg] [ceO 0 cg [.ref y, .ref x, .ref cr], ceO 1 cr [.ref a1, .ref a2, .ref st, .ref o, .ref w, .ref hs, .int (iI tk), .int (iI fl), .int (iI (bZ rn)), .int (iI sr), .int (iI lr), .int (iI nv), .int (iI mm)], ceI G a1 400 f1, ceI G a2 400 f2, ceO 5 st [.ref sb], ceJ G sb 480 (tw T), ceO 4 o [.ref ah, .ref bh, .ref so], ceO 5 ah [.ref ab], ceJ G ab 480 (tw H), ceO 5 bh [.ref bb], ceJ G bb 480 (tw K), ceI G so 160 f] (fun w7 => ∃ (fl2 : Int) (T2 : Nat → Nat → Bool) (H2 : Nat → Nat → Bool) (K2 : Nat → Nat → Bool) (f3 : Nat → Int), (rowI nv.toNat f1 f2 mm mm fl2 T2 H2 K2) ∧ (¬ fl2 = -1) ∧ w7 = [ceO 0 cg [.ref y, .ref x, .ref cr], ceO 1 cr [.ref a1, .ref a2, .ref st, .ref o, .ref w, .ref hs, .int (iI mm), .int (iI fl2), .int (iI (bZ rn)), .int (iI sr), .int (iI lr), .int (iI nv), .int (iI mm)], ceI G a1 400 f1, ceI G a2 400 f2, ceO 5 st [.ref sb], ceJ G sb 480 (tw T2), ceO 4 o [.ref ah, .ref bh, .ref so], ceO 5 ah [.ref ab], ceJ G ab 480 (tw H2), ceO 5 bh [.ref bb], ceJ G bb 480 (tw K2), ceI G so 160 f3]) := by
  refine vt_met (by decide +kernel) (Nat.le_of_ble_eq_true rfl) rfl ?_
  intro p e s m args below meth c A F E hx0
  refine vv_aload_n F zd_CG_needGood_0 rfl 0 rfl ?_
  refine vv_get F zd_CG_needGood_1 zf_CG 0 rfl rfl 2 (by decide) zw_245 rfl ?_
  refine vv_callV (q0 := 1) (As := []) (rest := []) (wr := [ceO 0 cg [.ref y, .ref x, .ref cr]]) F (cn_CR_failing l G cr a1 a2 st o w hs sb T ah ab bh bb so tk fl rn sr lr nv mm H K f f1 f2 hI hnv) zm_CR_failing ⟨zw_360, zw_361⟩ zw_359 zd_CG_needGood_4 ⟨by decide, by decide⟩ ⟨by decide, by decide⟩ [1, 2, 3, 4, 5, 6, 7, 8, 9, 10, 11] [0] rfl rfl ⟨rfl, rfl, by decide⟩ rfl rfl rfl rfl (Nat.le_of_ble_eq_true rfl) (fun v9 w9 hp9 => ?_)
  obtain ⟨fl2_1, T2_2, H2_3, K2_4, f3_5, hf1_0, rfl, rfl⟩ := hp9
  refine vv_thenE (ws' := [ceO 0 cg [.ref y, .ref x, .ref cr], ceO 1 cr [.ref a1, .ref a2, .ref st, .ref o, .ref w, .ref hs, .int (iI mm), .int (iI fl2_1), .int (iI (bZ rn)), .int (iI sr), .int (iI lr), .int (iI nv), .int (iI mm)], ceI G a1 400 f1, ceI G a2 400 f2, ceO 5 st [.ref sb], ceJ G sb 480 (tw T2_2), ceO 4 o [.ref ah, .ref bh, .ref so], ceO 5 ah [.ref ab], ceJ G ab 480 (tw H2_3), ceO 5 bh [.ref bb], ceJ G bb 480 (tw K2_4), ceI G so 160 f3_5]) (st' := [.int (iI fl2_1)]) (kc' := 0) (ks' := 0) [0, 1, 2, 3, 4, 5, 6, 7, 8, 9, 10, 11] rfl rfl rfl ?_
  have hfr := fai_rg hf1_0.2.2.2.2.1
  have hmr := hf1_0.2.1
  have hgg := hG _ _ _ _ hf1_0
  refine vv_iconst F zd_CG_needGood_7 ?_
  refine vv_icmp_eq (tgt := 21) F zd_CG_needGood_8 rfl (by first | exact ⟨by omega, by omega⟩) (by decide) (fun h1 => ?_) (fun h1 => ?_)
  · exfalso
    omega
  · exact vt_throw F E hx0 hl zd_CG_needGood_11 zd_CG_needGood_14 zd_CG_needGood_15 zd_CG_needGood_17 zd_CG_needGood_20 zw_681 zw_18 zt_690 xa_IS (by decide +kernel) ⟨by decide, by decide⟩ ⟨by decide, by decide⟩ (⟨_, _, _, _, _, hf1_0, hgg, rfl⟩)
