set_option maxHeartbeats 4000000 in
set_option maxRecDepth 100000 in
theorem cn_CG_nodes (l : Launch) (G : vv_G) (cg : Nat) (y : Nat) (x : Nat) (cr : Nat) (w : Nat) (go : Nat) (ac : Int) (rk : Bool) (ta : Nat) (o : Nat) (n : Int) (ch : Int) (tb : Nat) (B : Nat → Nat → Bool) (ah : Nat) (bh : Nat) (so : Nat) (ab : Nat) (H : Nat → Nat → Bool) (bb : Nat) (K : Nat → Nat → Bool) (f : Nat → Int) (u : Int) (hi : 1 ≤ u ∧ u ≤ 160) :
    vv_D l zy_CG_nodes zc_CG_nodes 2 none { frames := 6, cells := 0, slots := 0, locals := 87 } G [.ref cg, .int (iI u)] [ceO 0 cg [.ref y, .ref x, .ref cr], ceO 2 x [.ref w, .ref go, .int (iI ac), .int (iI (bZ rk)), .ref ta, .ref o, .int (iI n), .int (iI ch)], ceO 5 ta [.ref tb], ceJ G tb 480 (tw B), ceO 4 o [.ref ah, .ref bh, .ref so], ceO 5 ah [.ref ab], ceJ G ab 480 (tw H), ceO 5 bh [.ref bb], ceJ G bb 480 (tw K), ceI G so 160 f] none [ceO 0 cg [.ref y, .ref x, .ref cr], ceO 2 x [.ref w, .ref go, .int (iI 0), .int (iI (bZ true)), .ref ta, .ref o, .int (iI u), .int (iI (ch + 1))], ceO 5 ta [.ref tb], ceJ G tb 480 (tw (fun _ _ => false)), ceO 4 o [.ref ah, .ref bh, .ref so], ceO 5 ah [.ref ab], ceJ G ab 480 (tw (idB u.toNat)), ceO 5 bh [.ref bb], ceJ G bb 480 (tw (idB u.toNat)), ceI G so 160 f] := by
  refine vv_met (by decide +kernel) (Nat.le_of_ble_eq_true rfl) rfl ?_
  intro p e s m args below meth c A F
  refine vv_iload_n F zd_CG_nodes_0 rfl 1 rfl ?_
  refine vv_iconst F zd_CG_nodes_1 ?_
  refine vv_icmp_lt (tgt := 12) F zd_CG_nodes_2 rfl (by first | exact ⟨by omega, by omega⟩) (by decide) (fun h1 => ?_) (fun h1 => ?_)
  · exfalso
    omega
  · refine vv_iload_n F zd_CG_nodes_5 rfl 1 rfl ?_
    refine vv_sipush F zd_CG_nodes_6 (by decide) ?_
    refine vv_icmp_le (tgt := 22) F zd_CG_nodes_9 rfl (by first | exact ⟨by omega, by omega⟩) (by decide) (fun h2 => ?_) (fun h2 => ?_)
    · refine vv_aload_n F zd_CG_nodes_22 rfl 0 rfl ?_
      refine vv_get F zd_CG_nodes_23 zf_CG 0 rfl rfl 1 (by decide) zw_244 rfl ?_
      refine vv_iload_n F zd_CG_nodes_26 rfl 1 rfl ?_
      refine vv_callV (q0 := 1) (As := [.int (iI u)]) (rest := []) (wr := [ceO 0 cg [.ref y, .ref x, .ref cr]]) F (cn_NE_begin l G x w go ta o tb B ah ab bh bb so ac rk n ch H K f u ⟨by omega, by omega⟩) zm_NE_begin ⟨zw_93, zw_94⟩ zw_486 zd_CG_nodes_27 ⟨by decide, by decide⟩ ⟨by decide, by decide⟩ [1, 2, 3, 4, 5, 6, 7, 8, 9] [0] rfl rfl ⟨rfl, rfl, by decide⟩ rfl rfl rfl rfl (Nat.le_of_ble_eq_true rfl) (vv_then (ws' := [ceO 0 cg [.ref y, .ref x, .ref cr], ceO 2 x [.ref w, .ref go, .int (iI 0), .int (iI (bZ true)), .ref ta, .ref o, .int (iI u), .int (iI (ch + 1))], ceO 5 ta [.ref tb], ceJ G tb 480 (tw (fun _ _ => false)), ceO 4 o [.ref ah, .ref bh, .ref so], ceO 5 ah [.ref ab], ceJ G ab 480 (tw (idB u.toNat)), ceO 5 bh [.ref bb], ceJ G bb 480 (tw (idB u.toNat)), ceI G so 160 f]) (st' := []) [0, 1, 2, 3, 4, 5, 6, 7, 8, 9] rfl rfl rfl ?_)
      exact vv_vret F zd_CG_nodes_30 ⟨rfl, rfl⟩
    · exfalso
      omega

set_option maxHeartbeats 4000000 in
set_option maxRecDepth 100000 in
theorem cn_CG_nodes_t (l : Launch) (hl : l.stackTraces = false) (G : vv_G) (cg : Nat) (y : Nat) (x : Nat) (cr : Nat) (u : Int) (hi : u < 1 ∨ 160 < u) (hu : rg u) :
    vt_C l zy_CG_nodes zc_CG_nodes 2 none { frames := 6, cells := 1, slots := 6, locals := 87 } G "java/lang/IllegalArgumentException" [.ref cg, .int (iI u)] [ceO 0 cg [.ref y, .ref x, .ref cr]] (fun w7 => w7 = [ceO 0 cg [.ref y, .ref x, .ref cr]]) := by
  refine vt_met (by decide +kernel) (Nat.le_of_ble_eq_true rfl) rfl ?_
  intro p e s m args below meth c A F E hx0
  refine vv_iload_n F zd_CG_nodes_0 rfl 1 rfl ?_
  refine vv_iconst F zd_CG_nodes_1 ?_
  refine vv_icmp_lt (tgt := 12) F zd_CG_nodes_2 rfl (by first | exact ⟨by omega, by omega⟩ | exact hu) (by decide) (fun h1 => ?_) (fun h1 => ?_)
  · exact vt_throw F E hx0 hl zd_CG_nodes_12 zd_CG_nodes_15 zd_CG_nodes_16 zd_CG_nodes_18 zd_CG_nodes_21 zw_418 zw_13 zt_459 xa_IA (by decide +kernel) ⟨by decide, by decide⟩ ⟨by decide, by decide⟩ rfl
  · refine vv_iload_n F zd_CG_nodes_5 rfl 1 rfl ?_
    refine vv_sipush F zd_CG_nodes_6 (by decide) ?_
    refine vv_icmp_le (tgt := 22) F zd_CG_nodes_9 rfl (by first | exact ⟨by omega, by omega⟩ | exact hu) (by decide) (fun h2 => ?_) (fun h2 => ?_)
    · exfalso
      omega
    · exact vt_throw F E hx0 hl zd_CG_nodes_12 zd_CG_nodes_15 zd_CG_nodes_16 zd_CG_nodes_18 zd_CG_nodes_21 zw_418 zw_13 zt_459 xa_IA (by decide +kernel) ⟨by decide, by decide⟩ ⟨by decide, by decide⟩ rfl

set_option maxHeartbeats 4000000 in
set_option maxRecDepth 100000 in
theorem cn_CG_arc (l : Launch) (G : vv_G) (cg : Nat) (y : Nat) (x : Nat) (cr : Nat) (w : Nat) (go : Nat) (ac : Int) (rk : Bool) (ta : Nat) (o : Nat) (n : Int) (ch : Int) (tb : Nat) (B : Nat → Nat → Bool) (ah : Nat) (bh : Nat) (so : Nat) (ab : Nat) (H : Nat → Nat → Bool) (bb : Nat) (K : Nat → Nat → Bool) (f : Nat → Int) (u : Int) (v : Int) (hn : 1 ≤ n ∧ n ≤ 160) (hi : 0 ≤ u ∧ u < n) (hj : 0 ≤ v ∧ v < n) (wH : wfB H) (wK : wfB K) (ha : 0 ≤ ac ∧ ac ≤ 1000) :
    vv_C l zy_CG_arc zc_CG_arc 3 (some .int) { frames := 7, cells := 0, slots := 0, locals := 116 } G [.ref cg, .int (iI u), .int (iI v)] [ceO 0 cg [.ref y, .ref x, .ref cr], ceO 2 x [.ref w, .ref go, .int (iI ac), .int (iI (bZ rk)), .ref ta, .ref o, .int (iI n), .int (iI ch)], ceO 5 ta [.ref tb], ceJ G tb 480 (tw B), ceO 4 o [.ref ah, .ref bh, .ref so], ceO 5 ah [.ref ab], ceJ G ab 480 (tw H), ceO 5 bh [.ref bb], ceJ G bb 480 (tw K), ceI G so 160 f] (fun v7 w7 => ∃ (B2 : Nat → Nat → Bool) (ac2 : Int) (ch2 : Int) (H2 : Nat → Nat → Bool) (K2 : Nat → Nat → Bool) (f2 : Nat → Int) (z : Int), (nadd B ac rk H K ch u.toNat v.toNat B2 ac2 ch2 H2 K2 z) ∧ v7 = some (.int (iI z)) ∧ w7 = [ceO 0 cg [.ref y, .ref x, .ref cr], ceO 2 x [.ref w, .ref go, .int (iI ac2), .int (iI (bZ rk)), .ref ta, .ref o, .int (iI n), .int (iI ch2)], ceO 5 ta [.ref tb], ceJ G tb 480 (tw B2), ceO 4 o [.ref ah, .ref bh, .ref so], ceO 5 ah [.ref ab], ceJ G ab 480 (tw H2), ceO 5 bh [.ref bb], ceJ G bb 480 (tw K2), ceI G so 160 f2]) := by
  refine vv_met (by decide +kernel) (Nat.le_of_ble_eq_true rfl) rfl ?_
  intro p e s m args below meth c A F
  refine vv_aload_n F zd_CG_arc_0 rfl 0 rfl ?_
  refine vv_iload_n F zd_CG_arc_1 rfl 1 rfl ?_
  refine vv_callV (q0 := 0) (As := [.int (iI u)]) (rest := []) (wr := [ceO 5 ta [.ref tb], ceJ G tb 480 (tw B), ceO 4 o [.ref ah, .ref bh, .ref so], ceO 5 ah [.ref ab], ceJ G ab 480 (tw H), ceO 5 bh [.ref bb], ceJ G bb 480 (tw K), ceI G so 160 f]) F (cn_CG_needNode l G cg y x cr w go ac rk ta o n ch u ⟨by omega, by omega⟩ ⟨by omega, by omega⟩) zm_CG_needNode ⟨zw_497, zs_CG_needNode⟩ zw_495 zd_CG_arc_2 ⟨by decide, by decide⟩ ⟨by decide, by decide⟩ [0, 1] [2, 3, 4, 5, 6, 7, 8, 9] rfl rfl ⟨rfl, rfl, by decide⟩ rfl rfl rfl rfl (Nat.le_of_ble_eq_true rfl) (vv_then (ws' := [ceO 0 cg [.ref y, .ref x, .ref cr], ceO 2 x [.ref w, .ref go, .int (iI ac), .int (iI (bZ rk)), .ref ta, .ref o, .int (iI n), .int (iI ch)], ceO 5 ta [.ref tb], ceJ G tb 480 (tw B), ceO 4 o [.ref ah, .ref bh, .ref so], ceO 5 ah [.ref ab], ceJ G ab 480 (tw H), ceO 5 bh [.ref bb], ceJ G bb 480 (tw K), ceI G so 160 f]) (st' := []) [8, 9, 0, 1, 2, 3, 4, 5, 6, 7] rfl rfl rfl ?_)
  refine vv_aload_n F zd_CG_arc_5 rfl 0 rfl ?_
  refine vv_iload_n F zd_CG_arc_6 rfl 2 rfl ?_
  refine vv_callV (q0 := 0) (As := [.int (iI v)]) (rest := []) (wr := [ceO 5 ta [.ref tb], ceJ G tb 480 (tw B), ceO 4 o [.ref ah, .ref bh, .ref so], ceO 5 ah [.ref ab], ceJ G ab 480 (tw H), ceO 5 bh [.ref bb], ceJ G bb 480 (tw K), ceI G so 160 f]) F (cn_CG_needNode l G cg y x cr w go ac rk ta o n ch v ⟨by omega, by omega⟩ ⟨by omega, by omega⟩) zm_CG_needNode ⟨zw_497, zs_CG_needNode⟩ zw_495 zd_CG_arc_7 ⟨by decide, by decide⟩ ⟨by decide, by decide⟩ [0, 1] [2, 3, 4, 5, 6, 7, 8, 9] rfl rfl ⟨rfl, rfl, by decide⟩ rfl rfl rfl rfl (Nat.le_of_ble_eq_true rfl) (vv_then (ws' := [ceO 0 cg [.ref y, .ref x, .ref cr], ceO 2 x [.ref w, .ref go, .int (iI ac), .int (iI (bZ rk)), .ref ta, .ref o, .int (iI n), .int (iI ch)], ceO 5 ta [.ref tb], ceJ G tb 480 (tw B), ceO 4 o [.ref ah, .ref bh, .ref so], ceO 5 ah [.ref ab], ceJ G ab 480 (tw H), ceO 5 bh [.ref bb], ceJ G bb 480 (tw K), ceI G so 160 f]) (st' := []) [8, 9, 0, 1, 2, 3, 4, 5, 6, 7] rfl rfl rfl ?_)
  refine vv_aload_n F zd_CG_arc_10 rfl 0 rfl ?_
  refine vv_get F zd_CG_arc_11 zf_CG 0 rfl rfl 1 (by decide) zw_244 rfl ?_
  refine vv_iload_n F zd_CG_arc_14 rfl 1 rfl ?_
  refine vv_iload_n F zd_CG_arc_15 rfl 2 rfl ?_
  refine vv_callV (q0 := 1) (As := [.int (iI u), .int (iI v)]) (rest := []) (wr := [ceO 0 cg [.ref y, .ref x, .ref cr]]) F (cn_NE_add l G x w go ta o tb B ah ab bh bb so ac rk n ch H K f u v (by first | exact wH | assumption) (by first | exact wK | assumption) ⟨by omega, by omega⟩ ⟨by omega, by omega⟩ ⟨by omega, by omega⟩) zm_NE_add ⟨zw_516, zw_517⟩ zw_515 zd_CG_arc_16 ⟨by decide, by decide⟩ ⟨by decide, by decide⟩ [1, 2, 3, 4, 5, 6, 7, 8, 9] [0] rfl rfl ⟨rfl, rfl, by decide⟩ rfl rfl rfl rfl (Nat.le_of_ble_eq_true rfl) (fun v9 w9 hp9 => ?_)
  obtain ⟨B2_1, ac2_2, ch2_3, H2_4, K2_5, f2_6, z_7, hf1_0, rfl, rfl⟩ := hp9
  refine vv_thenE (ws' := [ceO 0 cg [.ref y, .ref x, .ref cr], ceO 2 x [.ref w, .ref go, .int (iI ac2_2), .int (iI (bZ rk)), .ref ta, .ref o, .int (iI n), .int (iI ch2_3)], ceO 5 ta [.ref tb], ceJ G tb 480 (tw B2_1), ceO 4 o [.ref ah, .ref bh, .ref so], ceO 5 ah [.ref ab], ceJ G ab 480 (tw H2_4), ceO 5 bh [.ref bb], ceJ G bb 480 (tw K2_5), ceI G so 160 f2_6]) (st' := [.int (iI z_7)]) (kc' := 0) (ks' := 0) [0, 1, 2, 3, 4, 5, 6, 7, 8, 9] rfl rfl rfl ?_
  exact vv_iret F zd_CG_arc_19 ⟨_, _, _, _, _, _, _, hf1_0, rfl, rfl⟩

set_option maxHeartbeats 4000000 in
set_option maxRecDepth 100000 in
theorem cn_CG_arc_t1 (l : Launch) (hl : l.stackTraces = false) (G : vv_G) (cg : Nat) (y : Nat) (x : Nat) (cr : Nat) (w : Nat) (go : Nat) (ac : Int) (rk : Bool) (ta : Nat) (o : Nat) (n : Int) (ch : Int) (u : Int) (v : Int) (hi : u < 0 ∨ n ≤ u) (hn : 1 ≤ n ∧ n ≤ 160) (hu : rg u) (hv : rg v) :
    vt_C l zy_CG_arc zc_CG_arc 3 (some .int) { frames := 7, cells := 1, slots := 6, locals := 116 } G "java/lang/IndexOutOfBoundsException" [.ref cg, .int (iI u), .int (iI v)] [ceO 0 cg [.ref y, .ref x, .ref cr], ceO 2 x [.ref w, .ref go, .int (iI ac), .int (iI (bZ rk)), .ref ta, .ref o, .int (iI n), .int (iI ch)]] (fun w7 => w7 = [ceO 0 cg [.ref y, .ref x, .ref cr], ceO 2 x [.ref w, .ref go, .int (iI ac), .int (iI (bZ rk)), .ref ta, .ref o, .int (iI n), .int (iI ch)]]) := by
  refine vt_met (by decide +kernel) (Nat.le_of_ble_eq_true rfl) rfl ?_
  intro p e s m args below meth c A F E hx0
  refine vv_aload_n F zd_CG_arc_0 rfl 0 rfl ?_
  refine vv_iload_n F zd_CG_arc_1 rfl 1 rfl ?_
  refine vt_prop (q0 := 0) (As := [.int (iI u)]) (rest := []) (wr := []) F E hx0 (cn_CG_needNode_t l hl G cg y x cr w go ac rk ta o n ch u (by omega) ⟨by omega, by omega⟩ hu) zm_CG_needNode ⟨zw_497, zs_CG_needNode⟩ zw_495 zd_CG_arc_2 ⟨by decide, by decide⟩ ⟨by decide, by decide⟩ [0, 1] [] rfl rfl ⟨rfl, rfl, by decide⟩ rfl rfl rfl rfl (Nat.le_of_ble_eq_true rfl) [0, 1] rfl ?_
  rintro w9 rfl
  exact ⟨[ceO 0 cg [.ref y, .ref x, .ref cr], ceO 2 x [.ref w, .ref go, .int (iI ac), .int (iI (bZ rk)), .ref ta, .ref o, .int (iI n), .int (iI ch)]], rfl, rfl⟩
set_option maxHeartbeats 4000000 in
set_option maxRecDepth 100000 in
theorem cn_CG_arc_t2 (l : Launch) (hl : l.stackTraces = false) (G : vv_G) (cg : Nat) (y : Nat) (x : Nat) (cr : Nat) (w : Nat) (go : Nat) (ac : Int) (rk : Bool) (ta : Nat) (o : Nat) (n : Int) (ch : Int) (u : Int) (v : Int) (hi : 0 ≤ u ∧ u < n) (hj : v < 0 ∨ n ≤ v) (hn : 1 ≤ n ∧ n ≤ 160) (hu : rg u) (hv : rg v) :
    vt_C l zy_CG_arc zc_CG_arc 3 (some .int) { frames := 7, cells := 1, slots := 6, locals := 116 } G "java/lang/IndexOutOfBoundsException" [.ref cg, .int (iI u), .int (iI v)] [ceO 0 cg [.ref y, .ref x, .ref cr], ceO 2 x [.ref w, .ref go, .int (iI ac), .int (iI (bZ rk)), .ref ta, .ref o, .int (iI n), .int (iI ch)]] (fun w7 => w7 = [ceO 0 cg [.ref y, .ref x, .ref cr], ceO 2 x [.ref w, .ref go, .int (iI ac), .int (iI (bZ rk)), .ref ta, .ref o, .int (iI n), .int (iI ch)]]) := by
  refine vt_met (by decide +kernel) (Nat.le_of_ble_eq_true rfl) rfl ?_
  intro p e s m args below meth c A F E hx0
  refine vv_aload_n F zd_CG_arc_0 rfl 0 rfl ?_
  refine vv_iload_n F zd_CG_arc_1 rfl 1 rfl ?_
  refine vv_callV (q0 := 0) (As := [.int (iI u)]) (rest := []) (wr := []) F (cn_CG_needNode l G cg y x cr w go ac rk ta o n ch u ⟨by omega, by omega⟩ ⟨by omega, by omega⟩) zm_CG_needNode ⟨zw_497, zs_CG_needNode⟩ zw_495 zd_CG_arc_2 ⟨by decide, by decide⟩ ⟨by decide, by decide⟩ [0, 1] [] rfl rfl ⟨rfl, rfl, by decide⟩ rfl rfl rfl rfl (Nat.le_of_ble_eq_true rfl) (vv_then (ws' := [ceO 0 cg [.ref y, .ref x, .ref cr], ceO 2 x [.ref w, .ref go, .int (iI ac), .int (iI (bZ rk)), .ref ta, .ref o, .int (iI n), .int (iI ch)]]) (st' := []) [0, 1] rfl rfl rfl ?_)
  refine vv_aload_n F zd_CG_arc_5 rfl 0 rfl ?_
  refine vv_iload_n F zd_CG_arc_6 rfl 2 rfl ?_
  refine vt_prop (q0 := 0) (As := [.int (iI v)]) (rest := []) (wr := []) F E hx0 (cn_CG_needNode_t l hl G cg y x cr w go ac rk ta o n ch v (by omega) ⟨by omega, by omega⟩ hv) zm_CG_needNode ⟨zw_497, zs_CG_needNode⟩ zw_495 zd_CG_arc_7 ⟨by decide, by decide⟩ ⟨by decide, by decide⟩ [0, 1] [] rfl rfl ⟨rfl, rfl, by decide⟩ rfl rfl rfl rfl (Nat.le_of_ble_eq_true rfl) [0, 1] rfl ?_
  rintro w9 rfl
  exact ⟨[ceO 0 cg [.ref y, .ref x, .ref cr], ceO 2 x [.ref w, .ref go, .int (iI ac), .int (iI (bZ rk)), .ref ta, .ref o, .int (iI n), .int (iI ch)]], rfl, rfl⟩
theorem cn_CG_arc_t (l : Launch) (hl : l.stackTraces = false) (G : vv_G) (cg : Nat) (y : Nat) (x : Nat) (cr : Nat) (w : Nat) (go : Nat) (ac : Int) (rk : Bool) (ta : Nat) (o : Nat) (n : Int) (ch : Int) (u : Int) (v : Int) (hb : (u < 0 ∨ n ≤ u) ∨ (v < 0 ∨ n ≤ v)) (hn : 1 ≤ n ∧ n ≤ 160) (hu : rg u) (hv : rg v) :
    vt_C l zy_CG_arc zc_CG_arc 3 (some .int) { frames := 7, cells := 1, slots := 6, locals := 116 } G "java/lang/IndexOutOfBoundsException" [.ref cg, .int (iI u), .int (iI v)] [ceO 0 cg [.ref y, .ref x, .ref cr], ceO 2 x [.ref w, .ref go, .int (iI ac), .int (iI (bZ rk)), .ref ta, .ref o, .int (iI n), .int (iI ch)]] (fun w7 => w7 = [ceO 0 cg [.ref y, .ref x, .ref cr], ceO 2 x [.ref w, .ref go, .int (iI ac), .int (iI (bZ rk)), .ref ta, .ref o, .int (iI n), .int (iI ch)]]) := by
  by_cases h : u < 0 ∨ n ≤ u
  · exact cn_CG_arc_t1 l hl G cg y x cr w go ac rk ta o n ch u v h hn hu hv
  · exact cn_CG_arc_t2 l hl G cg y x cr w go ac rk ta o n ch u v ⟨by omega, by omega⟩ (by omega) hn hu hv

set_option maxHeartbeats 4000000 in
set_option maxRecDepth 100000 in
theorem cn_CG_cut (l : Launch) (G : vv_G) (cg : Nat) (y : Nat) (x : Nat) (cr : Nat) (w : Nat) (go : Nat) (ac : Int) (rk : Bool) (ta : Nat) (o : Nat) (n : Int) (ch : Int) (tb : Nat) (B : Nat → Nat → Bool) (u : Int) (v : Int) (hn : 1 ≤ n ∧ n ≤ 160) (hi : 0 ≤ u ∧ u < n) (hj : 0 ≤ v ∧ v < n) :
    vv_C l zy_CG_cut zc_CG_cut 3 (some .boolean) { frames := 7, cells := 0, slots := 0, locals := 104 } G [.ref cg, .int (iI u), .int (iI v)] [ceO 0 cg [.ref y, .ref x, .ref cr], ceO 2 x [.ref w, .ref go, .int (iI ac), .int (iI (bZ rk)), .ref ta, .ref o, .int (iI n), .int (iI ch)], ceO 5 ta [.ref tb], ceJ G tb 480 (tw B)] (fun v7 w7 => ∃ (B2 : Nat → Nat → Bool) (ac2 : Int) (rk2 : Bool) (ch2 : Int) (z : Bool), (nrem B ac rk ch u.toNat v.toNat B2 ac2 rk2 ch2 z) ∧ v7 = some (.int (iI (bZ z))) ∧ w7 = [ceO 0 cg [.ref y, .ref x, .ref cr], ceO 2 x [.ref w, .ref go, .int (iI ac2), .int (iI (bZ rk2)), .ref ta, .ref o, .int (iI n), .int (iI ch2)], ceO 5 ta [.ref tb], ceJ G tb 480 (tw B2)]) := by
  refine vv_met (by decide +kernel) (Nat.le_of_ble_eq_true rfl) rfl ?_
  intro p e s m args below meth c A F
  refine vv_aload_n F zd_CG_cut_0 rfl 0 rfl ?_
  refine vv_iload_n F zd_CG_cut_1 rfl 1 rfl ?_
  refine vv_callV (q0 := 0) (As := [.int (iI u)]) (rest := []) (wr := [ceO 5 ta [.ref tb], ceJ G tb 480 (tw B)]) F (cn_CG_needNode l G cg y x cr w go ac rk ta o n ch u ⟨by omega, by omega⟩ ⟨by omega, by omega⟩) zm_CG_needNode ⟨zw_497, zs_CG_needNode⟩ zw_495 zd_CG_cut_2 ⟨by decide, by decide⟩ ⟨by decide, by decide⟩ [0, 1] [2, 3] rfl rfl ⟨rfl, rfl, by decide⟩ rfl rfl rfl rfl (Nat.le_of_ble_eq_true rfl) (vv_then (ws' := [ceO 0 cg [.ref y, .ref x, .ref cr], ceO 2 x [.ref w, .ref go, .int (iI ac), .int (iI (bZ rk)), .ref ta, .ref o, .int (iI n), .int (iI ch)], ceO 5 ta [.ref tb], ceJ G tb 480 (tw B)]) (st' := []) [2, 3, 0, 1] rfl rfl rfl ?_)
  refine vv_aload_n F zd_CG_cut_5 rfl 0 rfl ?_
  refine vv_iload_n F zd_CG_cut_6 rfl 2 rfl ?_
  refine vv_callV (q0 := 0) (As := [.int (iI v)]) (rest := []) (wr := [ceO 5 ta [.ref tb], ceJ G tb 480 (tw B)]) F (cn_CG_needNode l G cg y x cr w go ac rk ta o n ch v ⟨by omega, by omega⟩ ⟨by omega, by omega⟩) zm_CG_needNode ⟨zw_497, zs_CG_needNode⟩ zw_495 zd_CG_cut_7 ⟨by decide, by decide⟩ ⟨by decide, by decide⟩ [0, 1] [2, 3] rfl rfl ⟨rfl, rfl, by decide⟩ rfl rfl rfl rfl (Nat.le_of_ble_eq_true rfl) (vv_then (ws' := [ceO 0 cg [.ref y, .ref x, .ref cr], ceO 2 x [.ref w, .ref go, .int (iI ac), .int (iI (bZ rk)), .ref ta, .ref o, .int (iI n), .int (iI ch)], ceO 5 ta [.ref tb], ceJ G tb 480 (tw B)]) (st' := []) [2, 3, 0, 1] rfl rfl rfl ?_)
  refine vv_aload_n F zd_CG_cut_10 rfl 0 rfl ?_
  refine vv_get F zd_CG_cut_11 zf_CG 0 rfl rfl 1 (by decide) zw_244 rfl ?_
  refine vv_iload_n F zd_CG_cut_14 rfl 1 rfl ?_
  refine vv_iload_n F zd_CG_cut_15 rfl 2 rfl ?_
  refine vv_callV (q0 := 1) (As := [.int (iI u), .int (iI v)]) (rest := []) (wr := [ceO 0 cg [.ref y, .ref x, .ref cr]]) F (cn_NE_remove l G x w go ta o tb B ac rk n ch u v ⟨by omega, by omega⟩ ⟨by omega, by omega⟩) zm_NE_remove ⟨zw_529, zw_530⟩ zw_528 zd_CG_cut_16 ⟨by decide, by decide⟩ ⟨by decide, by decide⟩ [1, 2, 3] [0] rfl rfl ⟨rfl, rfl, by decide⟩ rfl rfl rfl rfl (Nat.le_of_ble_eq_true rfl) (fun v9 w9 hp9 => ?_)
  obtain ⟨B2_1, ac2_2, rk2_3, ch2_4, z_5, hf1_0, rfl, rfl⟩ := hp9
  refine vv_thenE (ws' := [ceO 0 cg [.ref y, .ref x, .ref cr], ceO 2 x [.ref w, .ref go, .int (iI ac2_2), .int (iI (bZ rk2_3)), .ref ta, .ref o, .int (iI n), .int (iI ch2_4)], ceO 5 ta [.ref tb], ceJ G tb 480 (tw B2_1)]) (st' := [.int (iI (bZ z_5))]) (kc' := 0) (ks' := 0) [0, 1, 2, 3] rfl rfl rfl ?_
  exact vv_zret F zd_CG_cut_19 ⟨_, _, _, _, _, hf1_0, rfl, rfl⟩

set_option maxHeartbeats 4000000 in
set_option maxRecDepth 100000 in
theorem cn_CG_cut_t1 (l : Launch) (hl : l.stackTraces = false) (G : vv_G) (cg : Nat) (y : Nat) (x : Nat) (cr : Nat) (w : Nat) (go : Nat) (ac : Int) (rk : Bool) (ta : Nat) (o : Nat) (n : Int) (ch : Int) (u : Int) (v : Int) (hi : u < 0 ∨ n ≤ u) (hn : 1 ≤ n ∧ n ≤ 160) (hu : rg u) (hv : rg v) :
    vt_C l zy_CG_cut zc_CG_cut 3 (some .boolean) { frames := 7, cells := 1, slots := 6, locals := 104 } G "java/lang/IndexOutOfBoundsException" [.ref cg, .int (iI u), .int (iI v)] [ceO 0 cg [.ref y, .ref x, .ref cr], ceO 2 x [.ref w, .ref go, .int (iI ac), .int (iI (bZ rk)), .ref ta, .ref o, .int (iI n), .int (iI ch)]] (fun w7 => w7 = [ceO 0 cg [.ref y, .ref x, .ref cr], ceO 2 x [.ref w, .ref go, .int (iI ac), .int (iI (bZ rk)), .ref ta, .ref o, .int (iI n), .int (iI ch)]]) := by
  refine vt_met (by decide +kernel) (Nat.le_of_ble_eq_true rfl) rfl ?_
  intro p e s m args below meth c A F E hx0
  refine vv_aload_n F zd_CG_cut_0 rfl 0 rfl ?_
  refine vv_iload_n F zd_CG_cut_1 rfl 1 rfl ?_
  refine vt_prop (q0 := 0) (As := [.int (iI u)]) (rest := []) (wr := []) F E hx0 (cn_CG_needNode_t l hl G cg y x cr w go ac rk ta o n ch u (by omega) ⟨by omega, by omega⟩ hu) zm_CG_needNode ⟨zw_497, zs_CG_needNode⟩ zw_495 zd_CG_cut_2 ⟨by decide, by decide⟩ ⟨by decide, by decide⟩ [0, 1] [] rfl rfl ⟨rfl, rfl, by decide⟩ rfl rfl rfl rfl (Nat.le_of_ble_eq_true rfl) [0, 1] rfl ?_
  rintro w9 rfl
  exact ⟨[ceO 0 cg [.ref y, .ref x, .ref cr], ceO 2 x [.ref w, .ref go, .int (iI ac), .int (iI (bZ rk)), .ref ta, .ref o, .int (iI n), .int (iI ch)]], rfl, rfl⟩
set_option maxHeartbeats 4000000 in
set_option maxRecDepth 100000 in
theorem cn_CG_cut_t2 (l : Launch) (hl : l.stackTraces = false) (G : vv_G) (cg : Nat) (y : Nat) (x : Nat) (cr : Nat) (w : Nat) (go : Nat) (ac : Int) (rk : Bool) (ta : Nat) (o : Nat) (n : Int) (ch : Int) (u : Int) (v : Int) (hi : 0 ≤ u ∧ u < n) (hj : v < 0 ∨ n ≤ v) (hn : 1 ≤ n ∧ n ≤ 160) (hu : rg u) (hv : rg v) :
    vt_C l zy_CG_cut zc_CG_cut 3 (some .boolean) { frames := 7, cells := 1, slots := 6, locals := 104 } G "java/lang/IndexOutOfBoundsException" [.ref cg, .int (iI u), .int (iI v)] [ceO 0 cg [.ref y, .ref x, .ref cr], ceO 2 x [.ref w, .ref go, .int (iI ac), .int (iI (bZ rk)), .ref ta, .ref o, .int (iI n), .int (iI ch)]] (fun w7 => w7 = [ceO 0 cg [.ref y, .ref x, .ref cr], ceO 2 x [.ref w, .ref go, .int (iI ac), .int (iI (bZ rk)), .ref ta, .ref o, .int (iI n), .int (iI ch)]]) := by
  refine vt_met (by decide +kernel) (Nat.le_of_ble_eq_true rfl) rfl ?_
  intro p e s m args below meth c A F E hx0
  refine vv_aload_n F zd_CG_cut_0 rfl 0 rfl ?_
  refine vv_iload_n F zd_CG_cut_1 rfl 1 rfl ?_
  refine vv_callV (q0 := 0) (As := [.int (iI u)]) (rest := []) (wr := []) F (cn_CG_needNode l G cg y x cr w go ac rk ta o n ch u ⟨by omega, by omega⟩ ⟨by omega, by omega⟩) zm_CG_needNode ⟨zw_497, zs_CG_needNode⟩ zw_495 zd_CG_cut_2 ⟨by decide, by decide⟩ ⟨by decide, by decide⟩ [0, 1] [] rfl rfl ⟨rfl, rfl, by decide⟩ rfl rfl rfl rfl (Nat.le_of_ble_eq_true rfl) (vv_then (ws' := [ceO 0 cg [.ref y, .ref x, .ref cr], ceO 2 x [.ref w, .ref go, .int (iI ac), .int (iI (bZ rk)), .ref ta, .ref o, .int (iI n), .int (iI ch)]]) (st' := []) [0, 1] rfl rfl rfl ?_)
  refine vv_aload_n F zd_CG_cut_5 rfl 0 rfl ?_
  refine vv_iload_n F zd_CG_cut_6 rfl 2 rfl ?_
  refine vt_prop (q0 := 0) (As := [.int (iI v)]) (rest := []) (wr := []) F E hx0 (cn_CG_needNode_t l hl G cg y x cr w go ac rk ta o n ch v (by omega) ⟨by omega, by omega⟩ hv) zm_CG_needNode ⟨zw_497, zs_CG_needNode⟩ zw_495 zd_CG_cut_7 ⟨by decide, by decide⟩ ⟨by decide, by decide⟩ [0, 1] [] rfl rfl ⟨rfl, rfl, by decide⟩ rfl rfl rfl rfl (Nat.le_of_ble_eq_true rfl) [0, 1] rfl ?_
  rintro w9 rfl
  exact ⟨[ceO 0 cg [.ref y, .ref x, .ref cr], ceO 2 x [.ref w, .ref go, .int (iI ac), .int (iI (bZ rk)), .ref ta, .ref o, .int (iI n), .int (iI ch)]], rfl, rfl⟩
theorem cn_CG_cut_t (l : Launch) (hl : l.stackTraces = false) (G : vv_G) (cg : Nat) (y : Nat) (x : Nat) (cr : Nat) (w : Nat) (go : Nat) (ac : Int) (rk : Bool) (ta : Nat) (o : Nat) (n : Int) (ch : Int) (u : Int) (v : Int) (hb : (u < 0 ∨ n ≤ u) ∨ (v < 0 ∨ n ≤ v)) (hn : 1 ≤ n ∧ n ≤ 160) (hu : rg u) (hv : rg v) :
    vt_C l zy_CG_cut zc_CG_cut 3 (some .boolean) { frames := 7, cells := 1, slots := 6, locals := 104 } G "java/lang/IndexOutOfBoundsException" [.ref cg, .int (iI u), .int (iI v)] [ceO 0 cg [.ref y, .ref x, .ref cr], ceO 2 x [.ref w, .ref go, .int (iI ac), .int (iI (bZ rk)), .ref ta, .ref o, .int (iI n), .int (iI ch)]] (fun w7 => w7 = [ceO 0 cg [.ref y, .ref x, .ref cr], ceO 2 x [.ref w, .ref go, .int (iI ac), .int (iI (bZ rk)), .ref ta, .ref o, .int (iI n), .int (iI ch)]]) := by
  by_cases h : u < 0 ∨ n ≤ u
  · exact cn_CG_cut_t1 l hl G cg y x cr w go ac rk ta o n ch u v h hn hu hv
  · exact cn_CG_cut_t2 l hl G cg y x cr w go ac rk ta o n ch u v ⟨by omega, by omega⟩ (by omega) hn hu hv

set_option maxHeartbeats 4000000 in
set_option maxRecDepth 100000 in
theorem cn_CG_walk (l : Launch) (G : vv_G) (cg : Nat) (y : Nat) (x : Nat) (cr : Nat) (w : Nat) (go : Nat) (ac : Int) (rk : Bool) (ta : Nat) (o : Nat) (n : Int) (ch : Int) (qa : Nat) (ra : Nat) (sa : Nat) (fa : Nat) (q : Nat → Int) (r : Nat → Int) (sb : Nat) (S : Nat → Nat → Bool) (fb : Nat) (Fr : Nat → Nat → Bool) (tb : Nat) (B : Nat → Nat → Bool) (u : Int) (v : Int) (hn : 1 ≤ n ∧ n ≤ 160) (hi : 0 ≤ u ∧ u < n) (hj : 0 ≤ v ∧ v < n) (wB : wfB B) :
    vv_C l zy_CG_walk zc_CG_walk 3 (some .int) { frames := 7, cells := 0, slots := 0, locals := 119 } G [.ref cg, .int (iI u), .int (iI v)] [ceO 0 cg [.ref y, .ref x, .ref cr], ceO 2 x [.ref w, .ref go, .int (iI ac), .int (iI (bZ rk)), .ref ta, .ref o, .int (iI n), .int (iI ch)], ceO 6 w [.ref qa, .ref ra, .ref sa, .ref fa], ceI G qa 160 q, ceI G ra 160 r, ceO 5 sa [.ref sb], ceJ G sb 3 (tw S), ceO 5 fa [.ref fb], ceJ G fb 3 (tw Fr), ceO 5 ta [.ref tb], ceJ G tb 480 (tw B)] (fun v7 w7 => ∃ (q2 : Nat → Int) (r2 : Nat → Int) (S2 : Nat → Nat → Bool) (F2 : Nat → Nat → Bool) (z : Int), (shB B u.toNat v.toNat z) ∧ v7 = some (.int (iI z)) ∧ w7 = [ceO 0 cg [.ref y, .ref x, .ref cr], ceO 2 x [.ref w, .ref go, .int (iI ac), .int (iI (bZ rk)), .ref ta, .ref o, .int (iI n), .int (iI ch)], ceO 6 w [.ref qa, .ref ra, .ref sa, .ref fa], ceI G qa 160 q2, ceI G ra 160 r2, ceO 5 sa [.ref sb], ceJ G sb 3 (tw S2), ceO 5 fa [.ref fb], ceJ G fb 3 (tw F2), ceO 5 ta [.ref tb], ceJ G tb 480 (tw B)]) := by
  refine vv_met (by decide +kernel) (Nat.le_of_ble_eq_true rfl) rfl ?_
  intro p e s m args below meth c A F
  refine vv_aload_n F zd_CG_walk_0 rfl 0 rfl ?_
  refine vv_iload_n F zd_CG_walk_1 rfl 1 rfl ?_
  refine vv_callV (q0 := 0) (As := [.int (iI u)]) (rest := []) (wr := [ceO 6 w [.ref qa, .ref ra, .ref sa, .ref fa], ceI G qa 160 q, ceI G ra 160 r, ceO 5 sa [.ref sb], ceJ G sb 3 (tw S), ceO 5 fa [.ref fb], ceJ G fb 3 (tw Fr), ceO 5 ta [.ref tb], ceJ G tb 480 (tw B)]) F (cn_CG_needNode l G cg y x cr w go ac rk ta o n ch u ⟨by omega, by omega⟩ ⟨by omega, by omega⟩) zm_CG_needNode ⟨zw_497, zs_CG_needNode⟩ zw_495 zd_CG_walk_2 ⟨by decide, by decide⟩ ⟨by decide, by decide⟩ [0, 1] [2, 3, 4, 5, 6, 7, 8, 9, 10] rfl rfl ⟨rfl, rfl, by decide⟩ rfl rfl rfl rfl (Nat.le_of_ble_eq_true rfl) (vv_then (ws' := [ceO 0 cg [.ref y, .ref x, .ref cr], ceO 2 x [.ref w, .ref go, .int (iI ac), .int (iI (bZ rk)), .ref ta, .ref o, .int (iI n), .int (iI ch)], ceO 6 w [.ref qa, .ref ra, .ref sa, .ref fa], ceI G qa 160 q, ceI G ra 160 r, ceO 5 sa [.ref sb], ceJ G sb 3 (tw S), ceO 5 fa [.ref fb], ceJ G fb 3 (tw Fr), ceO 5 ta [.ref tb], ceJ G tb 480 (tw B)]) (st' := []) [9, 10, 0, 1, 2, 3, 4, 5, 6, 7, 8] rfl rfl rfl ?_)
  refine vv_aload_n F zd_CG_walk_5 rfl 0 rfl ?_
  refine vv_iload_n F zd_CG_walk_6 rfl 2 rfl ?_
  refine vv_callV (q0 := 0) (As := [.int (iI v)]) (rest := []) (wr := [ceO 6 w [.ref qa, .ref ra, .ref sa, .ref fa], ceI G qa 160 q, ceI G ra 160 r, ceO 5 sa [.ref sb], ceJ G sb 3 (tw S), ceO 5 fa [.ref fb], ceJ G fb 3 (tw Fr), ceO 5 ta [.ref tb], ceJ G tb 480 (tw B)]) F (cn_CG_needNode l G cg y x cr w go ac rk ta o n ch v ⟨by omega, by omega⟩ ⟨by omega, by omega⟩) zm_CG_needNode ⟨zw_497, zs_CG_needNode⟩ zw_495 zd_CG_walk_7 ⟨by decide, by decide⟩ ⟨by decide, by decide⟩ [0, 1] [2, 3, 4, 5, 6, 7, 8, 9, 10] rfl rfl ⟨rfl, rfl, by decide⟩ rfl rfl rfl rfl (Nat.le_of_ble_eq_true rfl) (vv_then (ws' := [ceO 0 cg [.ref y, .ref x, .ref cr], ceO 2 x [.ref w, .ref go, .int (iI ac), .int (iI (bZ rk)), .ref ta, .ref o, .int (iI n), .int (iI ch)], ceO 6 w [.ref qa, .ref ra, .ref sa, .ref fa], ceI G qa 160 q, ceI G ra 160 r, ceO 5 sa [.ref sb], ceJ G sb 3 (tw S), ceO 5 fa [.ref fb], ceJ G fb 3 (tw Fr), ceO 5 ta [.ref tb], ceJ G tb 480 (tw B)]) (st' := []) [9, 10, 0, 1, 2, 3, 4, 5, 6, 7, 8] rfl rfl rfl ?_)
  refine vv_aload_n F zd_CG_walk_10 rfl 0 rfl ?_
  refine vv_get F zd_CG_walk_11 zf_CG 0 rfl rfl 1 (by decide) zw_244 rfl ?_
  refine vv_iload_n F zd_CG_walk_14 rfl 1 rfl ?_
  refine vv_iload_n F zd_CG_walk_15 rfl 2 rfl ?_
  refine vv_callV (q0 := 1) (As := [.int (iI u), .int (iI v)]) (rest := []) (wr := [ceO 0 cg [.ref y, .ref x, .ref cr]]) F (cn_NE_shortest l G x w go ta o qa ra sa sb fa fb q r S Fr tb B ac rk n ch u v (by first | exact wB | assumption) ⟨by omega, by omega⟩ ⟨by omega, by omega⟩) zm_NE_shortest ⟨zw_609, zw_610⟩ zw_608 zd_CG_walk_16 ⟨by decide, by decide⟩ ⟨by decide, by decide⟩ [1, 2, 3, 4, 5, 6, 7, 8, 9, 10] [0] rfl rfl ⟨rfl, rfl, by decide⟩ rfl rfl rfl rfl (Nat.le_of_ble_eq_true rfl) (fun v9 w9 hp9 => ?_)
  obtain ⟨q2_1, r2_2, S2_3, F2_4, z_5, hf1_0, rfl, rfl⟩ := hp9
  refine vv_thenE (ws' := [ceO 0 cg [.ref y, .ref x, .ref cr], ceO 2 x [.ref w, .ref go, .int (iI ac), .int (iI (bZ rk)), .ref ta, .ref o, .int (iI n), .int (iI ch)], ceO 6 w [.ref qa, .ref ra, .ref sa, .ref fa], ceI G qa 160 q2_1, ceI G ra 160 r2_2, ceO 5 sa [.ref sb], ceJ G sb 3 (tw S2_3), ceO 5 fa [.ref fb], ceJ G fb 3 (tw F2_4), ceO 5 ta [.ref tb], ceJ G tb 480 (tw B)]) (st' := [.int (iI z_5)]) (kc' := 0) (ks' := 0) [0, 1, 2, 3, 4, 5, 6, 7, 8, 9, 10] rfl rfl rfl ?_
  exact vv_iret F zd_CG_walk_19 ⟨_, _, _, _, _, hf1_0, rfl, rfl⟩

set_option maxHeartbeats 4000000 in
set_option maxRecDepth 100000 in
theorem cn_CG_walk_t1 (l : Launch) (hl : l.stackTraces = false) (G : vv_G) (cg : Nat) (y : Nat) (x : Nat) (cr : Nat) (w : Nat) (go : Nat) (ac : Int) (rk : Bool) (ta : Nat) (o : Nat) (n : Int) (ch : Int) (u : Int) (v : Int) (hi : u < 0 ∨ n ≤ u) (hn : 1 ≤ n ∧ n ≤ 160) (hu : rg u) (hv : rg v) :
    vt_C l zy_CG_walk zc_CG_walk 3 (some .int) { frames := 7, cells := 1, slots := 6, locals := 119 } G "java/lang/IndexOutOfBoundsException" [.ref cg, .int (iI u), .int (iI v)] [ceO 0 cg [.ref y, .ref x, .ref cr], ceO 2 x [.ref w, .ref go, .int (iI ac), .int (iI (bZ rk)), .ref ta, .ref o, .int (iI n), .int (iI ch)]] (fun w7 => w7 = [ceO 0 cg [.ref y, .ref x, .ref cr], ceO 2 x [.ref w, .ref go, .int (iI ac), .int (iI (bZ rk)), .ref ta, .ref o, .int (iI n), .int (iI ch)]]) := by
  refine vt_met (by decide +kernel) (Nat.le_of_ble_eq_true rfl) rfl ?_
  intro p e s m args below meth c A F E hx0
  refine vv_aload_n F zd_CG_walk_0 rfl 0 rfl ?_
  refine vv_iload_n F zd_CG_walk_1 rfl 1 rfl ?_
  refine vt_prop (q0 := 0) (As := [.int (iI u)]) (rest := []) (wr := []) F E hx0 (cn_CG_needNode_t l hl G cg y x cr w go ac rk ta o n ch u (by omega) ⟨by omega, by omega⟩ hu) zm_CG_needNode ⟨zw_497, zs_CG_needNode⟩ zw_495 zd_CG_walk_2 ⟨by decide, by decide⟩ ⟨by decide, by decide⟩ [0, 1] [] rfl rfl ⟨rfl, rfl, by decide⟩ rfl rfl rfl rfl (Nat.le_of_ble_eq_true rfl) [0, 1] rfl ?_
  rintro w9 rfl
  exact ⟨[ceO 0 cg [.ref y, .ref x, .ref cr], ceO 2 x [.ref w, .ref go, .int (iI ac), .int (iI (bZ rk)), .ref ta, .ref o, .int (iI n), .int (iI ch)]], rfl, rfl⟩
set_option maxHeartbeats 4000000 in
set_option maxRecDepth 100000 in
theorem cn_CG_walk_t2 (l : Launch) (hl : l.stackTraces = false) (G : vv_G) (cg : Nat) (y : Nat) (x : Nat) (cr : Nat) (w : Nat) (go : Nat) (ac : Int) (rk : Bool) (ta : Nat) (o : Nat) (n : Int) (ch : Int) (u : Int) (v : Int) (hi : 0 ≤ u ∧ u < n) (hj : v < 0 ∨ n ≤ v) (hn : 1 ≤ n ∧ n ≤ 160) (hu : rg u) (hv : rg v) :
    vt_C l zy_CG_walk zc_CG_walk 3 (some .int) { frames := 7, cells := 1, slots := 6, locals := 119 } G "java/lang/IndexOutOfBoundsException" [.ref cg, .int (iI u), .int (iI v)] [ceO 0 cg [.ref y, .ref x, .ref cr], ceO 2 x [.ref w, .ref go, .int (iI ac), .int (iI (bZ rk)), .ref ta, .ref o, .int (iI n), .int (iI ch)]] (fun w7 => w7 = [ceO 0 cg [.ref y, .ref x, .ref cr], ceO 2 x [.ref w, .ref go, .int (iI ac), .int (iI (bZ rk)), .ref ta, .ref o, .int (iI n), .int (iI ch)]]) := by
  refine vt_met (by decide +kernel) (Nat.le_of_ble_eq_true rfl) rfl ?_
  intro p e s m args below meth c A F E hx0
  refine vv_aload_n F zd_CG_walk_0 rfl 0 rfl ?_
  refine vv_iload_n F zd_CG_walk_1 rfl 1 rfl ?_
  refine vv_callV (q0 := 0) (As := [.int (iI u)]) (rest := []) (wr := []) F (cn_CG_needNode l G cg y x cr w go ac rk ta o n ch u ⟨by omega, by omega⟩ ⟨by omega, by omega⟩) zm_CG_needNode ⟨zw_497, zs_CG_needNode⟩ zw_495 zd_CG_walk_2 ⟨by decide, by decide⟩ ⟨by decide, by decide⟩ [0, 1] [] rfl rfl ⟨rfl, rfl, by decide⟩ rfl rfl rfl rfl (Nat.le_of_ble_eq_true rfl) (vv_then (ws' := [ceO 0 cg [.ref y, .ref x, .ref cr], ceO 2 x [.ref w, .ref go, .int (iI ac), .int (iI (bZ rk)), .ref ta, .ref o, .int (iI n), .int (iI ch)]]) (st' := []) [0, 1] rfl rfl rfl ?_)
  refine vv_aload_n F zd_CG_walk_5 rfl 0 rfl ?_
  refine vv_iload_n F zd_CG_walk_6 rfl 2 rfl ?_
  refine vt_prop (q0 := 0) (As := [.int (iI v)]) (rest := []) (wr := []) F E hx0 (cn_CG_needNode_t l hl G cg y x cr w go ac rk ta o n ch v (by omega) ⟨by omega, by omega⟩ hv) zm_CG_needNode ⟨zw_497, zs_CG_needNode⟩ zw_495 zd_CG_walk_7 ⟨by decide, by decide⟩ ⟨by decide, by decide⟩ [0, 1] [] rfl rfl ⟨rfl, rfl, by decide⟩ rfl rfl rfl rfl (Nat.le_of_ble_eq_true rfl) [0, 1] rfl ?_
  rintro w9 rfl
  exact ⟨[ceO 0 cg [.ref y, .ref x, .ref cr], ceO 2 x [.ref w, .ref go, .int (iI ac), .int (iI (bZ rk)), .ref ta, .ref o, .int (iI n), .int (iI ch)]], rfl, rfl⟩
theorem cn_CG_walk_t (l : Launch) (hl : l.stackTraces = false) (G : vv_G) (cg : Nat) (y : Nat) (x : Nat) (cr : Nat) (w : Nat) (go : Nat) (ac : Int) (rk : Bool) (ta : Nat) (o : Nat) (n : Int) (ch : Int) (u : Int) (v : Int) (hb : (u < 0 ∨ n ≤ u) ∨ (v < 0 ∨ n ≤ v)) (hn : 1 ≤ n ∧ n ≤ 160) (hu : rg u) (hv : rg v) :
    vt_C l zy_CG_walk zc_CG_walk 3 (some .int) { frames := 7, cells := 1, slots := 6, locals := 119 } G "java/lang/IndexOutOfBoundsException" [.ref cg, .int (iI u), .int (iI v)] [ceO 0 cg [.ref y, .ref x, .ref cr], ceO 2 x [.ref w, .ref go, .int (iI ac), .int (iI (bZ rk)), .ref ta, .ref o, .int (iI n), .int (iI ch)]] (fun w7 => w7 = [ceO 0 cg [.ref y, .ref x, .ref cr], ceO 2 x [.ref w, .ref go, .int (iI ac), .int (iI (bZ rk)), .ref ta, .ref o, .int (iI n), .int (iI ch)]]) := by
  by_cases h : u < 0 ∨ n ≤ u
  · exact cn_CG_walk_t1 l hl G cg y x cr w go ac rk ta o n ch u v h hn hu hv
  · exact cn_CG_walk_t2 l hl G cg y x cr w go ac rk ta o n ch u v ⟨by omega, by omega⟩ (by omega) hn hu hv

set_option maxHeartbeats 4000000 in
set_option maxRecDepth 100000 in
theorem cn_CG_reaches (l : Launch) (G : vv_G) (cg : Nat) (y : Nat) (x : Nat) (cr : Nat) (w : Nat) (go : Nat) (ac : Int) (rk : Bool) (ta : Nat) (o : Nat) (n : Int) (ch : Int) (tb : Nat) (B : Nat → Nat → Bool) (ah : Nat) (bh : Nat) (so : Nat) (ab : Nat) (H : Nat → Nat → Bool) (bb : Nat) (K : Nat → Nat → Bool) (f : Nat → Int) (gf : Nat → Int) (u : Int) (v : Int) (hn : 1 ≤ n ∧ n ≤ 160) (hi : 0 ≤ u ∧ u < n) (hj : 0 ≤ v ∧ v < n) (hB : ∀ x y, B x y = true → x < n.toNat ∧ y < n.toNat) (hc : rk = true → cl B n.toNat H K) :
    vv_C l zy_CG_reaches zc_CG_reaches 3 (some .boolean) { frames := 7, cells := 0, slots := 0, locals := 138 } G [.ref cg, .int (iI u), .int (iI v)] [ceO 0 cg [.ref y, .ref x, .ref cr], ceO 2 x [.ref w, .ref go, .int (iI ac), .int (iI (bZ rk)), .ref ta, .ref o, .int (iI n), .int (iI ch)], ceO 5 ta [.ref tb], ceJ G tb 480 (tw B), ceO 4 o [.ref ah, .ref bh, .ref so], ceO 5 ah [.ref ab], ceJ G ab 480 (tw H), ceO 5 bh [.ref bb], ceJ G bb 480 (tw K), ceI G so 160 f, ceI G go 160 gf] (fun v7 w7 => ∃ (H2 : Nat → Nat → Bool) (K2 : Nat → Nat → Bool) (f2 : Nat → Int) (g2 : Nat → Int), (cl B n.toNat H2 K2) ∧ v7 = some (.int (iI (bZ (H2 u.toNat v.toNat)))) ∧ w7 = [ceO 0 cg [.ref y, .ref x, .ref cr], ceO 2 x [.ref w, .ref go, .int (iI ac), .int (iI (bZ true)), .ref ta, .ref o, .int (iI n), .int (iI ch)], ceO 5 ta [.ref tb], ceJ G tb 480 (tw B), ceO 4 o [.ref ah, .ref bh, .ref so], ceO 5 ah [.ref ab], ceJ G ab 480 (tw H2), ceO 5 bh [.ref bb], ceJ G bb 480 (tw K2), ceI G so 160 f2, ceI G go 160 g2]) := by
  refine vv_met (by decide +kernel) (Nat.le_of_ble_eq_true rfl) rfl ?_
  intro p e s m args below meth c A F
  refine vv_aload_n F zd_CG_reaches_0 rfl 0 rfl ?_
  refine vv_iload_n F zd_CG_reaches_1 rfl 1 rfl ?_
  refine vv_callV (q0 := 0) (As := [.int (iI u)]) (rest := []) (wr := [ceO 5 ta [.ref tb], ceJ G tb 480 (tw B), ceO 4 o [.ref ah, .ref bh, .ref so], ceO 5 ah [.ref ab], ceJ G ab 480 (tw H), ceO 5 bh [.ref bb], ceJ G bb 480 (tw K), ceI G so 160 f, ceI G go 160 gf]) F (cn_CG_needNode l G cg y x cr w go ac rk ta o n ch u ⟨by omega, by omega⟩ ⟨by omega, by omega⟩) zm_CG_needNode ⟨zw_497, zs_CG_needNode⟩ zw_495 zd_CG_reaches_2 ⟨by decide, by decide⟩ ⟨by decide, by decide⟩ [0, 1] [2, 3, 4, 5, 6, 7, 8, 9, 10] rfl rfl ⟨rfl, rfl, by decide⟩ rfl rfl rfl rfl (Nat.le_of_ble_eq_true rfl) (vv_then (ws' := [ceO 0 cg [.ref y, .ref x, .ref cr], ceO 2 x [.ref w, .ref go, .int (iI ac), .int (iI (bZ rk)), .ref ta, .ref o, .int (iI n), .int (iI ch)], ceO 5 ta [.ref tb], ceJ G tb 480 (tw B), ceO 4 o [.ref ah, .ref bh, .ref so], ceO 5 ah [.ref ab], ceJ G ab 480 (tw H), ceO 5 bh [.ref bb], ceJ G bb 480 (tw K), ceI G so 160 f, ceI G go 160 gf]) (st' := []) [9, 10, 0, 1, 2, 3, 4, 5, 6, 7, 8] rfl rfl rfl ?_)
  refine vv_aload_n F zd_CG_reaches_5 rfl 0 rfl ?_
  refine vv_iload_n F zd_CG_reaches_6 rfl 2 rfl ?_
  refine vv_callV (q0 := 0) (As := [.int (iI v)]) (rest := []) (wr := [ceO 5 ta [.ref tb], ceJ G tb 480 (tw B), ceO 4 o [.ref ah, .ref bh, .ref so], ceO 5 ah [.ref ab], ceJ G ab 480 (tw H), ceO 5 bh [.ref bb], ceJ G bb 480 (tw K), ceI G so 160 f, ceI G go 160 gf]) F (cn_CG_needNode l G cg y x cr w go ac rk ta o n ch v ⟨by omega, by omega⟩ ⟨by omega, by omega⟩) zm_CG_needNode ⟨zw_497, zs_CG_needNode⟩ zw_495 zd_CG_reaches_7 ⟨by decide, by decide⟩ ⟨by decide, by decide⟩ [0, 1] [2, 3, 4, 5, 6, 7, 8, 9, 10] rfl rfl ⟨rfl, rfl, by decide⟩ rfl rfl rfl rfl (Nat.le_of_ble_eq_true rfl) (vv_then (ws' := [ceO 0 cg [.ref y, .ref x, .ref cr], ceO 2 x [.ref w, .ref go, .int (iI ac), .int (iI (bZ rk)), .ref ta, .ref o, .int (iI n), .int (iI ch)], ceO 5 ta [.ref tb], ceJ G tb 480 (tw B), ceO 4 o [.ref ah, .ref bh, .ref so], ceO 5 ah [.ref ab], ceJ G ab 480 (tw H), ceO 5 bh [.ref bb], ceJ G bb 480 (tw K), ceI G so 160 f, ceI G go 160 gf]) (st' := []) [9, 10, 0, 1, 2, 3, 4, 5, 6, 7, 8] rfl rfl rfl ?_)
  refine vv_aload_n F zd_CG_reaches_10 rfl 0 rfl ?_
  refine vv_get F zd_CG_reaches_11 zf_CG 0 rfl rfl 1 (by decide) zw_244 rfl ?_
  refine vv_callV (q0 := 1) (As := []) (rest := []) (wr := [ceO 0 cg [.ref y, .ref x, .ref cr]]) F (cn_NE_settled l G x w go ta o tb B ah ab bh bb so ac rk n ch H K f gf ⟨by omega, by omega⟩ hB hc) zm_NE_settled ⟨zw_262, zw_263⟩ zw_596 zd_CG_reaches_14 ⟨by decide, by decide⟩ ⟨by decide, by decide⟩ [1, 2, 3, 4, 5, 6, 7, 8, 9, 10] [0] rfl rfl ⟨rfl, rfl, by decide⟩ rfl rfl rfl rfl (Nat.le_of_ble_eq_true rfl) (fun v9 w9 hp9 => ?_)
  obtain ⟨H2_1, K2_2, f2_3, g2_4, hf1_0, rfl, rfl⟩ := hp9
  refine vv_thenE (ws' := [ceO 0 cg [.ref y, .ref x, .ref cr], ceO 2 x [.ref w, .ref go, .int (iI ac), .int (iI (bZ true)), .ref ta, .ref o, .int (iI n), .int (iI ch)], ceO 5 ta [.ref tb], ceJ G tb 480 (tw B), ceO 4 o [.ref ah, .ref bh, .ref so], ceO 5 ah [.ref ab], ceJ G ab 480 (tw H2_1), ceO 5 bh [.ref bb], ceJ G bb 480 (tw K2_2), ceI G so 160 f2_3, ceI G go 160 g2_4]) (st' := [.ref o]) (kc' := 0) (ks' := 0) [0, 1, 2, 3, 4, 5, 6, 7, 8, 9, 10] rfl rfl rfl ?_
  refine vv_iload_n F zd_CG_reaches_17 rfl 1 rfl ?_
  refine vv_iload_n F zd_CG_reaches_18 rfl 2 rfl ?_
  refine vv_callV (q0 := 4) (As := [.int (iI u), .int (iI v)]) (rest := []) (wr := [ceO 0 cg [.ref y, .ref x, .ref cr], ceO 2 x [.ref w, .ref go, .int (iI ac), .int (iI (bZ true)), .ref ta, .ref o, .int (iI n), .int (iI ch)], ceO 5 ta [.ref tb], ceJ G tb 480 (tw B), ceI G go 160 g2_4]) F (cn_RE_leads l G o ah ab bh bb so H2_1 K2_2 f2_3 u v ⟨by omega, by omega⟩ ⟨by omega, by omega⟩) zm_RE_leads ⟨zw_598, zw_599⟩ zw_597 zd_CG_reaches_19 ⟨by decide, by decide⟩ ⟨by decide, by decide⟩ [4, 5, 6, 7, 8, 9] [0, 1, 2, 3, 10] rfl rfl ⟨rfl, rfl, by decide⟩ rfl rfl rfl rfl (Nat.le_of_ble_eq_true rfl) (vv_then (ws' := [ceO 0 cg [.ref y, .ref x, .ref cr], ceO 2 x [.ref w, .ref go, .int (iI ac), .int (iI (bZ true)), .ref ta, .ref o, .int (iI n), .int (iI ch)], ceO 5 ta [.ref tb], ceJ G tb 480 (tw B), ceO 4 o [.ref ah, .ref bh, .ref so], ceO 5 ah [.ref ab], ceJ G ab 480 (tw H2_1), ceO 5 bh [.ref bb], ceJ G bb 480 (tw K2_2), ceI G so 160 f2_3, ceI G go 160 g2_4]) (st' := [.int (iI (bZ (H2_1 u.toNat v.toNat)))]) [0, 1, 2, 3, 5, 6, 7, 8, 9, 10, 4] rfl rfl rfl ?_)
  exact vv_zret F zd_CG_reaches_22 ⟨_, _, _, _, hf1_0, rfl, rfl⟩

set_option maxHeartbeats 4000000 in
set_option maxRecDepth 100000 in
theorem cn_CG_reaches_t1 (l : Launch) (hl : l.stackTraces = false) (G : vv_G) (cg : Nat) (y : Nat) (x : Nat) (cr : Nat) (w : Nat) (go : Nat) (ac : Int) (rk : Bool) (ta : Nat) (o : Nat) (n : Int) (ch : Int) (u : Int) (v : Int) (hi : u < 0 ∨ n ≤ u) (hn : 1 ≤ n ∧ n ≤ 160) (hu : rg u) (hv : rg v) :
    vt_C l zy_CG_reaches zc_CG_reaches 3 (some .boolean) { frames := 7, cells := 1, slots := 6, locals := 138 } G "java/lang/IndexOutOfBoundsException" [.ref cg, .int (iI u), .int (iI v)] [ceO 0 cg [.ref y, .ref x, .ref cr], ceO 2 x [.ref w, .ref go, .int (iI ac), .int (iI (bZ rk)), .ref ta, .ref o, .int (iI n), .int (iI ch)]] (fun w7 => w7 = [ceO 0 cg [.ref y, .ref x, .ref cr], ceO 2 x [.ref w, .ref go, .int (iI ac), .int (iI (bZ rk)), .ref ta, .ref o, .int (iI n), .int (iI ch)]]) := by
  refine vt_met (by decide +kernel) (Nat.le_of_ble_eq_true rfl) rfl ?_
  intro p e s m args below meth c A F E hx0
  refine vv_aload_n F zd_CG_reaches_0 rfl 0 rfl ?_
  refine vv_iload_n F zd_CG_reaches_1 rfl 1 rfl ?_
  refine vt_prop (q0 := 0) (As := [.int (iI u)]) (rest := []) (wr := []) F E hx0 (cn_CG_needNode_t l hl G cg y x cr w go ac rk ta o n ch u (by omega) ⟨by omega, by omega⟩ hu) zm_CG_needNode ⟨zw_497, zs_CG_needNode⟩ zw_495 zd_CG_reaches_2 ⟨by decide, by decide⟩ ⟨by decide, by decide⟩ [0, 1] [] rfl rfl ⟨rfl, rfl, by decide⟩ rfl rfl rfl rfl (Nat.le_of_ble_eq_true rfl) [0, 1] rfl ?_
  rintro w9 rfl
  exact ⟨[ceO 0 cg [.ref y, .ref x, .ref cr], ceO 2 x [.ref w, .ref go, .int (iI ac), .int (iI (bZ rk)), .ref ta, .ref o, .int (iI n), .int (iI ch)]], rfl, rfl⟩
set_option maxHeartbeats 4000000 in
set_option maxRecDepth 100000 in
theorem cn_CG_reaches_t2 (l : Launch) (hl : l.stackTraces = false) (G : vv_G) (cg : Nat) (y : Nat) (x : Nat) (cr : Nat) (w : Nat) (go : Nat) (ac : Int) (rk : Bool) (ta : Nat) (o : Nat) (n : Int) (ch : Int) (u : Int) (v : Int) (hi : 0 ≤ u ∧ u < n) (hj : v < 0 ∨ n ≤ v) (hn : 1 ≤ n ∧ n ≤ 160) (hu : rg u) (hv : rg v) :
    vt_C l zy_CG_reaches zc_CG_reaches 3 (some .boolean) { frames := 7, cells := 1, slots := 6, locals := 138 } G "java/lang/IndexOutOfBoundsException" [.ref cg, .int (iI u), .int (iI v)] [ceO 0 cg [.ref y, .ref x, .ref cr], ceO 2 x [.ref w, .ref go, .int (iI ac), .int (iI (bZ rk)), .ref ta, .ref o, .int (iI n), .int (iI ch)]] (fun w7 => w7 = [ceO 0 cg [.ref y, .ref x, .ref cr], ceO 2 x [.ref w, .ref go, .int (iI ac), .int (iI (bZ rk)), .ref ta, .ref o, .int (iI n), .int (iI ch)]]) := by
  refine vt_met (by decide +kernel) (Nat.le_of_ble_eq_true rfl) rfl ?_
  intro p e s m args below meth c A F E hx0
  refine vv_aload_n F zd_CG_reaches_0 rfl 0 rfl ?_
  refine vv_iload_n F zd_CG_reaches_1 rfl 1 rfl ?_
  refine vv_callV (q0 := 0) (As := [.int (iI u)]) (rest := []) (wr := []) F (cn_CG_needNode l G cg y x cr w go ac rk ta o n ch u ⟨by omega, by omega⟩ ⟨by omega, by omega⟩) zm_CG_needNode ⟨zw_497, zs_CG_needNode⟩ zw_495 zd_CG_reaches_2 ⟨by decide, by decide⟩ ⟨by decide, by decide⟩ [0, 1] [] rfl rfl ⟨rfl, rfl, by decide⟩ rfl rfl rfl rfl (Nat.le_of_ble_eq_true rfl) (vv_then (ws' := [ceO 0 cg [.ref y, .ref x, .ref cr], ceO 2 x [.ref w, .ref go, .int (iI ac), .int (iI (bZ rk)), .ref ta, .ref o, .int (iI n), .int (iI ch)]]) (st' := []) [0, 1] rfl rfl rfl ?_)
  refine vv_aload_n F zd_CG_reaches_5 rfl 0 rfl ?_
  refine vv_iload_n F zd_CG_reaches_6 rfl 2 rfl ?_
  refine vt_prop (q0 := 0) (As := [.int (iI v)]) (rest := []) (wr := []) F E hx0 (cn_CG_needNode_t l hl G cg y x cr w go ac rk ta o n ch v (by omega) ⟨by omega, by omega⟩ hv) zm_CG_needNode ⟨zw_497, zs_CG_needNode⟩ zw_495 zd_CG_reaches_7 ⟨by decide, by decide⟩ ⟨by decide, by decide⟩ [0, 1] [] rfl rfl ⟨rfl, rfl, by decide⟩ rfl rfl rfl rfl (Nat.le_of_ble_eq_true rfl) [0, 1] rfl ?_
  rintro w9 rfl
  exact ⟨[ceO 0 cg [.ref y, .ref x, .ref cr], ceO 2 x [.ref w, .ref go, .int (iI ac), .int (iI (bZ rk)), .ref ta, .ref o, .int (iI n), .int (iI ch)]], rfl, rfl⟩
theorem cn_CG_reaches_t (l : Launch) (hl : l.stackTraces = false) (G : vv_G) (cg : Nat) (y : Nat) (x : Nat) (cr : Nat) (w : Nat) (go : Nat) (ac : Int) (rk : Bool) (ta : Nat) (o : Nat) (n : Int) (ch : Int) (u : Int) (v : Int) (hb : (u < 0 ∨ n ≤ u) ∨ (v < 0 ∨ n ≤ v)) (hn : 1 ≤ n ∧ n ≤ 160) (hu : rg u) (hv : rg v) :
    vt_C l zy_CG_reaches zc_CG_reaches 3 (some .boolean) { frames := 7, cells := 1, slots := 6, locals := 138 } G "java/lang/IndexOutOfBoundsException" [.ref cg, .int (iI u), .int (iI v)] [ceO 0 cg [.ref y, .ref x, .ref cr], ceO 2 x [.ref w, .ref go, .int (iI ac), .int (iI (bZ rk)), .ref ta, .ref o, .int (iI n), .int (iI ch)]] (fun w7 => w7 = [ceO 0 cg [.ref y, .ref x, .ref cr], ceO 2 x [.ref w, .ref go, .int (iI ac), .int (iI (bZ rk)), .ref ta, .ref o, .int (iI n), .int (iI ch)]]) := by
  by_cases h : u < 0 ∨ n ≤ u
  · exact cn_CG_reaches_t1 l hl G cg y x cr w go ac rk ta o n ch u v h hn hu hv
  · exact cn_CG_reaches_t2 l hl G cg y x cr w go ac rk ta o n ch u v ⟨by omega, by omega⟩ (by omega) hn hu hv

set_option maxHeartbeats 4000000 in
set_option maxRecDepth 100000 in
theorem cn_CG_part (l : Launch) (G : vv_G) (cg : Nat) (y : Nat) (x : Nat) (cr : Nat) (wt : Nat) (cn : Nat) (sm : Nat) (gs : Nat) (cs : Int) (nb : Nat) (ls : Nat) (mn : Int) (W : Nat → Int) (g : Nat → Int) (Nb : Nat → Int) (Ls : Nat → Int) (w : Nat) (go : Nat) (ac : Int) (rk : Bool) (ta : Nat) (o : Nat) (n : Int) (ch : Int) (tb : Nat) (B : Nat → Nat → Bool) (ah : Nat) (bh : Nat) (so : Nat) (ab : Nat) (H : Nat → Nat → Bool) (bb : Nat) (K : Nat → Nat → Bool) (f : Nat → Int) (gf : Nat → Int) (u : Int) (hn : 1 ≤ n ∧ n ≤ 160) (hi : 0 ≤ u ∧ u < n) (hB : ∀ x y, B x y = true → x < n.toNat ∧ y < n.toNat) (hck : rk = true → cl B n.toNat H K) (hnum : cs = ch → rk = true ∧ numC n.toNat H Nb Ls mn) (hcs : rg cs) (hch : rg ch) :
    vv_C l zy_CG_part zc_CG_part 2 (some .int) { frames := 7, cells := 0, slots := 0, locals := 158 } G [.ref cg, .int (iI u)] [ceO 0 cg [.ref y, .ref x, .ref cr], ceO 3 y [.ref wt, .ref cn, .ref sm, .ref gs, .int (iI cs), .ref x, .ref nb, .ref ls, .int (iI mn)], ceI G wt 160 W, ceI G sm 160 g, ceI G nb 160 Nb, ceI G ls 160 Ls, ceO 2 x [.ref w, .ref go, .int (iI ac), .int (iI (bZ rk)), .ref ta, .ref o, .int (iI n), .int (iI ch)], ceO 5 ta [.ref tb], ceJ G tb 480 (tw B), ceO 4 o [.ref ah, .ref bh, .ref so], ceO 5 ah [.ref ab], ceJ G ab 480 (tw H), ceO 5 bh [.ref bb], ceJ G bb 480 (tw K), ceI G so 160 f, ceI G go 160 gf] (fun v7 w7 => ∃ (W2 : Nat → Int) (g2 : Nat → Int) (Nb2 : Nat → Int) (Ls2 : Nat → Int) (mn2 : Int) (H2 : Nat → Nat → Bool) (K2 : Nat → Nat → Bool) (f2 : Nat → Int) (gf2 : Nat → Int), (cl B n.toNat H2 K2) ∧ (numC n.toNat H2 Nb2 Ls2 mn2) ∧ v7 = some (.int (iI (Nb2 u.toNat))) ∧ w7 = [ceO 0 cg [.ref y, .ref x, .ref cr], ceO 3 y [.ref wt, .ref cn, .ref sm, .ref gs, .int (iI ch), .ref x, .ref nb, .ref ls, .int (iI mn2)], ceI G wt 160 W2, ceI G sm 160 g2, ceI G nb 160 Nb2, ceI G ls 160 Ls2, ceO 2 x [.ref w, .ref go, .int (iI ac), .int (iI (bZ true)), .ref ta, .ref o, .int (iI n), .int (iI ch)], ceO 5 ta [.ref tb], ceJ G tb 480 (tw B), ceO 4 o [.ref ah, .ref bh, .ref so], ceO 5 ah [.ref ab], ceJ G ab 480 (tw H2), ceO 5 bh [.ref bb], ceJ G bb 480 (tw K2), ceI G so 160 f2, ceI G go 160 gf2]) := by
  refine vv_met (by decide +kernel) (Nat.le_of_ble_eq_true rfl) rfl ?_
  intro p e s m args below meth c A F
  refine vv_aload_n F zd_CG_part_0 rfl 0 rfl ?_
  refine vv_iload_n F zd_CG_part_1 rfl 1 rfl ?_
  refine vv_callV (q0 := 0) (As := [.int (iI u)]) (rest := []) (wr := [ceO 3 y [.ref wt, .ref cn, .ref sm, .ref gs, .int (iI cs), .ref x, .ref nb, .ref ls, .int (iI mn)], ceI G wt 160 W, ceI G sm 160 g, ceI G nb 160 Nb, ceI G ls 160 Ls, ceO 5 ta [.ref tb], ceJ G tb 480 (tw B), ceO 4 o [.ref ah, .ref bh, .ref so], ceO 5 ah [.ref ab], ceJ G ab 480 (tw H), ceO 5 bh [.ref bb], ceJ G bb 480 (tw K), ceI G so 160 f, ceI G go 160 gf]) F (cn_CG_needNode l G cg y x cr w go ac rk ta o n ch u ⟨by omega, by omega⟩ ⟨by omega, by omega⟩) zm_CG_needNode ⟨zw_497, zs_CG_needNode⟩ zw_495 zd_CG_part_2 ⟨by decide, by decide⟩ ⟨by decide, by decide⟩ [0, 6] [1, 2, 3, 4, 5, 7, 8, 9, 10, 11, 12, 13, 14, 15] rfl rfl ⟨rfl, rfl, by decide⟩ rfl rfl rfl rfl (Nat.le_of_ble_eq_true rfl) (vv_then (ws' := [ceO 0 cg [.ref y, .ref x, .ref cr], ceO 3 y [.ref wt, .ref cn, .ref sm, .ref gs, .int (iI cs), .ref x, .ref nb, .ref ls, .int (iI mn)], ceI G wt 160 W, ceI G sm 160 g, ceI G nb 160 Nb, ceI G ls 160 Ls, ceO 2 x [.ref w, .ref go, .int (iI ac), .int (iI (bZ rk)), .ref ta, .ref o, .int (iI n), .int (iI ch)], ceO 5 ta [.ref tb], ceJ G tb 480 (tw B), ceO 4 o [.ref ah, .ref bh, .ref so], ceO 5 ah [.ref ab], ceJ G ab 480 (tw H), ceO 5 bh [.ref bb], ceJ G bb 480 (tw K), ceI G so 160 f, ceI G go 160 gf]) (st' := []) [14, 0, 1, 2, 3, 4, 15, 5, 6, 7, 8, 9, 10, 11, 12, 13] rfl rfl rfl ?_)
  refine vv_aload_n F zd_CG_part_5 rfl 0 rfl ?_
  refine vv_get F zd_CG_part_6 zf_CG 0 rfl rfl 0 (by decide) zw_243 rfl ?_
  refine vv_callV (q0 := 1) (As := []) (rest := []) (wr := [ceO 0 cg [.ref y, .ref x, .ref cr]]) F (cn_PA_renewed l G y wt cn sm gs nb ls x w go ta o tb B ah ab bh bb so cs mn ac rk n ch H K f gf W g Nb Ls ⟨by omega, by omega⟩ hB hck hnum hcs hch) zm_PA_renewed ⟨zw_258, zw_259⟩ zw_257 zd_CG_part_9 ⟨by decide, by decide⟩ ⟨by decide, by decide⟩ [1, 2, 3, 4, 5, 6, 7, 8, 9, 10, 11, 12, 13, 14, 15] [0] rfl rfl ⟨rfl, rfl, by decide⟩ rfl rfl rfl rfl (Nat.le_of_ble_eq_true rfl) (fun v9 w9 hp9 => ?_)
  obtain ⟨W2_1, g2_2, Nb2_3, Ls2_4, mn2_5, H2_6, K2_7, f2_8, gf2_9, hf1_0, hf1_1, rfl, rfl⟩ := hp9
  refine vv_thenE (ws' := [ceO 0 cg [.ref y, .ref x, .ref cr], ceO 3 y [.ref wt, .ref cn, .ref sm, .ref gs, .int (iI ch), .ref x, .ref nb, .ref ls, .int (iI mn2_5)], ceI G wt 160 W2_1, ceI G sm 160 g2_2, ceI G nb 160 Nb2_3, ceI G ls 160 Ls2_4, ceO 2 x [.ref w, .ref go, .int (iI ac), .int (iI (bZ true)), .ref ta, .ref o, .int (iI n), .int (iI ch)], ceO 5 ta [.ref tb], ceJ G tb 480 (tw B), ceO 4 o [.ref ah, .ref bh, .ref so], ceO 5 ah [.ref ab], ceJ G ab 480 (tw H2_6), ceO 5 bh [.ref bb], ceJ G bb 480 (tw K2_7), ceI G so 160 f2_8, ceI G go 160 gf2_9]) (st' := [.ref y]) (kc' := 0) (ks' := 0) [0, 1, 2, 3, 4, 5, 6, 7, 8, 9, 10, 11, 12, 13, 14, 15] rfl rfl rfl ?_
  refine vv_get F zd_CG_part_12 zf_PA 1 rfl rfl 6 (by decide) zw_153 rfl ?_
  refine vv_iload_n F zd_CG_part_15 rfl 1 rfl ?_
  refine vv_iald F zd_CG_part_16 4 rfl ⟨by omega, by omega⟩ (by decide) ?_
  exact vv_iret F zd_CG_part_17 ⟨_, _, _, _, _, _, _, _, _, hf1_0, hf1_1, rfl, rfl⟩

set_option maxHeartbeats 4000000 in
set_option maxRecDepth 100000 in
theorem cn_CG_part_t (l : Launch) (hl : l.stackTraces = false) (G : vv_G) (cg : Nat) (y : Nat) (x : Nat) (cr : Nat) (w : Nat) (go : Nat) (ac : Int) (rk : Bool) (ta : Nat) (o : Nat) (n : Int) (ch : Int) (u : Int) (hi : u < 0 ∨ n ≤ u) (hn : 1 ≤ n ∧ n ≤ 160) (hu : rg u) :
    vt_C l zy_CG_part zc_CG_part 2 (some .int) { frames := 7, cells := 1, slots := 6, locals := 158 } G "java/lang/IndexOutOfBoundsException" [.ref cg, .int (iI u)] [ceO 0 cg [.ref y, .ref x, .ref cr], ceO 2 x [.ref w, .ref go, .int (iI ac), .int (iI (bZ rk)), .ref ta, .ref o, .int (iI n), .int (iI ch)]] (fun w7 => w7 = [ceO 0 cg [.ref y, .ref x, .ref cr], ceO 2 x [.ref w, .ref go, .int (iI ac), .int (iI (bZ rk)), .ref ta, .ref o, .int (iI n), .int (iI ch)]]) := by
  refine vt_met (by decide +kernel) (Nat.le_of_ble_eq_true rfl) rfl ?_
  intro p e s m args below meth c A F E hx0
  refine vv_aload_n F zd_CG_part_0 rfl 0 rfl ?_
  refine vv_iload_n F zd_CG_part_1 rfl 1 rfl ?_
  refine vt_prop (q0 := 0) (As := [.int (iI u)]) (rest := []) (wr := []) F E hx0 (cn_CG_needNode_t l hl G cg y x cr w go ac rk ta o n ch u (by omega) ⟨by omega, by omega⟩ hu) zm_CG_needNode ⟨zw_497, zs_CG_needNode⟩ zw_495 zd_CG_part_2 ⟨by decide, by decide⟩ ⟨by decide, by decide⟩ [0, 1] [] rfl rfl ⟨rfl, rfl, by decide⟩ rfl rfl rfl rfl (Nat.le_of_ble_eq_true rfl) [0, 1] rfl ?_
  rintro w9 rfl
  exact ⟨[ceO 0 cg [.ref y, .ref x, .ref cr], ceO 2 x [.ref w, .ref go, .int (iI ac), .int (iI (bZ rk)), .ref ta, .ref o, .int (iI n), .int (iI ch)]], rfl, rfl⟩

set_option maxHeartbeats 4000000 in
set_option maxRecDepth 100000 in
theorem cn_CG_counted (l : Launch) (G : vv_G) (cg : Nat) (y : Nat) (x : Nat) (cr : Nat) (w : Nat) (go : Nat) (ac : Int) (rk : Bool) (ta : Nat) (o : Nat) (n : Int) (ch : Int) (tb : Nat) (B : Nat → Nat → Bool) (ah : Nat) (bh : Nat) (so : Nat) (ab : Nat) (H : Nat → Nat → Bool) (bb : Nat) (K : Nat → Nat → Bool) (f : Nat → Int) (gf : Nat → Int) (u : Int) (v : Int) (hn : 1 ≤ n ∧ n ≤ 160) (hi : 0 ≤ u ∧ u < n) (hw : 0 ≤ v ∧ v ≤ 1) (hB : ∀ x y, B x y = true → x < n.toNat ∧ y < n.toNat) (hc : rk = true → cl B n.toNat H K) :
    vv_C l zy_CG_counted zc_CG_counted 4 (some .int) { frames := 7, cells := 0, slots := 0, locals := 138 } G [.ref cg, .int (iI u), .int (iI v)] [ceO 0 cg [.ref y, .ref x, .ref cr], ceO 2 x [.ref w, .ref go, .int (iI ac), .int (iI (bZ rk)), .ref ta, .ref o, .int (iI n), .int (iI ch)], ceO 5 ta [.ref tb], ceJ G tb 480 (tw B), ceO 4 o [.ref ah, .ref bh, .ref so], ceO 5 ah [.ref ab], ceJ G ab 480 (tw H), ceO 5 bh [.ref bb], ceJ G bb 480 (tw K), ceI G so 160 f, ceI G go 160 gf] (fun v7 w7 => ∃ (H2 : Nat → Nat → Bool) (K2 : Nat → Nat → Bool) (f2 : Nat → Int) (g2 : Nat → Int) (z : Int), (cl B n.toNat H2 K2) ∧ (z = (if v = 0 then (cN (H2 u.toNat) 192 : Int) else (cN (K2 u.toNat) 192 : Int))) ∧ v7 = some (.int (iI z)) ∧ w7 = [ceO 0 cg [.ref y, .ref x, .ref cr], ceO 2 x [.ref w, .ref go, .int (iI ac), .int (iI (bZ true)), .ref ta, .ref o, .int (iI n), .int (iI ch)], ceO 5 ta [.ref tb], ceJ G tb 480 (tw B), ceO 4 o [.ref ah, .ref bh, .ref so], ceO 5 ah [.ref ab], ceJ G ab 480 (tw H2), ceO 5 bh [.ref bb], ceJ G bb 480 (tw K2), ceI G so 160 f2, ceI G go 160 g2]) := by
  refine vv_met (by decide +kernel) (Nat.le_of_ble_eq_true rfl) rfl ?_
  intro p e s m args below meth c A F
  refine vv_aload_n F zd_CG_counted_0 rfl 0 rfl ?_
  refine vv_iload_n F zd_CG_counted_1 rfl 1 rfl ?_
  refine vv_callV (q0 := 0) (As := [.int (iI u)]) (rest := []) (wr := [ceO 5 ta [.ref tb], ceJ G tb 480 (tw B), ceO 4 o [.ref ah, .ref bh, .ref so], ceO 5 ah [.ref ab], ceJ G ab 480 (tw H), ceO 5 bh [.ref bb], ceJ G bb 480 (tw K), ceI G so 160 f, ceI G go 160 gf]) F (cn_CG_needNode l G cg y x cr w go ac rk ta o n ch u ⟨by omega, by omega⟩ ⟨by omega, by omega⟩) zm_CG_needNode ⟨zw_497, zs_CG_needNode⟩ zw_495 zd_CG_counted_2 ⟨by decide, by decide⟩ ⟨by decide, by decide⟩ [0, 1] [2, 3, 4, 5, 6, 7, 8, 9, 10] rfl rfl ⟨rfl, rfl, by decide⟩ rfl rfl rfl rfl (Nat.le_of_ble_eq_true rfl) (vv_then (ws' := [ceO 0 cg [.ref y, .ref x, .ref cr], ceO 2 x [.ref w, .ref go, .int (iI ac), .int (iI (bZ rk)), .ref ta, .ref o, .int (iI n), .int (iI ch)], ceO 5 ta [.ref tb], ceJ G tb 480 (tw B), ceO 4 o [.ref ah, .ref bh, .ref so], ceO 5 ah [.ref ab], ceJ G ab 480 (tw H), ceO 5 bh [.ref bb], ceJ G bb 480 (tw K), ceI G so 160 f, ceI G go 160 gf]) (st' := []) [9, 10, 0, 1, 2, 3, 4, 5, 6, 7, 8] rfl rfl rfl ?_)
  refine vv_iload_n F zd_CG_counted_5 rfl 2 rfl ?_
  refine vv_if_eq (tgt := 24) F zd_CG_counted_6 rfl (by first | exact ⟨by omega, by omega⟩) (fun h1 => ?_) (fun h1 => ?_)
  · refine vv_aload_n F zd_CG_counted_24 rfl 0 rfl ?_
    refine vv_get F zd_CG_counted_25 zf_CG 0 rfl rfl 1 (by decide) zw_244 rfl ?_
    refine vv_callV (q0 := 1) (As := []) (rest := []) (wr := [ceO 0 cg [.ref y, .ref x, .ref cr]]) F (cn_NE_settled l G x w go ta o tb B ah ab bh bb so ac rk n ch H K f gf ⟨by omega, by omega⟩ hB hc) zm_NE_settled ⟨zw_262, zw_263⟩ zw_596 zd_CG_counted_28 ⟨by decide, by decide⟩ ⟨by decide, by decide⟩ [1, 2, 3, 4, 5, 6, 7, 8, 9, 10] [0] rfl rfl ⟨rfl, rfl, by decide⟩ rfl rfl rfl rfl (Nat.le_of_ble_eq_true rfl) (fun v9 w9 hp9 => ?_)
    obtain ⟨H2_1, K2_2, f2_3, g2_4, hf1_0, rfl, rfl⟩ := hp9
    refine vv_thenE (ws' := [ceO 0 cg [.ref y, .ref x, .ref cr], ceO 2 x [.ref w, .ref go, .int (iI ac), .int (iI (bZ true)), .ref ta, .ref o, .int (iI n), .int (iI ch)], ceO 5 ta [.ref tb], ceJ G tb 480 (tw B), ceO 4 o [.ref ah, .ref bh, .ref so], ceO 5 ah [.ref ab], ceJ G ab 480 (tw H2_1), ceO 5 bh [.ref bb], ceJ G bb 480 (tw K2_2), ceI G so 160 f2_3, ceI G go 160 g2_4]) (st' := [.ref o]) (kc' := 0) (ks' := 0) [0, 1, 2, 3, 4, 5, 6, 7, 8, 9, 10] rfl rfl rfl ?_
    refine vv_astore_n (lv' := [(0, .ref cg), (1, .int (iI u)), (2, .int (iI v)), (3, .ref o)]) F zd_CG_counted_31 rfl (by decide) [1, 2, 3, 0] rfl ?_
    refine vv_iload_n F zd_CG_counted_32 rfl 2 rfl ?_
    refine vv_if_ne (tgt := 44) F zd_CG_counted_33 rfl (by first | exact ⟨by omega, by omega⟩) (fun h2 => ?_) (fun h2 => ?_)
    · refine vv_aload_n F zd_CG_counted_44 rfl 3 rfl ?_
      refine vv_iload_n F zd_CG_counted_45 rfl 1 rfl ?_
      refine vv_callV (q0 := 4) (As := [.int (iI u)]) (rest := []) (wr := [ceO 0 cg [.ref y, .ref x, .ref cr], ceO 2 x [.ref w, .ref go, .int (iI ac), .int (iI (bZ true)), .ref ta, .ref o, .int (iI n), .int (iI ch)], ceO 5 ta [.ref tb], ceJ G tb 480 (tw B), ceI G go 160 g2_4]) F (cn_RE_countBehind l G o ah ab bh bb so H2_1 K2_2 f2_3 u ⟨by omega, by omega⟩) zm_RE_countBehind ⟨zw_300, zw_301⟩ zw_622 zd_CG_counted_46 ⟨by decide, by decide⟩ ⟨by decide, by decide⟩ [4, 5, 6, 7, 8, 9] [0, 1, 2, 3, 10] rfl rfl ⟨rfl, rfl, by decide⟩ rfl rfl rfl rfl (Nat.le_of_ble_eq_true rfl) (vv_then (ws' := [ceO 0 cg [.ref y, .ref x, .ref cr], ceO 2 x [.ref w, .ref go, .int (iI ac), .int (iI (bZ true)), .ref ta, .ref o, .int (iI n), .int (iI ch)], ceO 5 ta [.ref tb], ceJ G tb 480 (tw B), ceO 4 o [.ref ah, .ref bh, .ref so], ceO 5 ah [.ref ab], ceJ G ab 480 (tw H2_1), ceO 5 bh [.ref bb], ceJ G bb 480 (tw K2_2), ceI G so 160 f2_3, ceI G go 160 g2_4]) (st' := [.int (iI (cN (K2_2 u.toNat) 192 : Int))]) [0, 1, 2, 3, 5, 6, 7, 8, 9, 10, 4] rfl rfl rfl ?_)
      exact vv_iret F zd_CG_counted_49 ⟨_, _, _, _, _, hf1_0, absurd h1 h2, rfl, rfl⟩
    · refine vv_aload_n F zd_CG_counted_36 rfl 3 rfl ?_
      refine vv_iload_n F zd_CG_counted_37 rfl 1 rfl ?_
      refine vv_callV (q0 := 4) (As := [.int (iI u)]) (rest := []) (wr := [ceO 0 cg [.ref y, .ref x, .ref cr], ceO 2 x [.ref w, .ref go, .int (iI ac), .int (iI (bZ true)), .ref ta, .ref o, .int (iI n), .int (iI ch)], ceO 5 ta [.ref tb], ceJ G tb 480 (tw B), ceI G go 160 g2_4]) F (cn_RE_countAhead l G o ah ab bh bb so H2_1 K2_2 f2_3 u ⟨by omega, by omega⟩) zm_RE_countAhead ⟨zw_349, zw_350⟩ zw_621 zd_CG_counted_38 ⟨by decide, by decide⟩ ⟨by decide, by decide⟩ [4, 5, 6, 7, 8, 9] [0, 1, 2, 3, 10] rfl rfl ⟨rfl, rfl, by decide⟩ rfl rfl rfl rfl (Nat.le_of_ble_eq_true rfl) (vv_then (ws' := [ceO 0 cg [.ref y, .ref x, .ref cr], ceO 2 x [.ref w, .ref go, .int (iI ac), .int (iI (bZ true)), .ref ta, .ref o, .int (iI n), .int (iI ch)], ceO 5 ta [.ref tb], ceJ G tb 480 (tw B), ceO 4 o [.ref ah, .ref bh, .ref so], ceO 5 ah [.ref ab], ceJ G ab 480 (tw H2_1), ceO 5 bh [.ref bb], ceJ G bb 480 (tw K2_2), ceI G so 160 f2_3, ceI G go 160 g2_4]) (st' := [.int (iI (cN (H2_1 u.toNat) 192 : Int))]) [0, 1, 2, 3, 5, 6, 7, 8, 9, 10, 4] rfl rfl rfl ?_)
      refine vv_goto (tgt := 49) F zd_CG_counted_41 rfl ?_
      exact vv_iret F zd_CG_counted_49 ⟨_, _, _, _, _, hf1_0, (by rw [if_pos h2]), rfl, rfl⟩
  · refine vv_iload_n F zd_CG_counted_9 rfl 2 rfl ?_
    refine vv_iconst F zd_CG_counted_10 ?_
    refine vv_icmp_eq (tgt := 24) F zd_CG_counted_11 rfl (by first | exact ⟨by omega, by omega⟩) (by decide) (fun h3 => ?_) (fun h3 => ?_)
    · refine vv_aload_n F zd_CG_counted_24 rfl 0 rfl ?_
      refine vv_get F zd_CG_counted_25 zf_CG 0 rfl rfl 1 (by decide) zw_244 rfl ?_
      refine vv_callV (q0 := 1) (As := []) (rest := []) (wr := [ceO 0 cg [.ref y, .ref x, .ref cr]]) F (cn_NE_settled l G x w go ta o tb B ah ab bh bb so ac rk n ch H K f gf ⟨by omega, by omega⟩ hB hc) zm_NE_settled ⟨zw_262, zw_263⟩ zw_596 zd_CG_counted_28 ⟨by decide, by decide⟩ ⟨by decide, by decide⟩ [1, 2, 3, 4, 5, 6, 7, 8, 9, 10] [0] rfl rfl ⟨rfl, rfl, by decide⟩ rfl rfl rfl rfl (Nat.le_of_ble_eq_true rfl) (fun v9 w9 hp9 => ?_)
      obtain ⟨H2_5, K2_6, f2_7, g2_8, hf2_0, rfl, rfl⟩ := hp9
      refine vv_thenE (ws' := [ceO 0 cg [.ref y, .ref x, .ref cr], ceO 2 x [.ref w, .ref go, .int (iI ac), .int (iI (bZ true)), .ref ta, .ref o, .int (iI n), .int (iI ch)], ceO 5 ta [.ref tb], ceJ G tb 480 (tw B), ceO 4 o [.ref ah, .ref bh, .ref so], ceO 5 ah [.ref ab], ceJ G ab 480 (tw H2_5), ceO 5 bh [.ref bb], ceJ G bb 480 (tw K2_6), ceI G so 160 f2_7, ceI G go 160 g2_8]) (st' := [.ref o]) (kc' := 0) (ks' := 0) [0, 1, 2, 3, 4, 5, 6, 7, 8, 9, 10] rfl rfl rfl ?_
      refine vv_astore_n (lv' := [(0, .ref cg), (1, .int (iI u)), (2, .int (iI v)), (3, .ref o)]) F zd_CG_counted_31 rfl (by decide) [1, 2, 3, 0] rfl ?_
      refine vv_iload_n F zd_CG_counted_32 rfl 2 rfl ?_
      refine vv_if_ne (tgt := 44) F zd_CG_counted_33 rfl (by first | exact ⟨by omega, by omega⟩) (fun h4 => ?_) (fun h4 => ?_)
      · refine vv_aload_n F zd_CG_counted_44 rfl 3 rfl ?_
        refine vv_iload_n F zd_CG_counted_45 rfl 1 rfl ?_
        refine vv_callV (q0 := 4) (As := [.int (iI u)]) (rest := []) (wr := [ceO 0 cg [.ref y, .ref x, .ref cr], ceO 2 x [.ref w, .ref go, .int (iI ac), .int (iI (bZ true)), .ref ta, .ref o, .int (iI n), .int (iI ch)], ceO 5 ta [.ref tb], ceJ G tb 480 (tw B), ceI G go 160 g2_8]) F (cn_RE_countBehind l G o ah ab bh bb so H2_5 K2_6 f2_7 u ⟨by omega, by omega⟩) zm_RE_countBehind ⟨zw_300, zw_301⟩ zw_622 zd_CG_counted_46 ⟨by decide, by decide⟩ ⟨by decide, by decide⟩ [4, 5, 6, 7, 8, 9] [0, 1, 2, 3, 10] rfl rfl ⟨rfl, rfl, by decide⟩ rfl rfl rfl rfl (Nat.le_of_ble_eq_true rfl) (vv_then (ws' := [ceO 0 cg [.ref y, .ref x, .ref cr], ceO 2 x [.ref w, .ref go, .int (iI ac), .int (iI (bZ true)), .ref ta, .ref o, .int (iI n), .int (iI ch)], ceO 5 ta [.ref tb], ceJ G tb 480 (tw B), ceO 4 o [.ref ah, .ref bh, .ref so], ceO 5 ah [.ref ab], ceJ G ab 480 (tw H2_5), ceO 5 bh [.ref bb], ceJ G bb 480 (tw K2_6), ceI G so 160 f2_7, ceI G go 160 g2_8]) (st' := [.int (iI (cN (K2_6 u.toNat) 192 : Int))]) [0, 1, 2, 3, 5, 6, 7, 8, 9, 10, 4] rfl rfl rfl ?_)
        exact vv_iret F zd_CG_counted_49 ⟨_, _, _, _, _, hf2_0, (by rw [if_neg h4]), rfl, rfl⟩
      · refine vv_aload_n F zd_CG_counted_36 rfl 3 rfl ?_
        refine vv_iload_n F zd_CG_counted_37 rfl 1 rfl ?_
        refine vv_callV (q0 := 4) (As := [.int (iI u)]) (rest := []) (wr := [ceO 0 cg [.ref y, .ref x, .ref cr], ceO 2 x [.ref w, .ref go, .int (iI ac), .int (iI (bZ true)), .ref ta, .ref o, .int (iI n), .int (iI ch)], ceO 5 ta [.ref tb], ceJ G tb 480 (tw B), ceI G go 160 g2_8]) F (cn_RE_countAhead l G o ah ab bh bb so H2_5 K2_6 f2_7 u ⟨by omega, by omega⟩) zm_RE_countAhead ⟨zw_349, zw_350⟩ zw_621 zd_CG_counted_38 ⟨by decide, by decide⟩ ⟨by decide, by decide⟩ [4, 5, 6, 7, 8, 9] [0, 1, 2, 3, 10] rfl rfl ⟨rfl, rfl, by decide⟩ rfl rfl rfl rfl (Nat.le_of_ble_eq_true rfl) (vv_then (ws' := [ceO 0 cg [.ref y, .ref x, .ref cr], ceO 2 x [.ref w, .ref go, .int (iI ac), .int (iI (bZ true)), .ref ta, .ref o, .int (iI n), .int (iI ch)], ceO 5 ta [.ref tb], ceJ G tb 480 (tw B), ceO 4 o [.ref ah, .ref bh, .ref so], ceO 5 ah [.ref ab], ceJ G ab 480 (tw H2_5), ceO 5 bh [.ref bb], ceJ G bb 480 (tw K2_6), ceI G so 160 f2_7, ceI G go 160 g2_8]) (st' := [.int (iI (cN (H2_5 u.toNat) 192 : Int))]) [0, 1, 2, 3, 5, 6, 7, 8, 9, 10, 4] rfl rfl rfl ?_)
        refine vv_goto (tgt := 49) F zd_CG_counted_41 rfl ?_
        exact vv_iret F zd_CG_counted_49 ⟨_, _, _, _, _, hf2_0, (by omega), rfl, rfl⟩
    · exfalso
      omega

set_option maxHeartbeats 4000000 in
set_option maxRecDepth 100000 in
theorem cn_CG_counted_t1 (l : Launch) (hl : l.stackTraces = false) (G : vv_G) (cg : Nat) (y : Nat) (x : Nat) (cr : Nat) (w : Nat) (go : Nat) (ac : Int) (rk : Bool) (ta : Nat) (o : Nat) (n : Int) (ch : Int) (u : Int) (v : Int) (hi : u < 0 ∨ n ≤ u) (hn : 1 ≤ n ∧ n ≤ 160) (hu : rg u) (hv : rg v) :
    vt_C l zy_CG_counted zc_CG_counted 4 (some .int) { frames := 7, cells := 1, slots := 6, locals := 138 } G "java/lang/IndexOutOfBoundsException" [.ref cg, .int (iI u), .int (iI v)] [ceO 0 cg [.ref y, .ref x, .ref cr], ceO 2 x [.ref w, .ref go, .int (iI ac), .int (iI (bZ rk)), .ref ta, .ref o, .int (iI n), .int (iI ch)]] (fun w7 => w7 = [ceO 0 cg [.ref y, .ref x, .ref cr], ceO 2 x [.ref w, .ref go, .int (iI ac), .int (iI (bZ rk)), .ref ta, .ref o, .int (iI n), .int (iI ch)]]) := by
  refine vt_met (by decide +kernel) (Nat.le_of_ble_eq_true rfl) rfl ?_
  intro p e s m args below meth c A F E hx0
  refine vv_aload_n F zd_CG_counted_0 rfl 0 rfl ?_
  refine vv_iload_n F zd_CG_counted_1 rfl 1 rfl ?_
  refine vt_prop (q0 := 0) (As := [.int (iI u)]) (rest := []) (wr := []) F E hx0 (cn_CG_needNode_t l hl G cg y x cr w go ac rk ta o n ch u (by omega) ⟨by omega, by omega⟩ hu) zm_CG_needNode ⟨zw_497, zs_CG_needNode⟩ zw_495 zd_CG_counted_2 ⟨by decide, by decide⟩ ⟨by decide, by decide⟩ [0, 1] [] rfl rfl ⟨rfl, rfl, by decide⟩ rfl rfl rfl rfl (Nat.le_of_ble_eq_true rfl) [0, 1] rfl ?_
  rintro w9 rfl
  exact ⟨[ceO 0 cg [.ref y, .ref x, .ref cr], ceO 2 x [.ref w, .ref go, .int (iI ac), .int (iI (bZ rk)), .ref ta, .ref o, .int (iI n), .int (iI ch)]], rfl, rfl⟩

set_option maxHeartbeats 4000000 in
set_option maxRecDepth 100000 in
theorem cn_CG_counted_t2 (l : Launch) (hl : l.stackTraces = false) (G : vv_G) (cg : Nat) (y : Nat) (x : Nat) (cr : Nat) (w : Nat) (go : Nat) (ac : Int) (rk : Bool) (ta : Nat) (o : Nat) (n : Int) (ch : Int) (u : Int) (v : Int) (hn : 1 ≤ n ∧ n ≤ 160) (hi : 0 ≤ u ∧ u < n) (hw : v < 0 ∨ 1 < v) (hv : rg v) :
    vt_C l zy_CG_counted zc_CG_counted 4 (some .int) { frames := 7, cells := 1, slots := 6, locals := 138 } G "java/lang/IllegalArgumentException" [.ref cg, .int (iI u), .int (iI v)] [ceO 0 cg [.ref y, .ref x, .ref cr], ceO 2 x [.ref w, .ref go, .int (iI ac), .int (iI (bZ rk)), .ref ta, .ref o, .int (iI n), .int (iI ch)]] (fun w7 => w7 = [ceO 0 cg [.ref y, .ref x, .ref cr], ceO 2 x [.ref w, .ref go, .int (iI ac), .int (iI (bZ rk)), .ref ta, .ref o, .int (iI n), .int (iI ch)]]) := by
  refine vt_met (by decide +kernel) (Nat.le_of_ble_eq_true rfl) rfl ?_
  intro p e s m args below meth c A F E hx0
  refine vv_aload_n F zd_CG_counted_0 rfl 0 rfl ?_
  refine vv_iload_n F zd_CG_counted_1 rfl 1 rfl ?_
  refine vv_callV (q0 := 0) (As := [.int (iI u)]) (rest := []) (wr := []) F (cn_CG_needNode l G cg y x cr w go ac rk ta o n ch u ⟨by omega, by omega⟩ ⟨by omega, by omega⟩) zm_CG_needNode ⟨zw_497, zs_CG_needNode⟩ zw_495 zd_CG_counted_2 ⟨by decide, by decide⟩ ⟨by decide, by decide⟩ [0, 1] [] rfl rfl ⟨rfl, rfl, by decide⟩ rfl rfl rfl rfl (Nat.le_of_ble_eq_true rfl) (vv_then (ws' := [ceO 0 cg [.ref y, .ref x, .ref cr], ceO 2 x [.ref w, .ref go, .int (iI ac), .int (iI (bZ rk)), .ref ta, .ref o, .int (iI n), .int (iI ch)]]) (st' := []) [0, 1] rfl rfl rfl ?_)
  refine vv_iload_n F zd_CG_counted_5 rfl 2 rfl ?_
  refine vv_if_eq (tgt := 24) F zd_CG_counted_6 rfl (by first | exact ⟨by omega, by omega⟩ | exact hv) (fun h1 => ?_) (fun h1 => ?_)
  · exfalso
    omega
  · refine vv_iload_n F zd_CG_counted_9 rfl 2 rfl ?_
    refine vv_iconst F zd_CG_counted_10 ?_
    refine vv_icmp_eq (tgt := 24) F zd_CG_counted_11 rfl (by first | exact ⟨by omega, by omega⟩ | exact hv) (by decide) (fun h2 => ?_) (fun h2 => ?_)
    · exfalso
      omega
    · exact vt_throw F E hx0 hl zd_CG_counted_14 zd_CG_counted_17 zd_CG_counted_18 zd_CG_counted_20 zd_CG_counted_23 zw_418 zw_13 zt_620 xa_IA (by decide +kernel) ⟨by decide, by decide⟩ ⟨by decide, by decide⟩ rfl
