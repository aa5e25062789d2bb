set_option maxHeartbeats 4000000 in
set_option maxRecDepth 100000 in
theorem lp_PA_wait {p : Program} {l : Launch} {e : Env} {s : State} {m : MethodId} {args : Array Value} {below : List Frame} {meth : Method} {c : Code} {A : Nat → Prop} {Q : State → Prop} {G : vv_G} (F : vv_F p s m args meth c zc_PA_waitForOthers "ClauseGraph$Parts" "waitForOthers" none G A 3) (y : Nat) (wt : Nat) (cn : Nat) (sm : Nat) (gs : Nat) (nb : Nat) (ls : Nat) (x : Nat) (w : Nat) (go : Nat) (ta : Nat) (o : Nat) (ah : Nat) (ab : Nat) (bh : Nat) (bb : Nat) (so : Nat) (cs : Int) (mn : Int) (ac : Int) (rk : Bool) (n : Int) (ch : Int) (H : Nat → Nat → Bool) (K : Nat → Nat → Bool) (f : Nat → Int) (hn : 0 ≤ n ∧ n ≤ 160)
    (k : ∀ (W : Nat → Int) (Nb : Nat → Int), (0 ≤ n ∧ (∀ j : Nat, (j : Int) < n → Nb j = -1 ∧ W j = (cN (K j) 192 : Int) - (cN (fun p => H j p && K j p) 192 : Int))) → vv_V p l e { frames := 4, cells := 0, slots := 0, locals := 88 } s m args below meth c G A 3 Q 43 [(0, .ref y), (1, .ref o), (2, .int (iI n))] [] [ceO 3 y [.ref wt, .ref cn, .ref sm, .ref gs, .int (iI cs), .ref x, .ref nb, .ref ls, .int (iI mn)], ceI G wt 160 W, ceI G nb 160 Nb, ceO 2 x [.ref w, .ref go, .int (iI ac), .int (iI (bZ rk)), .ref ta, .ref o, .int (iI n), .int (iI ch)], ceO 4 o [.ref ah, .ref bh, .ref so], ceO 5 ah [.ref ab], ceJ G ab 480 (tw H), ceO 5 bh [.ref bb], ceJ G bb 480 (tw K), ceI G so 160 f] 0 0)  :
    ∀ (d : Nat) (i : Int) (W : Nat → Int) (Nb : Nat → Int), i + (d : Int) = n → (0 ≤ i ∧ (∀ j : Nat, (j : Int) < i → Nb j = -1 ∧ W j = (cN (K j) 192 : Int) - (cN (fun p => H j p && K j p) 192 : Int))) → vv_V p l e { frames := 4, cells := 0, slots := 0, locals := 88 } s m args below meth c G A 3 Q 2 [(0, .ref y), (1, .ref o), (2, .int (iI i))] [] [ceO 3 y [.ref wt, .ref cn, .ref sm, .ref gs, .int (iI cs), .ref x, .ref nb, .ref ls, .int (iI mn)], ceI G wt 160 W, ceI G nb 160 Nb, ceO 2 x [.ref w, .ref go, .int (iI ac), .int (iI (bZ rk)), .ref ta, .ref o, .int (iI n), .int (iI ch)], ceO 4 o [.ref ah, .ref bh, .ref so], ceO 5 ah [.ref ab], ceJ G ab 480 (tw H), ceO 5 bh [.ref bb], ceJ G bb 480 (tw K), ceI G so 160 f] 0 0 := by
  intro d
  induction d with
  | zero =>
    intro i W Nb hd hI
    have hz : i = n := by omega
    subst hz
    refine vv_iload_n F zd_PA_waitForOthers_2 rfl 2 rfl ?_
    refine vv_aload_n F zd_PA_waitForOthers_3 rfl 0 rfl ?_
    refine vv_get F zd_PA_waitForOthers_4 zf_PA 0 rfl rfl 5 (by decide) zw_151 rfl ?_
    refine vv_get F zd_PA_waitForOthers_7 zf_NE 3 rfl rfl 6 (by decide) zw_124 rfl ?_
    refine vv_icmp_ge (tgt := 43) F zd_PA_waitForOthers_10 rfl (by first | exact ⟨by omega, by omega⟩) (by first | exact ⟨by omega, by omega⟩) (fun _ => ?_) (fun h9 => absurd h9 (by omega))
    exact k W Nb hI
  | succ d ih =>
    intro i W Nb hd hI
    refine vv_iload_n F zd_PA_waitForOthers_2 rfl 2 rfl ?_
    refine vv_aload_n F zd_PA_waitForOthers_3 rfl 0 rfl ?_
    refine vv_get F zd_PA_waitForOthers_4 zf_PA 0 rfl rfl 5 (by decide) zw_151 rfl ?_
    refine vv_get F zd_PA_waitForOthers_7 zf_NE 3 rfl rfl 6 (by decide) zw_124 rfl ?_
    refine vv_icmp_ge (tgt := 43) F zd_PA_waitForOthers_10 rfl (by first | exact ⟨by omega, by omega⟩) (by first | exact ⟨by omega, by omega⟩) (fun h9 => absurd h9 (by omega)) (fun _ => ?_)
    refine vv_aload_n F zd_PA_waitForOthers_13 rfl 0 rfl ?_
    refine vv_get F zd_PA_waitForOthers_14 zf_PA 0 rfl rfl 6 (by decide) zw_152 rfl ?_
    refine vv_iload_n F zd_PA_waitForOthers_17 rfl 2 rfl ?_
    refine vv_iconst F zd_PA_waitForOthers_18 ?_
    refine vv_iast (x := (-1)) (ws' := [ceO 3 y [.ref wt, .ref cn, .ref sm, .ref gs, .int (iI cs), .ref x, .ref nb, .ref ls, .int (iI mn)], ceI G wt 160 W, ceI G nb 160 (va_up Nb i.toNat (-1)), ceO 2 x [.ref w, .ref go, .int (iI ac), .int (iI (bZ rk)), .ref ta, .ref o, .int (iI n), .int (iI ch)], ceO 4 o [.ref ah, .ref bh, .ref so], ceO 5 ah [.ref ab], ceJ G ab 480 (tw H), ceO 5 bh [.ref bb], ceJ G bb 480 (tw K), ceI G so 160 f]) F zd_PA_waitForOthers_19 2 rfl ⟨by omega, by omega⟩ (by decide) rfl ?_
    refine vv_aload_n F zd_PA_waitForOthers_20 rfl 0 rfl ?_
    refine vv_get F zd_PA_waitForOthers_21 zf_PA 0 rfl rfl 0 (by decide) zw_145 rfl ?_
    refine vv_iload_n F zd_PA_waitForOthers_24 rfl 2 rfl ?_
    refine vv_aload_n F zd_PA_waitForOthers_25 rfl 1 rfl ?_
    refine vv_iload_n F zd_PA_waitForOthers_26 rfl 2 rfl ?_
    refine vv_callV (q0 := 4) (As := [.int (iI i)]) (rest := [.int (iI i), .ref wt]) (wr := [ceO 3 y [.ref wt, .ref cn, .ref sm, .ref gs, .int (iI cs), .ref x, .ref nb, .ref ls, .int (iI mn)], ceI G wt 160 W, ceI G nb 160 (va_up Nb i.toNat (-1)), ceO 2 x [.ref w, .ref go, .int (iI ac), .int (iI (bZ rk)), .ref ta, .ref o, .int (iI n), .int (iI ch)]]) F (cn_RE_countBehind l G o ah ab bh bb so H K f i ⟨by omega, by omega⟩) zm_RE_countBehind ⟨zw_300, zw_301⟩ zw_299 zd_PA_waitForOthers_27 ⟨by decide, by decide⟩ ⟨by decide, by decide⟩ [4, 5, 6, 7, 8, 9] [0, 1, 2, 3] rfl rfl ⟨rfl, rfl, by decide⟩ rfl rfl rfl rfl (Nat.le_of_ble_eq_true rfl) (vv_then (ws' := [ceO 3 y [.ref wt, .ref cn, .ref sm, .ref gs, .int (iI cs), .ref x, .ref nb, .ref ls, .int (iI mn)], ceI G wt 160 W, ceI G nb 160 (va_up Nb i.toNat (-1)), ceO 2 x [.ref w, .ref go, .int (iI ac), .int (iI (bZ rk)), .ref ta, .ref o, .int (iI n), .int (iI ch)], ceO 4 o [.ref ah, .ref bh, .ref so], ceO 5 ah [.ref ab], ceJ G ab 480 (tw H), ceO 5 bh [.ref bb], ceJ G bb 480 (tw K), ceI G so 160 f]) (st' := [.int (iI (cN (K i.toNat) 192 : Int)), .int (iI i), .ref wt]) [0, 1, 2, 3, 4, 5, 6, 7, 8, 9] rfl rfl rfl ?_)
    refine vv_aload_n F zd_PA_waitForOthers_30 rfl 1 rfl ?_
    refine vv_iload_n F zd_PA_waitForOthers_31 rfl 2 rfl ?_
    refine vv_callV (q0 := 4) (As := [.int (iI i)]) (rest := [.int (iI (cN (K i.toNat) 192 : Int)), .int (iI i), .ref wt]) (wr := [ceO 3 y [.ref wt, .ref cn, .ref sm, .ref gs, .int (iI cs), .ref x, .ref nb, .ref ls, .int (iI mn)], ceI G wt 160 W, ceI G nb 160 (va_up Nb i.toNat (-1)), ceO 2 x [.ref w, .ref go, .int (iI ac), .int (iI (bZ rk)), .ref ta, .ref o, .int (iI n), .int (iI ch)]]) F (cn_RE_knotSize l G o ah ab bh bb so H K f i ⟨by omega, by omega⟩) zm_RE_knotSize ⟨zw_312, zw_313⟩ zw_311 zd_PA_waitForOthers_32 ⟨by decide, by decide⟩ ⟨by decide, by decide⟩ [4, 5, 6, 7, 8, 9] [0, 1, 2, 3] rfl rfl ⟨rfl, rfl, by decide⟩ rfl rfl rfl rfl (Nat.le_of_ble_eq_true rfl) (vv_then (ws' := [ceO 3 y [.ref wt, .ref cn, .ref sm, .ref gs, .int (iI cs), .ref x, .ref nb, .ref ls, .int (iI mn)], ceI G wt 160 W, ceI G nb 160 (va_up Nb i.toNat (-1)), ceO 2 x [.ref w, .ref go, .int (iI ac), .int (iI (bZ rk)), .ref ta, .ref o, .int (iI n), .int (iI ch)], ceO 4 o [.ref ah, .ref bh, .ref so], ceO 5 ah [.ref ab], ceJ G ab 480 (tw H), ceO 5 bh [.ref bb], ceJ G bb 480 (tw K), ceI G so 160 f]) (st' := [.int (iI (cN (fun p => H i.toNat p && K i.toNat p) 192 : Int)), .int (iI (cN (K i.toNat) 192 : Int)), .int (iI i), .ref wt]) [0, 1, 2, 3, 4, 5, 6, 7, 8, 9] rfl rfl rfl ?_)
    refine vv_isub F zd_PA_waitForOthers_35 ?_
    refine vv_iast (x := (cN (K i.toNat) 192 : Int) - (cN (fun p => H i.toNat p && K i.toNat p) 192 : Int)) (ws' := [ceO 3 y [.ref wt, .ref cn, .ref sm, .ref gs, .int (iI cs), .ref x, .ref nb, .ref ls, .int (iI mn)], ceI G wt 160 (va_up W i.toNat ((cN (K i.toNat) 192 : Int) - (cN (fun p => H i.toNat p && K i.toNat p) 192 : Int))), ceI G nb 160 (va_up Nb i.toNat (-1)), ceO 2 x [.ref w, .ref go, .int (iI ac), .int (iI (bZ rk)), .ref ta, .ref o, .int (iI n), .int (iI ch)], ceO 4 o [.ref ah, .ref bh, .ref so], ceO 5 ah [.ref ab], ceJ G ab 480 (tw H), ceO 5 bh [.ref bb], ceJ G bb 480 (tw K), ceI G so 160 f]) F zd_PA_waitForOthers_36 1 rfl ⟨by omega, by omega⟩ (by decide) rfl ?_
    refine vv_iinc (j := 2) (lv' := [(0, .ref y), (1, .ref o), (2, .int (iI (i + 1)))]) F zd_PA_waitForOthers_37 rfl (by decide) [1, 2, 0] rfl ?_
    refine vv_goto (tgt := 2) F zd_PA_waitForOthers_40 rfl ?_
    exact ih (i + 1) (va_up W i.toNat ((cN (K i.toNat) 192 : Int) - (cN (fun p => H i.toNat p && K i.toNat p) 192 : Int))) (va_up Nb i.toNat (-1)) (by omega) (⟨by omega, fun j hj => by
      by_cases z : j = i.toNat
      · subst z; exact ⟨va_up_self _ _ _, va_up_self _ _ _⟩
      · rw [va_up_ne _ _ z, va_up_ne _ _ z]; exact hI.2 j (by omega)⟩)

set_option maxHeartbeats 4000000 in
set_option maxRecDepth 100000 in
theorem cn_PA_waitForOthers (l : Launch) (G : vv_G) (y : Nat) (wt : Nat) (cn : Nat) (sm : Nat) (gs : Nat) (nb : Nat) (ls : Nat) (x : Nat) (w : Nat) (go : Nat) (ta : Nat) (o : Nat) (ah : Nat) (ab : Nat) (bh : Nat) (bb : Nat) (so : Nat) (cs : Int) (mn : Int) (ac : Int) (rk : Bool) (n : Int) (ch : Int) (H : Nat → Nat → Bool) (K : Nat → Nat → Bool) (f : Nat → Int) (W : Nat → Int) (Nb : Nat → Int) (hn : 0 ≤ n ∧ n ≤ 160) :
    vv_C l zy_PA_waitForOthers zc_PA_waitForOthers 3 none { frames := 4, cells := 0, slots := 0, locals := 88 } G [.ref y, .ref o] [ceO 3 y [.ref wt, .ref cn, .ref sm, .ref gs, .int (iI cs), .ref x, .ref nb, .ref ls, .int (iI mn)], ceI G wt 160 W, ceI G nb 160 Nb, ceO 2 x [.ref w, .ref go, .int (iI ac), .int (iI (bZ rk)), .ref ta, .ref o, .int (iI n), .int (iI ch)], ceO 4 o [.ref ah, .ref bh, .ref so], ceO 5 ah [.ref ab], ceJ G ab 480 (tw H), ceO 5 bh [.ref bb], ceJ G bb 480 (tw K), ceI G so 160 f] (fun v7 w7 => ∃ (W2 : Nat → Int) (Nb2 : Nat → Int), ((∀ j : Nat, (j : Int) < n → Nb2 j = -1 ∧ W2 j = (cN (K j) 192 : Int) - (cN (fun p => H j p && K j p) 192 : Int))) ∧ v7 = none ∧ w7 = [ceO 3 y [.ref wt, .ref cn, .ref sm, .ref gs, .int (iI cs), .ref x, .ref nb, .ref ls, .int (iI mn)], ceI G wt 160 W2, ceI G nb 160 Nb2, ceO 2 x [.ref w, .ref go, .int (iI ac), .int (iI (bZ rk)), .ref ta, .ref o, .int (iI n), .int (iI ch)], ceO 4 o [.ref ah, .ref bh, .ref so], ceO 5 ah [.ref ab], ceJ G ab 480 (tw H), ceO 5 bh [.ref bb], ceJ G bb 480 (tw K), ceI G so 160 f]) := by
  refine vv_met (by decide +kernel) (Nat.le_of_ble_eq_true rfl) rfl ?_
  intro p e s m args below meth c A F
  refine vv_iconst F zd_PA_waitForOthers_0 ?_
  refine vv_istore_n (lv' := [(0, .ref y), (1, .ref o), (2, .int (iI 0))]) F zd_PA_waitForOthers_1 rfl (by decide) [1, 2, 0] rfl ?_
  refine lp_PA_wait F y wt cn sm gs nb ls x w go ta o ah ab bh bb so cs mn ac rk n ch H K f hn (fun W2 Nb2 hI => ?_) n.toNat 0 W Nb (by omega) ⟨by omega, fun j hj => by omega⟩
  exact vv_vret F zd_PA_waitForOthers_43 ⟨W2, Nb2, hI.2, rfl, rfl⟩

set_option maxHeartbeats 4000000 in
set_option maxRecDepth 100000 in
theorem lp_PA_lr {p : Program} {l : Launch} {e : Env} {s : State} {m : MethodId} {args : Array Value} {below : List Frame} {meth : Method} {c : Code} {A : Nat → Prop} {G : vv_G} (F : vv_F p s m args meth c zc_PA_leastReady "ClauseGraph$Parts" "leastReady" (some .int) G A 2) (y : Nat) (wt : Nat) (cn : Nat) (sm : Nat) (gs : Nat) (nb : Nat) (ls : Nat) (x : Nat) (w : Nat) (go : Nat) (ta : Nat) (o : Nat) (cs : Int) (mn : Int) (ac : Int) (rk : Bool) (n : Int) (ch : Int) (W : Nat → Int) (Nb : Nat → Int) (hn : 0 ≤ n ∧ n ≤ 160) (hNb : ∀ j, j < n.toNat → -1 ≤ Nb j ∧ Nb j ≤ 200) (hW : ∀ j, j < n.toNat → 0 ≤ W j ∧ W j ≤ 200)
    (k : (0 ≤ n ∧ ∀ a : Nat, (a : Int) < n → ¬ (Nb a = -1 ∧ W a = 0)) → vv_V p l e { frames := 0, cells := 0, slots := 0, locals := 0 } s m args below meth c G A 2 (vv_R below args s { frames := 0, cells := 0, slots := 0, locals := 0 } G A (fun v7 w7 => ∃ (z : Int), (rdy n.toNat Nb W z) ∧ v7 = some (.int (iI z)) ∧ w7 = [ceO 3 y [.ref wt, .ref cn, .ref sm, .ref gs, .int (iI cs), .ref x, .ref nb, .ref ls, .int (iI mn)], ceI G wt 160 W, ceI G nb 160 Nb, ceO 2 x [.ref w, .ref go, .int (iI ac), .int (iI (bZ rk)), .ref ta, .ref o, .int (iI n), .int (iI ch)]])) 40 [(0, .ref y), (1, .int (iI n))] [] [ceO 3 y [.ref wt, .ref cn, .ref sm, .ref gs, .int (iI cs), .ref x, .ref nb, .ref ls, .int (iI mn)], ceI G wt 160 W, ceI G nb 160 Nb, ceO 2 x [.ref w, .ref go, .int (iI ac), .int (iI (bZ rk)), .ref ta, .ref o, .int (iI n), .int (iI ch)]] 0 0)  :
    ∀ (d : Nat) (i : Int) , i + (d : Int) = n → (0 ≤ i ∧ ∀ a : Nat, (a : Int) < i → ¬ (Nb a = -1 ∧ W a = 0)) → vv_V p l e { frames := 0, cells := 0, slots := 0, locals := 0 } s m args below meth c G A 2 (vv_R below args s { frames := 0, cells := 0, slots := 0, locals := 0 } G A (fun v7 w7 => ∃ (z : Int), (rdy n.toNat Nb W z) ∧ v7 = some (.int (iI z)) ∧ w7 = [ceO 3 y [.ref wt, .ref cn, .ref sm, .ref gs, .int (iI cs), .ref x, .ref nb, .ref ls, .int (iI mn)], ceI G wt 160 W, ceI G nb 160 Nb, ceO 2 x [.ref w, .ref go, .int (iI ac), .int (iI (bZ rk)), .ref ta, .ref o, .int (iI n), .int (iI ch)]])) 2 [(0, .ref y), (1, .int (iI i))] [] [ceO 3 y [.ref wt, .ref cn, .ref sm, .ref gs, .int (iI cs), .ref x, .ref nb, .ref ls, .int (iI mn)], ceI G wt 160 W, ceI G nb 160 Nb, ceO 2 x [.ref w, .ref go, .int (iI ac), .int (iI (bZ rk)), .ref ta, .ref o, .int (iI n), .int (iI ch)]] 0 0 := by
  intro d
  induction d with
  | zero =>
    intro i  hd hI
    have hz : i = n := by omega
    subst hz
    refine vv_iload_n F zd_PA_leastReady_2 rfl 1 rfl ?_
    refine vv_aload_n F zd_PA_leastReady_3 rfl 0 rfl ?_
    refine vv_get F zd_PA_leastReady_4 zf_PA 0 rfl rfl 5 (by decide) zw_151 rfl ?_
    refine vv_get F zd_PA_leastReady_7 zf_NE 3 rfl rfl 6 (by decide) zw_124 rfl ?_
    refine vv_icmp_ge (tgt := 40) F zd_PA_leastReady_10 rfl (by first | exact ⟨by omega, by omega⟩) (by first | exact ⟨by omega, by omega⟩) (fun _ => ?_) (fun h9 => absurd h9 (by omega))
    exact k  hI
  | succ d ih =>
    intro i  hd hI
    have q1 := hNb i.toNat (by omega)
    have q2 := hW i.toNat (by omega)
    refine vv_iload_n F zd_PA_leastReady_2 rfl 1 rfl ?_
    refine vv_aload_n F zd_PA_leastReady_3 rfl 0 rfl ?_
    refine vv_get F zd_PA_leastReady_4 zf_PA 0 rfl rfl 5 (by decide) zw_151 rfl ?_
    refine vv_get F zd_PA_leastReady_7 zf_NE 3 rfl rfl 6 (by decide) zw_124 rfl ?_
    refine vv_icmp_ge (tgt := 40) F zd_PA_leastReady_10 rfl (by first | exact ⟨by omega, by omega⟩) (by first | exact ⟨by omega, by omega⟩) (fun h9 => absurd h9 (by omega)) (fun _ => ?_)
    refine vv_aload_n F zd_PA_leastReady_13 rfl 0 rfl ?_
    refine vv_get F zd_PA_leastReady_14 zf_PA 0 rfl rfl 6 (by decide) zw_152 rfl ?_
    refine vv_iload_n F zd_PA_leastReady_17 rfl 1 rfl ?_
    refine vv_iald F zd_PA_leastReady_18 2 rfl ⟨by omega, by omega⟩ (by decide) ?_
    refine vv_iconst F zd_PA_leastReady_19 ?_
    refine vv_icmp_ne (tgt := 34) F zd_PA_leastReady_20 rfl (by first | exact ⟨by omega, by omega⟩) (by decide) (fun h1 => ?_) (fun h1 => ?_)
    · refine vv_iinc (j := 1) (lv' := [(0, .ref y), (1, .int (iI (i + 1)))]) F zd_PA_leastReady_34 rfl (by decide) [1, 0] rfl ?_
      refine vv_goto (tgt := 2) F zd_PA_leastReady_37 rfl ?_
      exact ih (i + 1)  (by omega) (⟨by omega, fun a ha q => by
      by_cases z : a = i.toNat
      · subst z; omega
      · exact hI.2 a (by omega) q⟩)
    · refine vv_aload_n F zd_PA_leastReady_23 rfl 0 rfl ?_
      refine vv_get F zd_PA_leastReady_24 zf_PA 0 rfl rfl 0 (by decide) zw_145 rfl ?_
      refine vv_iload_n F zd_PA_leastReady_27 rfl 1 rfl ?_
      refine vv_iald F zd_PA_leastReady_28 1 rfl ⟨by omega, by omega⟩ (by decide) ?_
      refine vv_if_ne (tgt := 34) F zd_PA_leastReady_29 rfl (by first | exact ⟨by omega, by omega⟩) (fun h2 => ?_) (fun h2 => ?_)
      · refine vv_iinc (j := 1) (lv' := [(0, .ref y), (1, .int (iI (i + 1)))]) F zd_PA_leastReady_34 rfl (by decide) [1, 0] rfl ?_
        refine vv_goto (tgt := 2) F zd_PA_leastReady_37 rfl ?_
        exact ih (i + 1)  (by omega) (⟨by omega, fun a ha q => by
      by_cases z : a = i.toNat
      · subst z; omega
      · exact hI.2 a (by omega) q⟩)
      · refine vv_iload_n F zd_PA_leastReady_32 rfl 1 rfl ?_
        exact vv_iret F zd_PA_leastReady_33 ⟨i, Or.inr ⟨i.toNat, by omega, by omega, by omega, by omega, fun a ha => hI.2 a (by omega)⟩, rfl, rfl⟩

set_option maxHeartbeats 4000000 in
set_option maxRecDepth 100000 in
theorem cn_PA_leastReady (l : Launch) (G : vv_G) (y : Nat) (wt : Nat) (cn : Nat) (sm : Nat) (gs : Nat) (nb : Nat) (ls : Nat) (x : Nat) (w : Nat) (go : Nat) (ta : Nat) (o : Nat) (cs : Int) (mn : Int) (ac : Int) (rk : Bool) (n : Int) (ch : Int) (W : Nat → Int) (Nb : Nat → Int) (hn : 0 ≤ n ∧ n ≤ 160) (hNb : ∀ j, j < n.toNat → -1 ≤ Nb j ∧ Nb j ≤ 200) (hW : ∀ j, j < n.toNat → 0 ≤ W j ∧ W j ≤ 200) :
    vv_C l zy_PA_leastReady zc_PA_leastReady 2 (some .int) { frames := 0, cells := 0, slots := 0, locals := 0 } G [.ref y] [ceO 3 y [.ref wt, .ref cn, .ref sm, .ref gs, .int (iI cs), .ref x, .ref nb, .ref ls, .int (iI mn)], ceI G wt 160 W, ceI G nb 160 Nb, ceO 2 x [.ref w, .ref go, .int (iI ac), .int (iI (bZ rk)), .ref ta, .ref o, .int (iI n), .int (iI ch)]] (fun v7 w7 => ∃ (z : Int), (rdy n.toNat Nb W z) ∧ v7 = some (.int (iI z)) ∧ w7 = [ceO 3 y [.ref wt, .ref cn, .ref sm, .ref gs, .int (iI cs), .ref x, .ref nb, .ref ls, .int (iI mn)], ceI G wt 160 W, ceI G nb 160 Nb, ceO 2 x [.ref w, .ref go, .int (iI ac), .int (iI (bZ rk)), .ref ta, .ref o, .int (iI n), .int (iI ch)]]) := by
  refine vv_met (by decide +kernel) (Nat.le_of_ble_eq_true rfl) rfl ?_
  intro p e s m args below meth c A F
  refine vv_iconst F zd_PA_leastReady_0 ?_
  refine vv_istore_n (lv' := [(0, .ref y), (1, .int (iI 0))]) F zd_PA_leastReady_1 rfl (by decide) [1, 0] rfl ?_
  refine lp_PA_lr F y wt cn sm gs nb ls x w go ta o cs mn ac rk n ch W Nb hn hNb hW (fun hI => ?_) n.toNat 0 (by omega) ⟨by omega, fun j hj => by omega⟩
  refine vv_iconst F zd_PA_leastReady_40 ?_
  exact vv_iret F zd_PA_leastReady_41 ⟨-1, Or.inl ⟨rfl, fun a ha => hI.2 a (by omega)⟩, rfl, rfl⟩

set_option maxHeartbeats 4000000 in
set_option maxRecDepth 100000 in
theorem lp_PA_gv {p : Program} {l : Launch} {e : Env} {s : State} {m : MethodId} {args : Array Value} {below : List Frame} {meth : Method} {c : Code} {A : Nat → Prop} {Q : State → Prop} {G : vv_G} (F : vv_F p s m args meth c zc_PA_giveNumber "ClauseGraph$Parts" "giveNumber" none G A 5) (y : Nat) (wt : Nat) (cn : Nat) (sm : Nat) (gs : Nat) (nb : Nat) (ls : Nat) (x : Nat) (w : Nat) (go : Nat) (ta : Nat) (o : Nat) (ah : Nat) (ab : Nat) (bh : Nat) (bb : Nat) (so : Nat) (cs : Int) (mn : Int) (ac : Int) (rk : Bool) (n : Int) (ch : Int) (H : Nat → Nat → Bool) (K : Nat → Nat → Bool) (f : Nat → Int) (W : Nat → Int) (g : Nat → Int) (Nb : Nat → Int) (Ls : Nat → Int) (B : Nat → Nat → Bool) (v : Int) (g0 : Nat → Int) (hn : 0 ≤ n ∧ n ≤ 160) (hc : cl B n.toNat H K) (hv : 0 ≤ v ∧ v < n) (hm : 0 ≤ mn ∧ mn < 160) (hl : lsd (H v.toNat) 192 0 g0 g)
    (k : ∀ (W1 : Nat → Int) (N1 : Nat → Int), (0 ≤ (cN (H v.toNat) 192 : Int) ∧ N1 = gvN H K v.toNat mn Nb (cN (H v.toNat) 192 : Int).toNat ∧ W1 = gvW H K v.toNat (cN (fun p => H v.toNat p && K v.toNat p) 192 : Int) W (cN (H v.toNat) 192 : Int).toNat) → vv_V p l e { frames := 4, cells := 0, slots := 0, locals := 92 } s m args below meth c G A 5 Q 99 [(0, .ref y), (1, .int (iI v)), (2, .int (iI (cN (fun p => H v.toNat p && K v.toNat p) 192 : Int))), (3, .int (iI (cN (H v.toNat) 192 : Int))), (4, .int (iI (cN (H v.toNat) 192 : Int)))] [] [ceO 3 y [.ref wt, .ref cn, .ref sm, .ref gs, .int (iI cs), .ref x, .ref nb, .ref ls, .int (iI mn)], ceI G wt 160 W1, ceI G sm 160 g, ceI G nb 160 N1, ceI G ls 160 Ls, ceO 2 x [.ref w, .ref go, .int (iI ac), .int (iI (bZ rk)), .ref ta, .ref o, .int (iI n), .int (iI ch)], ceO 4 o [.ref ah, .ref bh, .ref so], ceO 5 ah [.ref ab], ceJ G ab 480 (tw H), ceO 5 bh [.ref bb], ceJ G bb 480 (tw K), ceI G so 160 f] 0 0)  :
    ∀ (d : Nat) (i : Int) (W1 : Nat → Int) (N1 : Nat → Int), i + (d : Int) = (cN (H v.toNat) 192 : Int) → (0 ≤ i ∧ N1 = gvN H K v.toNat mn Nb i.toNat ∧ W1 = gvW H K v.toNat (cN (fun p => H v.toNat p && K v.toNat p) 192 : Int) W i.toNat) → vv_V p l e { frames := 4, cells := 0, slots := 0, locals := 92 } s m args below meth c G A 5 Q 31 [(0, .ref y), (1, .int (iI v)), (2, .int (iI (cN (fun p => H v.toNat p && K v.toNat p) 192 : Int))), (3, .int (iI (cN (H v.toNat) 192 : Int))), (4, .int (iI i))] [] [ceO 3 y [.ref wt, .ref cn, .ref sm, .ref gs, .int (iI cs), .ref x, .ref nb, .ref ls, .int (iI mn)], ceI G wt 160 W1, ceI G sm 160 g, ceI G nb 160 N1, ceI G ls 160 Ls, ceO 2 x [.ref w, .ref go, .int (iI ac), .int (iI (bZ rk)), .ref ta, .ref o, .int (iI n), .int (iI ch)], ceO 4 o [.ref ah, .ref bh, .ref so], ceO 5 ah [.ref ab], ceJ G ab 480 (tw H), ceO 5 bh [.ref bb], ceJ G bb 480 (tw K), ceI G so 160 f] 0 0 := by
  intro d
  induction d with
  | zero =>
    intro i W1 N1 hd hI
    have hz : i = (cN (H v.toNat) 192 : Int) := by omega
    subst hz
    have hb := cN_160 (fun y hy => ((cl_wf hc (by omega)).1 v.toNat y hy).2)
    refine vv_iload F zd_PA_giveNumber_31 4 rfl ?_
    refine vv_iload_n F zd_PA_giveNumber_33 rfl 3 rfl ?_
    refine vv_icmp_ge (tgt := 99) F zd_PA_giveNumber_34 rfl (by first | exact ⟨by omega, by omega⟩) (by first | exact ⟨by omega, by omega⟩) (fun _ => ?_) (fun h9 => absurd h9 (by omega))
    exact k W1 N1 hI
  | succ d ih =>
    intro i W1 N1 hd hI
    have wH := (cl_wf hc (by omega)).1
    have hb := cN_160 (fun y hy => (wH v.toNat y hy).2)
    obtain ⟨p9, hp1, hp2, hp3, hp4⟩ := lsd_at0 hl (i := i.toNat) (by omega)
    have hp5 := (wH v.toNat p9 hp2).2
    refine vv_iload F zd_PA_giveNumber_31 4 rfl ?_
    refine vv_iload_n F zd_PA_giveNumber_33 rfl 3 rfl ?_
    refine vv_icmp_ge (tgt := 99) F zd_PA_giveNumber_34 rfl (by first | exact ⟨by omega, by omega⟩) (by first | exact ⟨by omega, by omega⟩) (fun h9 => absurd h9 (by omega)) (fun _ => ?_)
    refine vv_aload_n F zd_PA_giveNumber_37 rfl 0 rfl ?_
    refine vv_get F zd_PA_giveNumber_38 zf_PA 0 rfl rfl 5 (by decide) zw_151 rfl ?_
    refine vv_get F zd_PA_giveNumber_41 zf_NE 5 rfl rfl 5 (by decide) zw_122 rfl ?_
    refine vv_iload_n F zd_PA_giveNumber_44 rfl 1 rfl ?_
    refine vv_aload_n F zd_PA_giveNumber_45 rfl 0 rfl ?_
    refine vv_get F zd_PA_giveNumber_46 zf_PA 0 rfl rfl 2 (by decide) zw_147 rfl ?_
    refine vv_iload F zd_PA_giveNumber_49 4 rfl ?_
    refine vv_iald F zd_PA_giveNumber_51 2 rfl ⟨by omega, by omega⟩ (by decide) ?_
    refine vv_callV (q0 := 6) (As := [.int (iI v), .int (iI (g i.toNat))]) (rest := []) (wr := [ceO 3 y [.ref wt, .ref cn, .ref sm, .ref gs, .int (iI cs), .ref x, .ref nb, .ref ls, .int (iI mn)], ceI G wt 160 W1, ceI G sm 160 g, ceI G nb 160 N1, ceI G ls 160 Ls, ceO 2 x [.ref w, .ref go, .int (iI ac), .int (iI (bZ rk)), .ref ta, .ref o, .int (iI n), .int (iI ch)]]) F (cn_RE_inOneKnot l G o ah ab bh bb so H K f v (g i.toNat) ⟨by omega, by omega⟩ ⟨by omega, by omega⟩) zm_RE_inOneKnot ⟨zw_333, zw_334⟩ zw_332 zd_PA_giveNumber_52 ⟨by decide, by decide⟩ ⟨by decide, by decide⟩ [6, 7, 8, 9, 10, 11] [0, 1, 2, 3, 4, 5] rfl rfl ⟨rfl, rfl, by decide⟩ rfl rfl rfl rfl (Nat.le_of_ble_eq_true rfl) (vv_then (ws' := [ceO 3 y [.ref wt, .ref cn, .ref sm, .ref gs, .int (iI cs), .ref x, .ref nb, .ref ls, .int (iI mn)], ceI G wt 160 W1, ceI G sm 160 g, ceI G nb 160 N1, ceI G ls 160 Ls, ceO 2 x [.ref w, .ref go, .int (iI ac), .int (iI (bZ rk)), .ref ta, .ref o, .int (iI n), .int (iI ch)], ceO 4 o [.ref ah, .ref bh, .ref so], ceO 5 ah [.ref ab], ceJ G ab 480 (tw H), ceO 5 bh [.ref bb], ceJ G bb 480 (tw K), ceI G so 160 f]) (st' := [.int (iI (bZ (H v.toNat (g i.toNat).toNat && K v.toNat (g i.toNat).toNat)))]) [0, 1, 2, 3, 4, 5, 6, 7, 8, 9, 10, 11] rfl rfl rfl ?_)
    refine vv_if_eq (tgt := 77) F zd_PA_giveNumber_55 rfl (bZ_rg _) (fun h1 => ?_) (fun h1 => ?_)
    · have h1 : (H v.toNat (g i.toNat).toNat && K v.toNat (g i.toNat).toNat) = false := (bZ_0 _).mp h1
      refine vv_aload_n F zd_PA_giveNumber_77 rfl 0 rfl ?_
      refine vv_get F zd_PA_giveNumber_78 zf_PA 0 rfl rfl 0 (by decide) zw_145 rfl ?_
      refine vv_aload_n F zd_PA_giveNumber_81 rfl 0 rfl ?_
      refine vv_get F zd_PA_giveNumber_82 zf_PA 0 rfl rfl 2 (by decide) zw_147 rfl ?_
      refine vv_iload F zd_PA_giveNumber_85 4 rfl ?_
      refine vv_iald F zd_PA_giveNumber_87 2 rfl ⟨by omega, by omega⟩ (by decide) ?_
      refine vv_dup2_11 F zd_PA_giveNumber_88 rfl rfl ?_
      refine vv_iald F zd_PA_giveNumber_89 1 rfl ⟨by omega, by omega⟩ (by decide) ?_
      refine vv_iload_n F zd_PA_giveNumber_90 rfl 2 rfl ?_
      refine vv_isub F zd_PA_giveNumber_91 ?_
      refine vv_iast (x := (W1 (g i.toNat).toNat) - (cN (fun p => H v.toNat p && K v.toNat p) 192 : Int)) (ws' := [ceO 3 y [.ref wt, .ref cn, .ref sm, .ref gs, .int (iI cs), .ref x, .ref nb, .ref ls, .int (iI mn)], ceI G wt 160 (va_up W1 (g i.toNat).toNat ((W1 (g i.toNat).toNat) - (cN (fun p => H v.toNat p && K v.toNat p) 192 : Int))), ceI G sm 160 g, ceI G nb 160 N1, ceI G ls 160 Ls, ceO 2 x [.ref w, .ref go, .int (iI ac), .int (iI (bZ rk)), .ref ta, .ref o, .int (iI n), .int (iI ch)], ceO 4 o [.ref ah, .ref bh, .ref so], ceO 5 ah [.ref ab], ceJ G ab 480 (tw H), ceO 5 bh [.ref bb], ceJ G bb 480 (tw K), ceI G so 160 f]) F zd_PA_giveNumber_92 1 rfl ⟨by omega, by omega⟩ (by decide) rfl ?_
      refine vv_iinc (j := 4) (lv' := [(0, .ref y), (1, .int (iI v)), (2, .int (iI (cN (fun p => H v.toNat p && K v.toNat p) 192 : Int))), (3, .int (iI (cN (H v.toNat) 192 : Int))), (4, .int (iI (i + 1)))]) F zd_PA_giveNumber_93 rfl (by decide) [1, 2, 3, 4, 0] rfl ?_
      refine vv_goto (tgt := 31) F zd_PA_giveNumber_96 rfl ?_
      exact ih (i + 1) (va_up W1 (g i.toNat).toNat ((W1 (g i.toNat).toNat) - (cN (fun p => H v.toNat p && K v.toNat p) 192 : Int))) N1 (by omega) (⟨by omega, by rw [show (i + 1).toNat = i.toNat + 1 by omega, gv_outN hp2 hp3 (by rw [hp4, Int.toNat_natCast, hp2, Bool.true_and] at h1; exact h1)]; exact hI.2.1, by
      rw [hp4, Int.toNat_natCast, hp2, Bool.true_and] at h1
      rw [hp4, Int.toNat_natCast, hI.2.2, gv_out hp2 hp3 h1, show (i + 1).toNat = i.toNat + 1 by omega]⟩)
    · have h1 : (H v.toNat (g i.toNat).toNat && K v.toNat (g i.toNat).toNat) = true := by cases hb9 : (H v.toNat (g i.toNat).toNat && K v.toNat (g i.toNat).toNat) with | true => rfl | false => exact absurd ((bZ_0 _).mpr hb9) h1
      refine vv_aload_n F zd_PA_giveNumber_58 rfl 0 rfl ?_
      refine vv_get F zd_PA_giveNumber_59 zf_PA 0 rfl rfl 6 (by decide) zw_152 rfl ?_
      refine vv_aload_n F zd_PA_giveNumber_62 rfl 0 rfl ?_
      refine vv_get F zd_PA_giveNumber_63 zf_PA 0 rfl rfl 2 (by decide) zw_147 rfl ?_
      refine vv_iload F zd_PA_giveNumber_66 4 rfl ?_
      refine vv_iald F zd_PA_giveNumber_68 2 rfl ⟨by omega, by omega⟩ (by decide) ?_
      refine vv_aload_n F zd_PA_giveNumber_69 rfl 0 rfl ?_
      refine vv_get F zd_PA_giveNumber_70 zf_PA 0 rfl rfl 8 (by decide) zw_156 rfl ?_
      refine vv_iast (x := mn) (ws' := [ceO 3 y [.ref wt, .ref cn, .ref sm, .ref gs, .int (iI cs), .ref x, .ref nb, .ref ls, .int (iI mn)], ceI G wt 160 W1, ceI G sm 160 g, ceI G nb 160 (va_up N1 (g i.toNat).toNat mn), ceI G ls 160 Ls, ceO 2 x [.ref w, .ref go, .int (iI ac), .int (iI (bZ rk)), .ref ta, .ref o, .int (iI n), .int (iI ch)], ceO 4 o [.ref ah, .ref bh, .ref so], ceO 5 ah [.ref ab], ceJ G ab 480 (tw H), ceO 5 bh [.ref bb], ceJ G bb 480 (tw K), ceI G so 160 f]) F zd_PA_giveNumber_73 3 rfl ⟨by omega, by omega⟩ (by decide) rfl ?_
      refine vv_goto (tgt := 93) F zd_PA_giveNumber_74 rfl ?_
      refine vv_iinc (j := 4) (lv' := [(0, .ref y), (1, .int (iI v)), (2, .int (iI (cN (fun p => H v.toNat p && K v.toNat p) 192 : Int))), (3, .int (iI (cN (H v.toNat) 192 : Int))), (4, .int (iI (i + 1)))]) F zd_PA_giveNumber_93 rfl (by decide) [1, 2, 3, 4, 0] rfl ?_
      refine vv_goto (tgt := 31) F zd_PA_giveNumber_96 rfl ?_
      exact ih (i + 1) W1 (va_up N1 (g i.toNat).toNat mn) (by omega) (⟨by omega, by
      rw [hp4, Int.toNat_natCast, hp2, Bool.true_and] at h1
      rw [hp4, Int.toNat_natCast, hI.2.1, gv_knot hp2 hp3 h1, show (i + 1).toNat = i.toNat + 1 by omega], by
      rw [hp4, Int.toNat_natCast, hp2, Bool.true_and] at h1
      rw [hI.2.2, show (i + 1).toNat = i.toNat + 1 by omega, gv_knotW hp2 hp3 h1]⟩)

set_option maxHeartbeats 4000000 in
set_option maxRecDepth 100000 in
theorem cn_PA_giveNumber (l : Launch) (G : vv_G) (y : Nat) (wt : Nat) (cn : Nat) (sm : Nat) (gs : Nat) (nb : Nat) (ls : Nat) (x : Nat) (w : Nat) (go : Nat) (ta : Nat) (o : Nat) (ah : Nat) (ab : Nat) (bh : Nat) (bb : Nat) (so : Nat) (cs : Int) (mn : Int) (ac : Int) (rk : Bool) (n : Int) (ch : Int) (H : Nat → Nat → Bool) (K : Nat → Nat → Bool) (f : Nat → Int) (W : Nat → Int) (g : Nat → Int) (Nb : Nat → Int) (Ls : Nat → Int) (B : Nat → Nat → Bool) (v : Int) (hn : 0 ≤ n ∧ n ≤ 160) (hc : cl B n.toNat H K) (hv : 0 ≤ v ∧ v < n) (hm : 0 ≤ mn ∧ mn < 160) :
    vv_C l zy_PA_giveNumber zc_PA_giveNumber 5 none { frames := 4, cells := 0, slots := 0, locals := 92 } G [.ref y, .int (iI v)] [ceO 3 y [.ref wt, .ref cn, .ref sm, .ref gs, .int (iI cs), .ref x, .ref nb, .ref ls, .int (iI mn)], ceI G wt 160 W, ceI G sm 160 g, ceI G nb 160 Nb, ceI G ls 160 Ls, ceO 2 x [.ref w, .ref go, .int (iI ac), .int (iI (bZ rk)), .ref ta, .ref o, .int (iI n), .int (iI ch)], ceO 4 o [.ref ah, .ref bh, .ref so], ceO 5 ah [.ref ab], ceJ G ab 480 (tw H), ceO 5 bh [.ref bb], ceJ G bb 480 (tw K), ceI G so 160 f] (fun v7 w7 => ∃ (W2 : Nat → Int) (Nb2 : Nat → Int) (g2 : Nat → Int), (∀ a, Nb2 a = nst H Nb v.toNat mn a) ∧ (∀ a, W2 a = if (H v.toNat a && !(K v.toNat a)) = true then W a - (cN (fun p => H v.toNat p && K v.toNat p) 192 : Int) else W a) ∧ v7 = none ∧ w7 = [ceO 3 y [.ref wt, .ref cn, .ref sm, .ref gs, .int (iI cs), .ref x, .ref nb, .ref ls, .int (iI (mn + 1))], ceI G wt 160 W2, ceI G sm 160 g2, ceI G nb 160 Nb2, ceI G ls 160 (va_up Ls mn.toNat v), ceO 2 x [.ref w, .ref go, .int (iI ac), .int (iI (bZ rk)), .ref ta, .ref o, .int (iI n), .int (iI ch)], ceO 4 o [.ref ah, .ref bh, .ref so], ceO 5 ah [.ref ab], ceJ G ab 480 (tw H), ceO 5 bh [.ref bb], ceJ G bb 480 (tw K), ceI G so 160 f]) := by
  refine vv_met (by decide +kernel) (Nat.le_of_ble_eq_true rfl) rfl ?_
  intro p e s m args below meth c A F
  refine vv_aload_n F zd_PA_giveNumber_0 rfl 0 rfl ?_
  refine vv_get F zd_PA_giveNumber_1 zf_PA 0 rfl rfl 5 (by decide) zw_151 rfl ?_
  refine vv_get F zd_PA_giveNumber_4 zf_NE 5 rfl rfl 5 (by decide) zw_122 rfl ?_
  refine vv_iload_n F zd_PA_giveNumber_7 rfl 1 rfl ?_
  refine vv_callV (q0 := 6) (As := [.int (iI v)]) (rest := []) (wr := [ceO 3 y [.ref wt, .ref cn, .ref sm, .ref gs, .int (iI cs), .ref x, .ref nb, .ref ls, .int (iI mn)], ceI G wt 160 W, ceI G sm 160 g, ceI G nb 160 Nb, ceI G ls 160 Ls, ceO 2 x [.ref w, .ref go, .int (iI ac), .int (iI (bZ rk)), .ref ta, .ref o, .int (iI n), .int (iI ch)]]) F (cn_RE_knotSize l G o ah ab bh bb so H K f v ⟨by omega, by omega⟩) zm_RE_knotSize ⟨zw_312, zw_313⟩ zw_311 zd_PA_giveNumber_8 ⟨by decide, by decide⟩ ⟨by decide, by decide⟩ [6, 7, 8, 9, 10, 11] [0, 1, 2, 3, 4, 5] rfl rfl ⟨rfl, rfl, by decide⟩ rfl rfl rfl rfl (Nat.le_of_ble_eq_true rfl) (vv_then (ws' := [ceO 3 y [.ref wt, .ref cn, .ref sm, .ref gs, .int (iI cs), .ref x, .ref nb, .ref ls, .int (iI mn)], ceI G wt 160 W, ceI G sm 160 g, ceI G nb 160 Nb, ceI G ls 160 Ls, ceO 2 x [.ref w, .ref go, .int (iI ac), .int (iI (bZ rk)), .ref ta, .ref o, .int (iI n), .int (iI ch)], ceO 4 o [.ref ah, .ref bh, .ref so], ceO 5 ah [.ref ab], ceJ G ab 480 (tw H), ceO 5 bh [.ref bb], ceJ G bb 480 (tw K), ceI G so 160 f]) (st' := [.int (iI (cN (fun p => H v.toNat p && K v.toNat p) 192 : Int))]) [0, 1, 2, 3, 4, 5, 6, 7, 8, 9, 10, 11] rfl rfl rfl ?_)
  refine vv_istore_n (lv' := [(0, .ref y), (1, .int (iI v)), (2, .int (iI (cN (fun p => H v.toNat p && K v.toNat p) 192 : Int)))]) F zd_PA_giveNumber_11 rfl (by decide) [1, 2, 0] rfl ?_
  refine vv_aload_n F zd_PA_giveNumber_12 rfl 0 rfl ?_
  refine vv_get F zd_PA_giveNumber_13 zf_PA 0 rfl rfl 5 (by decide) zw_151 rfl ?_
  refine vv_get F zd_PA_giveNumber_16 zf_NE 5 rfl rfl 5 (by decide) zw_122 rfl ?_
  refine vv_iload_n F zd_PA_giveNumber_19 rfl 1 rfl ?_
  refine vv_aload_n F zd_PA_giveNumber_20 rfl 0 rfl ?_
  refine vv_get F zd_PA_giveNumber_21 zf_PA 0 rfl rfl 2 (by decide) zw_147 rfl ?_
  refine vv_callV (q0 := 6) (As := [.int (iI v), .ref sm]) (rest := []) (wr := [ceO 3 y [.ref wt, .ref cn, .ref sm, .ref gs, .int (iI cs), .ref x, .ref nb, .ref ls, .int (iI mn)], ceI G wt 160 W, ceI G nb 160 Nb, ceI G ls 160 Ls, ceO 2 x [.ref w, .ref go, .int (iI ac), .int (iI (bZ rk)), .ref ta, .ref o, .int (iI n), .int (iI ch)]]) F (cn_RE_listAhead l G o ah ab bh bb so H K f v sm g (cl_wf hc (by omega)).1 ⟨by omega, by omega⟩) zm_RE_listAhead ⟨zw_329, zw_330⟩ zw_328 zd_PA_giveNumber_24 ⟨by decide, by decide⟩ ⟨by decide, by decide⟩ [6, 7, 8, 9, 10, 11, 2] [0, 1, 3, 4, 5] rfl rfl ⟨rfl, rfl, by decide⟩ rfl rfl rfl rfl (Nat.le_of_ble_eq_true rfl) (fun v9 w9 hp9 => ?_)
  obtain ⟨g2_1, hf1_0, rfl, rfl⟩ := hp9
  refine vv_thenE (ws' := [ceO 3 y [.ref wt, .ref cn, .ref sm, .ref gs, .int (iI cs), .ref x, .ref nb, .ref ls, .int (iI mn)], ceI G wt 160 W, ceI G sm 160 g2_1, ceI G nb 160 Nb, ceI G ls 160 Ls, ceO 2 x [.ref w, .ref go, .int (iI ac), .int (iI (bZ rk)), .ref ta, .ref o, .int (iI n), .int (iI ch)], ceO 4 o [.ref ah, .ref bh, .ref so], ceO 5 ah [.ref ab], ceJ G ab 480 (tw H), ceO 5 bh [.ref bb], ceJ G bb 480 (tw K), ceI G so 160 f]) (st' := [.int (iI (cN (H v.toNat) 192 : Int))]) (kc' := 0) (ks' := 0) [0, 1, 11, 2, 3, 4, 5, 6, 7, 8, 9, 10] rfl rfl rfl ?_
  refine vv_istore_n (lv' := [(0, .ref y), (1, .int (iI v)), (2, .int (iI (cN (fun p => H v.toNat p && K v.toNat p) 192 : Int))), (3, .int (iI (cN (H v.toNat) 192 : Int)))]) F zd_PA_giveNumber_27 rfl (by decide) [1, 2, 3, 0] rfl ?_
  refine vv_iconst F zd_PA_giveNumber_28 ?_
  refine vv_istore (lv' := [(0, .ref y), (1, .int (iI v)), (2, .int (iI (cN (fun p => H v.toNat p && K v.toNat p) 192 : Int))), (3, .int (iI (cN (H v.toNat) 192 : Int))), (4, .int (iI 0))]) F zd_PA_giveNumber_29 (by decide) [1, 2, 3, 4, 0] rfl ?_
  have wH := (cl_wf hc (by omega)).1
  refine lp_PA_gv F y wt cn sm gs nb ls x w go ta o ah ab bh bb so cs mn ac rk n ch H K f W g2_1 Nb Ls B v g hn hc hv hm hf1_0 (fun W2 N2 hI => ?_) (cN (H v.toNat) 192) 0 W Nb (by omega) ⟨by omega, gvN_0.symm, gvW_0.symm⟩
  refine vv_aload_n F zd_PA_giveNumber_99 rfl 0 rfl ?_
  refine vv_get F zd_PA_giveNumber_100 zf_PA 0 rfl rfl 7 (by decide) zw_154 rfl ?_
  refine vv_aload_n F zd_PA_giveNumber_103 rfl 0 rfl ?_
  refine vv_get F zd_PA_giveNumber_104 zf_PA 0 rfl rfl 8 (by decide) zw_156 rfl ?_
  refine vv_iload_n F zd_PA_giveNumber_107 rfl 1 rfl ?_
  refine vv_iast (x := v) (ws' := [ceO 3 y [.ref wt, .ref cn, .ref sm, .ref gs, .int (iI cs), .ref x, .ref nb, .ref ls, .int (iI mn)], ceI G wt 160 W2, ceI G sm 160 g2_1, ceI G nb 160 N2, ceI G ls 160 (va_up Ls mn.toNat v), ceO 2 x [.ref w, .ref go, .int (iI ac), .int (iI (bZ rk)), .ref ta, .ref o, .int (iI n), .int (iI ch)], ceO 4 o [.ref ah, .ref bh, .ref so], ceO 5 ah [.ref ab], ceJ G ab 480 (tw H), ceO 5 bh [.ref bb], ceJ G bb 480 (tw K), ceI G so 160 f]) F zd_PA_giveNumber_108 4 rfl ⟨by omega, by omega⟩ (by decide) rfl ?_
  refine vv_aload_n F zd_PA_giveNumber_109 rfl 0 rfl ?_
  refine vv_dup F zd_PA_giveNumber_110 rfl ?_
  refine vv_get F zd_PA_giveNumber_111 zf_PA 0 rfl rfl 8 (by decide) zw_156 rfl ?_
  refine vv_iconst F zd_PA_giveNumber_114 ?_
  refine vv_iadd F zd_PA_giveNumber_115 ?_
  refine vv_put (v := .int (iI (mn + 1))) (ws' := [ceO 3 y [.ref wt, .ref cn, .ref sm, .ref gs, .int (iI cs), .ref x, .ref nb, .ref ls, .int (iI (mn + 1))], ceI G wt 160 W2, ceI G sm 160 g2_1, ceI G nb 160 N2, ceI G ls 160 (va_up Ls mn.toNat v), ceO 2 x [.ref w, .ref go, .int (iI ac), .int (iI (bZ rk)), .ref ta, .ref o, .int (iI n), .int (iI ch)], ceO 4 o [.ref ah, .ref bh, .ref so], ceO 5 ah [.ref ab], ceJ G ab 480 (tw H), ceO 5 bh [.ref bb], ceJ G bb 480 (tw K), ceI G so 160 f]) F zd_PA_giveNumber_116 zf_PA zt_PA_ok zn_PA 0 rfl rfl 8 (by decide) zw_156 rfl rfl rfl (Nat.le_of_ble_eq_true rfl) rfl ?_
  exact vv_vret F zd_PA_giveNumber_119 ⟨W2, N2, _, fun a => by rw [hI.2.1]; exact gvN_end hc (by omega) a, fun a => by rw [hI.2.2]; exact gvW_end hc (by omega) a, rfl, rfl⟩

set_option maxHeartbeats 4000000 in
set_option maxRecDepth 100000 in
theorem lp_PA_gs {p : Program} {l : Launch} {e : Env} {s : State} {m : MethodId} {args : Array Value} {below : List Frame} {meth : Method} {c : Code} {A : Nat → Prop} {Q : State → Prop} {G : vv_G} (F : vv_F p s m args meth c zc_PA_giveNumbers "ClauseGraph$Parts" "giveNumbers" none G A 3) (y : Nat) (wt : Nat) (cn : Nat) (sm : Nat) (gs : Nat) (nb : Nat) (ls : Nat) (x : Nat) (w : Nat) (go : Nat) (ta : Nat) (o : Nat) (ah : Nat) (ab : Nat) (bh : Nat) (bb : Nat) (so : Nat) (ac : Int) (rk : Bool) (n : Int) (ch : Int) (H : Nat → Nat → Bool) (K : Nat → Nat → Bool) (f : Nat → Int) (B : Nat → Nat → Bool) (cs : Int) (hn : 0 ≤ n ∧ n ≤ 160) (hc : cl B n.toNat H K)
    (k : ∀ (W : Nat → Int) (g : Nat → Int) (Nb : Nat → Int) (Ls : Nat → Int) (mn : Int), numC n.toNat H Nb Ls mn → vv_V p l e { frames := 5, cells := 0, slots := 0, locals := 116 } s m args below meth c G A 3 Q 42 [(0, .ref y)] [] [ceO 3 y [.ref wt, .ref cn, .ref sm, .ref gs, .int (iI cs), .ref x, .ref nb, .ref ls, .int (iI mn)], ceI G wt 160 W, ceI G sm 160 g, ceI G nb 160 Nb, ceI G ls 160 Ls, ceO 2 x [.ref w, .ref go, .int (iI ac), .int (iI (bZ rk)), .ref ta, .ref o, .int (iI n), .int (iI ch)], ceO 4 o [.ref ah, .ref bh, .ref so], ceO 5 ah [.ref ab], ceJ G ab 480 (tw H), ceO 5 bh [.ref bb], ceJ G bb 480 (tw K), ceI G so 160 f] 0 0) :
    ∀ (d : Nat) (i : Int) (W : Nat → Int) (g : Nat → Int) (Nb : Nat → Int) (Ls : Nat → Int) (mn : Int), i + (d : Int) = n → (mn = i ∧ 0 ≤ i ∧ numP n.toNat H Nb Ls mn ∧ wtg n.toNat H Nb W ∧ (cN (fun a => decide (Nb a = -1)) n.toNat : Int) + i ≤ n) → vv_V p l e { frames := 5, cells := 0, slots := 0, locals := 116 } s m args below meth c G A 3 Q 7 [(0, .ref y), (1, .int (iI i))] [] [ceO 3 y [.ref wt, .ref cn, .ref sm, .ref gs, .int (iI cs), .ref x, .ref nb, .ref ls, .int (iI mn)], ceI G wt 160 W, ceI G sm 160 g, ceI G nb 160 Nb, ceI G ls 160 Ls, ceO 2 x [.ref w, .ref go, .int (iI ac), .int (iI (bZ rk)), .ref ta, .ref o, .int (iI n), .int (iI ch)], ceO 4 o [.ref ah, .ref bh, .ref so], ceO 5 ah [.ref ab], ceJ G ab 480 (tw H), ceO 5 bh [.ref bb], ceJ G bb 480 (tw K), ceI G so 160 f] 0 0 := by
  intro d
  induction d with
  | zero =>
    intro i W g Nb Ls mn hd hI
    refine vv_iload_n F zd_PA_giveNumbers_7 rfl 1 rfl ?_
    refine vv_aload_n F zd_PA_giveNumbers_8 rfl 0 rfl ?_
    refine vv_get F zd_PA_giveNumbers_9 zf_PA 0 rfl rfl 5 (by decide) zw_151 rfl ?_
    refine vv_get F zd_PA_giveNumbers_12 zf_NE 5 rfl rfl 6 (by decide) zw_124 rfl ?_
    refine vv_icmp_ge (tgt := 42) F zd_PA_giveNumbers_15 rfl (by first | exact ⟨by omega, by omega⟩) (by first | exact ⟨by omega, by omega⟩) (fun _ => ?_) (fun h9 => absurd h9 (by omega))
    refine vv_locals (lv' := [(0, .ref y)]) [0] rfl ?_
    exact k W g Nb Ls mn (un_none hI.2.2.1 (by omega))
  | succ d ih =>
    intro i W g Nb Ls mn hd hI
    refine vv_iload_n F zd_PA_giveNumbers_7 rfl 1 rfl ?_
    refine vv_aload_n F zd_PA_giveNumbers_8 rfl 0 rfl ?_
    refine vv_get F zd_PA_giveNumbers_9 zf_PA 0 rfl rfl 5 (by decide) zw_151 rfl ?_
    refine vv_get F zd_PA_giveNumbers_12 zf_NE 5 rfl rfl 6 (by decide) zw_124 rfl ?_
    refine vv_icmp_ge (tgt := 42) F zd_PA_giveNumbers_15 rfl (by first | exact ⟨by omega, by omega⟩) (by first | exact ⟨by omega, by omega⟩) (fun h9 => absurd h9 (by omega)) (fun _ => ?_)
    refine vv_aload_n F zd_PA_giveNumbers_18 rfl 0 rfl ?_
    refine vv_callV (q0 := 0) (As := []) (rest := []) (wr := [ceI G sm 160 g, ceI G ls 160 Ls, ceO 4 o [.ref ah, .ref bh, .ref so], ceO 5 ah [.ref ab], ceJ G ab 480 (tw H), ceO 5 bh [.ref bb], ceJ G bb 480 (tw K), ceI G so 160 f]) F (cn_PA_leastReady l G y wt cn sm gs nb ls x w go ta o cs mn ac rk n ch W Nb ⟨by omega, by omega⟩ (fun j hj => by have := hI.2.2.1.2.1 j hj; omega) (fun j hj => by have h8 := hI.2.2.2.1 j hj; have h7 := cN_le (hld H Nb j) n.toNat; by_cases z9 : Nb j = -1; (have := h8.1 z9; omega); (have := h8.2 z9; omega))) zm_PA_leastReady ⟨zw_322, zs_PA_leastReady⟩ zw_320 zd_PA_giveNumbers_19 ⟨by decide, by decide⟩ ⟨by decide, by decide⟩ [0, 1, 3, 5] [2, 4, 6, 7, 8, 9, 10, 11] rfl rfl ⟨rfl, rfl, by decide⟩ rfl rfl rfl rfl (Nat.le_of_ble_eq_true rfl) (fun v9 w9 hp9 => ?_)
    obtain ⟨z_1, hf1_0, rfl, rfl⟩ := hp9
    refine vv_thenE (ws' := [ceO 3 y [.ref wt, .ref cn, .ref sm, .ref gs, .int (iI cs), .ref x, .ref nb, .ref ls, .int (iI mn)], ceI G wt 160 W, ceI G sm 160 g, ceI G nb 160 Nb, ceI G ls 160 Ls, ceO 2 x [.ref w, .ref go, .int (iI ac), .int (iI (bZ rk)), .ref ta, .ref o, .int (iI n), .int (iI ch)], ceO 4 o [.ref ah, .ref bh, .ref so], ceO 5 ah [.ref ab], ceJ G ab 480 (tw H), ceO 5 bh [.ref bb], ceJ G bb 480 (tw K), ceI G so 160 f]) (st' := [.int (iI z_1)]) (kc' := 0) (ks' := 0) [8, 9, 0, 10, 1, 11, 2, 3, 4, 5, 6, 7] rfl rfl rfl ?_
    have hzr : -1 ≤ z_1 ∧ z_1 < 160 := by rcases hf1_0 with ⟨q, -⟩ | ⟨q, q1, q2, -⟩ <;> omega
    refine vv_istore_n (lv' := [(0, .ref y), (1, .int (iI i)), (2, .int (iI z_1))]) F zd_PA_giveNumbers_22 rfl (by decide) [1, 2, 0] rfl ?_
    refine vv_iload_n F zd_PA_giveNumbers_23 rfl 2 rfl ?_
    refine vv_iconst F zd_PA_giveNumbers_24 ?_
    refine vv_icmp_ne (tgt := 31) F zd_PA_giveNumbers_25 rfl (by first | exact ⟨by omega, by omega⟩) (by decide) (fun h1 => ?_) (fun h1 => ?_)
    · refine vv_aload_n F zd_PA_giveNumbers_31 rfl 0 rfl ?_
      refine vv_iload_n F zd_PA_giveNumbers_32 rfl 2 rfl ?_
      obtain ⟨x9, hzx, hx2, hx3, hx4, hx5⟩ : ∃ x : Nat, z_1 = (x : Int) ∧ x < n.toNat ∧ Nb x = -1 ∧ W x = 0 ∧ ∀ a, a < x → ¬ (Nb a = -1 ∧ W a = 0) := by rcases hf1_0 with ⟨q, -⟩ | q; exact absurd q h1; exact q
      refine vv_callV (q0 := 0) (As := [.int (iI z_1)]) (rest := []) (wr := []) F (cn_PA_giveNumber l G y wt cn sm gs nb ls x w go ta o ah ab bh bb so cs mn ac rk n ch H K f W g Nb Ls B z_1 ⟨by omega, by omega⟩ hc ⟨by omega, by omega⟩ ⟨by omega, by omega⟩) zm_PA_giveNumber ⟨zw_326, zs_PA_giveNumber⟩ zw_324 zd_PA_giveNumbers_33 ⟨by decide, by decide⟩ ⟨by decide, by decide⟩ [0, 1, 2, 3, 4, 5, 6, 7, 8, 9, 10, 11] [] rfl rfl ⟨rfl, rfl, by decide⟩ rfl rfl rfl rfl (Nat.le_of_ble_eq_true rfl) (fun v9 w9 hp9 => ?_)
      obtain ⟨W2_2, Nb2_3, g2_4, hf2_0, hf2_1, rfl, rfl⟩ := hp9
      refine vv_thenE (ws' := [ceO 3 y [.ref wt, .ref cn, .ref sm, .ref gs, .int (iI cs), .ref x, .ref nb, .ref ls, .int (iI (mn + 1))], ceI G wt 160 W2_2, ceI G sm 160 g2_4, ceI G nb 160 Nb2_3, ceI G ls 160 (va_up Ls mn.toNat z_1), ceO 2 x [.ref w, .ref go, .int (iI ac), .int (iI (bZ rk)), .ref ta, .ref o, .int (iI n), .int (iI ch)], ceO 4 o [.ref ah, .ref bh, .ref so], ceO 5 ah [.ref ab], ceJ G ab 480 (tw H), ceO 5 bh [.ref bb], ceJ G bb 480 (tw K), ceI G so 160 f]) (st' := []) (kc' := 0) (ks' := 0) [0, 1, 2, 3, 4, 5, 6, 7, 8, 9, 10, 11] rfl rfl rfl ?_
      have htn := turn_ok hc (by omega) hI.2.2.1 hI.2.2.2.1 hx2 hx3 hx4 hx5 (num' := Nb2_3) (W' := W2_2) (fun a _ => by rw [hf2_0 a, hzx, Int.toNat_natCast]) (fun a _ => by rw [hf2_1 a, hzx, Int.toNat_natCast])
      refine vv_iinc (j := 1) (lv' := [(0, .ref y), (1, .int (iI (i + 1))), (2, .int (iI z_1))]) F zd_PA_giveNumbers_36 rfl (by decide) [1, 0, 2] rfl ?_
      refine vv_goto (tgt := 7) F zd_PA_giveNumbers_39 rfl ?_
      refine vv_locals (lv' := [(0, .ref y), (1, .int (iI (i + 1)))]) [0, 1] rfl ?_
      exact ih (i + 1) W2_2 g2_4 Nb2_3 (va_up Ls mn.toNat z_1) (mn + 1) (by omega) ⟨by omega, by omega, by rw [hzx]; exact htn.1, htn.2.1, by have := htn.2.2; omega⟩
    · have hno : ∀ a, a < n.toNat → ¬ (Nb a = -1 ∧ W a = 0) := by rcases hf1_0 with ⟨-, q⟩ | ⟨q, q1, q2, -⟩; exact q; omega
      refine vv_goto (tgt := 42) F zd_PA_giveNumbers_28 rfl ?_
      refine vv_locals (lv' := [(0, .ref y)]) [0] rfl ?_
      exact k W g Nb Ls mn (rdy_none hc hI.2.2.1 hI.2.2.2.1 hno)

set_option maxHeartbeats 4000000 in
set_option maxRecDepth 100000 in
theorem cn_PA_giveNumbers (l : Launch) (G : vv_G) (y : Nat) (wt : Nat) (cn : Nat) (sm : Nat) (gs : Nat) (nb : Nat) (ls : Nat) (x : Nat) (w : Nat) (go : Nat) (ta : Nat) (o : Nat) (ah : Nat) (ab : Nat) (bh : Nat) (bb : Nat) (so : Nat) (ac : Int) (rk : Bool) (n : Int) (ch : Int) (H : Nat → Nat → Bool) (K : Nat → Nat → Bool) (f : Nat → Int) (B : Nat → Nat → Bool) (cs : Int) (W : Nat → Int) (g : Nat → Int) (Nb : Nat → Int) (Ls : Nat → Int) (mn : Int) (hn : 0 ≤ n ∧ n ≤ 160) (hc : cl B n.toNat H K) (hN : ∀ a, a < n.toNat → Nb a = -1) (hW : wtg n.toNat H Nb W) :
    vv_C l zy_PA_giveNumbers zc_PA_giveNumbers 3 none { frames := 5, cells := 0, slots := 0, locals := 116 } G [.ref y] [ceO 3 y [.ref wt, .ref cn, .ref sm, .ref gs, .int (iI cs), .ref x, .ref nb, .ref ls, .int (iI mn)], ceI G wt 160 W, ceI G sm 160 g, ceI G nb 160 Nb, ceI G ls 160 Ls, ceO 2 x [.ref w, .ref go, .int (iI ac), .int (iI (bZ rk)), .ref ta, .ref o, .int (iI n), .int (iI ch)], ceO 4 o [.ref ah, .ref bh, .ref so], ceO 5 ah [.ref ab], ceJ G ab 480 (tw H), ceO 5 bh [.ref bb], ceJ G bb 480 (tw K), ceI G so 160 f] (fun v7 w7 => ∃ (W2 : Nat → Int) (g2 : Nat → Int) (Nb2 : Nat → Int) (Ls2 : Nat → Int) (mn2 : Int), (numC n.toNat H Nb2 Ls2 mn2) ∧ v7 = none ∧ w7 = [ceO 3 y [.ref wt, .ref cn, .ref sm, .ref gs, .int (iI cs), .ref x, .ref nb, .ref ls, .int (iI mn2)], ceI G wt 160 W2, ceI G sm 160 g2, ceI G nb 160 Nb2, ceI G ls 160 Ls2, ceO 2 x [.ref w, .ref go, .int (iI ac), .int (iI (bZ rk)), .ref ta, .ref o, .int (iI n), .int (iI ch)], ceO 4 o [.ref ah, .ref bh, .ref so], ceO 5 ah [.ref ab], ceJ G ab 480 (tw H), ceO 5 bh [.ref bb], ceJ G bb 480 (tw K), ceI G so 160 f]) := by
  refine vv_met (by decide +kernel) (Nat.le_of_ble_eq_true rfl) rfl ?_
  intro p e s m args below meth c A F
  refine vv_aload_n F zd_PA_giveNumbers_0 rfl 0 rfl ?_
  refine vv_iconst F zd_PA_giveNumbers_1 ?_
  refine vv_put (v := .int (iI 0)) (ws' := [ceO 3 y [.ref wt, .ref cn, .ref sm, .ref gs, .int (iI cs), .ref x, .ref nb, .ref ls, .int (iI 0)], ceI G wt 160 W, ceI G sm 160 g, ceI G nb 160 Nb, ceI G ls 160 Ls, ceO 2 x [.ref w, .ref go, .int (iI ac), .int (iI (bZ rk)), .ref ta, .ref o, .int (iI n), .int (iI ch)], ceO 4 o [.ref ah, .ref bh, .ref so], ceO 5 ah [.ref ab], ceJ G ab 480 (tw H), ceO 5 bh [.ref bb], ceJ G bb 480 (tw K), ceI G so 160 f]) F zd_PA_giveNumbers_2 zf_PA zt_PA_ok zn_PA 0 rfl rfl 8 (by decide) zw_156 rfl rfl rfl (Nat.le_of_ble_eq_true rfl) rfl ?_
  refine vv_iconst F zd_PA_giveNumbers_5 ?_
  refine vv_istore_n (lv' := [(0, .ref y), (1, .int (iI 0))]) F zd_PA_giveNumbers_6 rfl (by decide) [1, 0] rfl ?_
  refine lp_PA_gs F y wt cn sm gs nb ls x w go ta o ah ab bh bb so ac rk n ch H K f B cs hn hc (fun W2 g2 Nb2 Ls2 mn2 hI => ?_) n.toNat 0 W g Nb Ls 0 (by omega) ⟨rfl, by omega, numP_0 hN, hW, by have := cN_le (fun a => decide (Nb a = -1)) n.toNat; omega⟩
  exact vv_vret F zd_PA_giveNumbers_42 ⟨W2, g2, Nb2, Ls2, mn2, hI, rfl, rfl⟩

set_option maxHeartbeats 4000000 in
set_option maxRecDepth 100000 in
theorem cn_PA_renewed (l : Launch) (G : vv_G) (y : Nat) (wt : Nat) (cn : Nat) (sm : Nat) (gs : Nat) (nb : Nat) (ls : Nat) (x : Nat) (w : Nat) (go : Nat) (ta : Nat) (o : Nat) (tb : Nat) (B : Nat → Nat → Bool) (ah : Nat) (ab : Nat) (bh : Nat) (bb : Nat) (so : Nat) (cs : Int) (mn : Int) (ac : Int) (rk : Bool) (n : Int) (ch : Int) (H : Nat → Nat → Bool) (K : Nat → Nat → Bool) (f : Nat → Int) (gf : Nat → Int) (W : Nat → Int) (g : Nat → Int) (Nb : Nat → Int) (Ls : Nat → Int) (hn : 0 ≤ n ∧ n ≤ 160) (hB : ∀ x y, B x y = true → x < n.toNat ∧ y < n.toNat) (hck : rk = true → cl B n.toNat H K) (hnum : cs = ch → rk = true ∧ numC n.toNat H Nb Ls mn) (hcs : rg cs) (hch : rg ch) :
    vv_C l zy_PA_renewed zc_PA_renewed 1 (some (.object "ClauseGraph$Parts")) { frames := 6, cells := 0, slots := 0, locals := 138 } G [.ref y] [ceO 3 y [.ref wt, .ref cn, .ref sm, .ref gs, .int (iI cs), .ref x, .ref nb, .ref ls, .int (iI mn)], ceI G wt 160 W, ceI G sm 160 g, ceI G nb 160 Nb, ceI G ls 160 Ls, ceO 2 x [.ref w, .ref go, .int (iI ac), .int (iI (bZ rk)), .ref ta, .ref o, .int (iI n), .int (iI ch)], ceO 5 ta [.ref tb], ceJ G tb 480 (tw B), ceO 4 o [.ref ah, .ref bh, .ref so], ceO 5 ah [.ref ab], ceJ G ab 480 (tw H), ceO 5 bh [.ref bb], ceJ G bb 480 (tw K), ceI G so 160 f, ceI G go 160 gf] (fun v7 w7 => ∃ (W2 : Nat → Int) (g2 : Nat → Int) (Nb2 : Nat → Int) (Ls2 : Nat → Int) (mn2 : Int) (H2 : Nat → Nat → Bool) (K2 : Nat → Nat → Bool) (f2 : Nat → Int) (gf2 : Nat → Int), (cl B n.toNat H2 K2) ∧ (numC n.toNat H2 Nb2 Ls2 mn2) ∧ v7 = some (.ref y) ∧ w7 = [ceO 3 y [.ref wt, .ref cn, .ref sm, .ref gs, .int (iI ch), .ref x, .ref nb, .ref ls, .int (iI mn2)], ceI G wt 160 W2, ceI G sm 160 g2, ceI G nb 160 Nb2, ceI G ls 160 Ls2, ceO 2 x [.ref w, .ref go, .int (iI ac), .int (iI (bZ true)), .ref ta, .ref o, .int (iI n), .int (iI ch)], ceO 5 ta [.ref tb], ceJ G tb 480 (tw B), ceO 4 o [.ref ah, .ref bh, .ref so], ceO 5 ah [.ref ab], ceJ G ab 480 (tw H2), ceO 5 bh [.ref bb], ceJ G bb 480 (tw K2), ceI G so 160 f2, ceI G go 160 gf2]) := by
  refine vv_met (by decide +kernel) (Nat.le_of_ble_eq_true rfl) rfl ?_
  intro p e s m args below meth c A F
  refine vv_aload_n F zd_PA_renewed_0 rfl 0 rfl ?_
  refine vv_get F zd_PA_renewed_1 zf_PA 0 rfl rfl 4 (by decide) zw_149 rfl ?_
  refine vv_aload_n F zd_PA_renewed_4 rfl 0 rfl ?_
  refine vv_get F zd_PA_renewed_5 zf_PA 0 rfl rfl 5 (by decide) zw_151 rfl ?_
  refine vv_get F zd_PA_renewed_8 zf_NE 5 rfl rfl 7 (by decide) zw_126 rfl ?_
  refine vv_icmp_eq (tgt := 40) F zd_PA_renewed_11 rfl (by first | exact ⟨by omega, by omega⟩ | exact hcs | exact hch) (by first | exact ⟨by omega, by omega⟩ | exact hcs | exact hch) (fun h1 => ?_) (fun h1 => ?_)
  · refine vv_aload_n F zd_PA_renewed_40 rfl 0 rfl ?_
    exact vv_aret F zd_PA_renewed_41 ⟨W, g, Nb, Ls, mn, H, K, f, gf, hck (hnum h1).1, (hnum h1).2, rfl, by rw [(hnum h1).1, h1]⟩
  · refine vv_aload_n F zd_PA_renewed_14 rfl 0 rfl ?_
    refine vv_aload_n F zd_PA_renewed_15 rfl 0 rfl ?_
    refine vv_get F zd_PA_renewed_16 zf_PA 0 rfl rfl 5 (by decide) zw_151 rfl ?_
    refine vv_callV (q0 := 5) (As := []) (rest := [.ref y]) (wr := [ceO 3 y [.ref wt, .ref cn, .ref sm, .ref gs, .int (iI cs), .ref x, .ref nb, .ref ls, .int (iI mn)], ceI G wt 160 W, ceI G sm 160 g, ceI G nb 160 Nb, ceI G ls 160 Ls]) F (cn_NE_settled l G x w go ta o tb B ah ab bh bb so ac rk n ch H K f gf ⟨by omega, by omega⟩ hB hck) zm_NE_settled ⟨zw_262, zw_263⟩ zw_261 zd_PA_renewed_19 ⟨by decide, by decide⟩ ⟨by decide, by decide⟩ [5, 6, 7, 8, 9, 10, 11, 12, 13, 14] [0, 1, 2, 3, 4] rfl rfl ⟨rfl, rfl, by decide⟩ rfl rfl rfl rfl (Nat.le_of_ble_eq_true rfl) (fun v9 w9 hp9 => ?_)
    obtain ⟨H2_1, K2_2, f2_3, g2_4, hf1_0, rfl, rfl⟩ := hp9
    refine vv_thenE (ws' := [ceO 3 y [.ref wt, .ref cn, .ref sm, .ref gs, .int (iI cs), .ref x, .ref nb, .ref ls, .int (iI mn)], ceI G wt 160 W, ceI G sm 160 g, ceI G nb 160 Nb, ceI G ls 160 Ls, ceO 2 x [.ref w, .ref go, .int (iI ac), .int (iI (bZ true)), .ref ta, .ref o, .int (iI n), .int (iI ch)], ceO 5 ta [.ref tb], ceJ G tb 480 (tw B), ceO 4 o [.ref ah, .ref bh, .ref so], ceO 5 ah [.ref ab], ceJ G ab 480 (tw H2_1), ceO 5 bh [.ref bb], ceJ G bb 480 (tw K2_2), ceI G so 160 f2_3, ceI G go 160 g2_4]) (st' := [.ref o, .ref y]) (kc' := 0) (ks' := 0) [0, 1, 2, 3, 4, 5, 6, 7, 8, 9, 10, 11, 12, 13, 14] rfl rfl rfl ?_
    refine vv_callV (q0 := 0) (As := [.ref o]) (rest := []) (wr := [ceI G sm 160 g, ceI G ls 160 Ls, ceO 5 ta [.ref tb], ceJ G tb 480 (tw B), ceI G go 160 g2_4]) F (cn_PA_waitForOthers l G y wt cn sm gs nb ls x w go ta o ah ab bh bb so cs mn ac true n ch H2_1 K2_2 f2_3 W Nb ⟨by omega, by omega⟩) zm_PA_waitForOthers ⟨zw_297, zs_PA_waitForOthers⟩ zw_295 zd_PA_renewed_22 ⟨by decide, by decide⟩ ⟨by decide, by decide⟩ [0, 1, 3, 5, 8, 9, 10, 11, 12, 13] [2, 4, 6, 7, 14] rfl rfl ⟨rfl, rfl, by decide⟩ rfl rfl rfl rfl (Nat.le_of_ble_eq_true rfl) (fun v9 w9 hp9 => ?_)
    obtain ⟨W2_5, Nb2_6, hf2_0, rfl, rfl⟩ := hp9
    refine vv_thenE (ws' := [ceO 3 y [.ref wt, .ref cn, .ref sm, .ref gs, .int (iI cs), .ref x, .ref nb, .ref ls, .int (iI mn)], ceI G wt 160 W2_5, ceI G sm 160 g, ceI G nb 160 Nb2_6, ceI G ls 160 Ls, ceO 2 x [.ref w, .ref go, .int (iI ac), .int (iI (bZ true)), .ref ta, .ref o, .int (iI n), .int (iI ch)], ceO 5 ta [.ref tb], ceJ G tb 480 (tw B), ceO 4 o [.ref ah, .ref bh, .ref so], ceO 5 ah [.ref ab], ceJ G ab 480 (tw H2_1), ceO 5 bh [.ref bb], ceJ G bb 480 (tw K2_2), ceI G so 160 f2_3, ceI G go 160 g2_4]) (st' := []) (kc' := 0) (ks' := 0) [5, 6, 0, 7, 1, 8, 2, 3, 9, 10, 11, 12, 13, 14, 4] rfl rfl rfl ?_
    have hNn : ∀ a, a < n.toNat → Nb2_6 a = -1 := fun a ha => (hf2_0 a (by omega)).1
    have hWn : wtg n.toNat H2_1 Nb2_6 W2_5 := fun a ha => ⟨fun _ => by rw [(hf2_0 a (by omega)).2]; exact wait_init hf1_0 (by omega) hNn a, fun q => absurd (hNn a ha) q⟩
    refine vv_aload_n F zd_PA_renewed_25 rfl 0 rfl ?_
    refine vv_callV (q0 := 0) (As := []) (rest := []) (wr := [ceO 5 ta [.ref tb], ceJ G tb 480 (tw B), ceI G go 160 g2_4]) F (cn_PA_giveNumbers l G y wt cn sm gs nb ls x w go ta o ah ab bh bb so ac true n ch H2_1 K2_2 f2_3 B cs W2_5 g Nb2_6 Ls mn ⟨by omega, by omega⟩ hf1_0 hNn hWn) zm_PA_giveNumbers ⟨zw_318, zs_PA_giveNumbers⟩ zw_316 zd_PA_renewed_26 ⟨by decide, by decide⟩ ⟨by decide, by decide⟩ [0, 1, 2, 3, 4, 5, 8, 9, 10, 11, 12, 13] [6, 7, 14] rfl rfl ⟨rfl, rfl, by decide⟩ rfl rfl rfl rfl (Nat.le_of_ble_eq_true rfl) (fun v9 w9 hp9 => ?_)
    obtain ⟨W2_7, g2_8, Nb2_9, Ls2_10, mn2_11, hf3_0, rfl, rfl⟩ := hp9
    refine vv_thenE (ws' := [ceO 3 y [.ref wt, .ref cn, .ref sm, .ref gs, .int (iI cs), .ref x, .ref nb, .ref ls, .int (iI mn2_11)], ceI G wt 160 W2_7, ceI G sm 160 g2_8, ceI G nb 160 Nb2_9, ceI G ls 160 Ls2_10, ceO 2 x [.ref w, .ref go, .int (iI ac), .int (iI (bZ true)), .ref ta, .ref o, .int (iI n), .int (iI ch)], ceO 5 ta [.ref tb], ceJ G tb 480 (tw B), ceO 4 o [.ref ah, .ref bh, .ref so], ceO 5 ah [.ref ab], ceJ G ab 480 (tw H2_1), ceO 5 bh [.ref bb], ceJ G bb 480 (tw K2_2), ceI G so 160 f2_3, ceI G go 160 g2_4]) (st' := []) (kc' := 0) (ks' := 0) [3, 4, 5, 6, 7, 8, 0, 1, 9, 10, 11, 12, 13, 14, 2] rfl rfl rfl ?_
    refine vv_aload_n F zd_PA_renewed_29 rfl 0 rfl ?_
    refine vv_aload_n F zd_PA_renewed_30 rfl 0 rfl ?_
    refine vv_get F zd_PA_renewed_31 zf_PA 0 rfl rfl 5 (by decide) zw_151 rfl ?_
    refine vv_get F zd_PA_renewed_34 zf_NE 5 rfl rfl 7 (by decide) zw_126 rfl ?_
    refine vv_put (v := .int (iI ch)) (ws' := [ceO 3 y [.ref wt, .ref cn, .ref sm, .ref gs, .int (iI ch), .ref x, .ref nb, .ref ls, .int (iI mn2_11)], ceI G wt 160 W2_7, ceI G sm 160 g2_8, ceI G nb 160 Nb2_9, ceI G ls 160 Ls2_10, ceO 2 x [.ref w, .ref go, .int (iI ac), .int (iI (bZ true)), .ref ta, .ref o, .int (iI n), .int (iI ch)], ceO 5 ta [.ref tb], ceJ G tb 480 (tw B), ceO 4 o [.ref ah, .ref bh, .ref so], ceO 5 ah [.ref ab], ceJ G ab 480 (tw H2_1), ceO 5 bh [.ref bb], ceJ G bb 480 (tw K2_2), ceI G so 160 f2_3, ceI G go 160 g2_4]) F zd_PA_renewed_37 zf_PA zt_PA_ok zn_PA 0 rfl rfl 4 (by decide) zw_149 rfl rfl rfl (Nat.le_of_ble_eq_true rfl) rfl ?_
    refine vv_aload_n F zd_PA_renewed_40 rfl 0 rfl ?_
    exact vv_aret F zd_PA_renewed_41 ⟨_, _, _, _, _, _, _, _, _, hf1_0, hf3_0, rfl, rfl⟩
