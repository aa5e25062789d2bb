set_option maxHeartbeats 4000000 in
set_option maxRecDepth 100000 in
theorem cn_RE_init (l : Launch) (G : vv_G) (o : Nat)  :
    vv_C l zy_RE_init zc_RE_init 1 none { frames := 2, cells := 5, slots := 1122, locals := 41 } G [.ref o] [ceO 4 o [.null, .null, .null]] (fun v7 w7 => ∃ (ah : Nat) (ab : Nat) (bh : Nat) (bb : Nat) (so : Nat), v7 = none ∧ w7 = [ceO 4 o [.ref ah, .ref bh, .ref so], ceO 5 ah [.ref ab], ceJ G ab 480 (tw (fun _ _ => false)), ceO 5 bh [.ref bb], ceJ G bb 480 (tw (fun _ _ => false)), ceI G so 160 (fun _ => 0)]) := by
  refine vv_met (by decide +kernel) (Nat.le_of_ble_eq_true rfl) rfl ?_
  intro p e s m args below meth c A F
  refine vv_aload_n F zd_RE_init_0 rfl 0 rfl ?_
  refine vv_objInit F zd_RE_init_1 zw_79 zw_25 zw_26 (Nat.le_of_ble_eq_true rfl) (by decide) (by decide) ?_
  refine vv_aload_n F zd_RE_init_4 rfl 0 rfl ?_
  refine vv_new (ci := 5) (fs := [.null]) F zd_RE_init_5 zf_TA zt_TA_ok zw_80 zw_34 zw_3 rfl (fun j hj => by rcases (show j = 0 by omega) with rfl <;> rfl) (by decide) (by decide) (fun a1 => ?_)
  show vv_V _ _ _ _ _ _ _ _ _ _ _ _ _ _ _ [(0, .ref o)] [.ref a1, .ref o] [ceO 4 o [.null, .null, .null], ceO 5 a1 [.null]] 1 1
  refine vv_dup F zd_RE_init_8 rfl ?_
  refine vv_sipush F zd_RE_init_9 (by decide) ?_
  refine vv_callI (As := [.int (iI 160)]) (rest := [.ref a1, .ref o]) (wr := [ceO 4 o [.null, .null, .null]]) F (cn_TA_init160 l G a1) zm_TA_init ⟨rfl, zw_36⟩ zw_81 zd_RE_init_12 ⟨by decide, by decide⟩ ⟨by decide, by decide⟩ [1] [0] rfl rfl ⟨rfl, rfl, by decide⟩ rfl rfl (Nat.le_of_ble_eq_true rfl) (fun v9 w9 hp9 => ?_)
  obtain ⟨b_2, rfl, rfl⟩ := hp9
  refine vv_thenE (ws' := [ceO 4 o [.null, .null, .null], ceO 5 a1 [.ref b_2], ceJ G b_2 480 (tw (fun _ _ => false))]) (st' := [.ref a1, .ref o]) (kc' := 2) (ks' := 481) [0, 1, 2] rfl rfl rfl ?_
  refine vv_putF (v := .ref a1) (ws' := [ceO 4 o [.ref a1, .null, .null], ceO 5 a1 [.ref b_2], ceJ G b_2 480 (tw (fun _ _ => false))]) F zd_RE_init_15 zf_RE zt_RE_ok zn_RE 0 rfl rfl 0 (by decide) zw_82 rfl rfl rfl rfl (Nat.le_of_ble_eq_true rfl) rfl ?_
  refine vv_aload_n F zd_RE_init_18 rfl 0 rfl ?_
  refine vv_new (ci := 5) (fs := [.null]) F zd_RE_init_19 zf_TA zt_TA_ok zw_80 zw_34 zw_3 rfl (fun j hj => by rcases (show j = 0 by omega) with rfl <;> rfl) (by decide) (by decide) (fun a3 => ?_)
  show vv_V _ _ _ _ _ _ _ _ _ _ _ _ _ _ _ [(0, .ref o)] [.ref a3, .ref o] [ceO 4 o [.ref a1, .null, .null], ceO 5 a1 [.ref b_2], ceJ G b_2 480 (tw (fun _ _ => false)), ceO 5 a3 [.null]] 3 482
  refine vv_dup F zd_RE_init_22 rfl ?_
  refine vv_sipush F zd_RE_init_23 (by decide) ?_
  refine vv_callI (As := [.int (iI 160)]) (rest := [.ref a3, .ref o]) (wr := [ceO 4 o [.ref a1, .null, .null], ceO 5 a1 [.ref b_2], ceJ G b_2 480 (tw (fun _ _ => false))]) F (cn_TA_init160 l G a3) zm_TA_init ⟨rfl, zw_36⟩ zw_81 zd_RE_init_26 ⟨by decide, by decide⟩ ⟨by decide, by decide⟩ [3] [0, 1, 2] rfl rfl ⟨rfl, rfl, by decide⟩ rfl rfl (Nat.le_of_ble_eq_true rfl) (fun v9 w9 hp9 => ?_)
  obtain ⟨b_4, rfl, rfl⟩ := hp9
  refine vv_thenE (ws' := [ceO 4 o [.ref a1, .null, .null], ceO 5 a1 [.ref b_2], ceJ G b_2 480 (tw (fun _ _ => false)), ceO 5 a3 [.ref b_4], ceJ G b_4 480 (tw (fun _ _ => false))]) (st' := [.ref a3, .ref o]) (kc' := 4) (ks' := 962) [0, 1, 2, 3, 4] rfl rfl rfl ?_
  refine vv_putF (v := .ref a3) (ws' := [ceO 4 o [.ref a1, .ref a3, .null], ceO 5 a1 [.ref b_2], ceJ G b_2 480 (tw (fun _ _ => false)), ceO 5 a3 [.ref b_4], ceJ G b_4 480 (tw (fun _ _ => false))]) F zd_RE_init_29 zf_RE zt_RE_ok zn_RE 0 rfl rfl 1 (by decide) zw_83 rfl rfl rfl rfl (Nat.le_of_ble_eq_true rfl) rfl ?_
  refine vv_aload_n F zd_RE_init_32 rfl 0 rfl ?_
  refine vv_sipush F zd_RE_init_33 (by decide) ?_
  refine vv_newaI (N := 160) F zd_RE_init_36 zw_43 rfl (by omega) (by decide) (by decide) (fun a5 => ?_)
  show vv_V _ _ _ _ _ _ _ _ _ _ _ _ _ _ _ [(0, .ref o)] [.ref a5, .ref o] [ceO 4 o [.ref a1, .ref a3, .null], ceO 5 a1 [.ref b_2], ceJ G b_2 480 (tw (fun _ _ => false)), ceO 5 a3 [.ref b_4], ceJ G b_4 480 (tw (fun _ _ => false)), ceI G a5 160 (fun _ => 0)] 5 1122
  refine vv_putF (v := .ref a5) (ws' := [ceO 4 o [.ref a1, .ref a3, .ref a5], ceO 5 a1 [.ref b_2], ceJ G b_2 480 (tw (fun _ _ => false)), ceO 5 a3 [.ref b_4], ceJ G b_4 480 (tw (fun _ _ => false)), ceI G a5 160 (fun _ => 0)]) F zd_RE_init_38 zf_RE zt_RE_ok zn_RE 0 rfl rfl 2 (by decide) zw_84 rfl rfl rfl rfl (Nat.le_of_ble_eq_true rfl) rfl ?_
  exact vv_vret F zd_RE_init_41 ⟨_, _, _, _, _, rfl, rfl⟩

set_option maxHeartbeats 4000000 in
set_option maxRecDepth 100000 in
theorem lp_RE_begin {p : Program} {l : Launch} {e : Env} {s : State} {m : MethodId} {args : Array Value} {below : List Frame} {meth : Method} {c : Code} {A : Nat → Prop} {Q : State → Prop} {G : vv_G} (F : vv_F p s m args meth c zc_RE_begin "ClauseGraph$Reach" "begin" none G A 3) (o : Nat) (ah : Nat) (ab : Nat) (bh : Nat) (bb : Nat) (so : Nat) (f : Nat → Int) (q : Int) (hq : 0 ≤ q ∧ q ≤ 160)
    (k : ∀ (H : Nat → Nat → Bool) (K : Nat → Nat → Bool), (0 ≤ q ∧ H = idB q.toNat ∧ K = idB q.toNat) → vv_V p l e { frames := 2, cells := 0, slots := 0, locals := 44 } s m args below meth c G A 3 Q 45 [(0, .ref o), (1, .int (iI q)), (2, .int (iI q))] [] [ceO 4 o [.ref ah, .ref bh, .ref so], ceO 5 ah [.ref ab], ceJ G ab 480 (tw H), ceO 5 bh [.ref bb], ceJ G bb 480 (tw K), ceI G so 160 f] 0 0)  :
    ∀ (d : Nat) (i : Int) (H : Nat → Nat → Bool) (K : Nat → Nat → Bool), i + (d : Int) = q → (0 ≤ i ∧ H = idB i.toNat ∧ K = idB i.toNat) → vv_V p l e { frames := 2, cells := 0, slots := 0, locals := 44 } s m args below meth c G A 3 Q 16 [(0, .ref o), (1, .int (iI q)), (2, .int (iI i))] [] [ceO 4 o [.ref ah, .ref bh, .ref so], ceO 5 ah [.ref ab], ceJ G ab 480 (tw H), ceO 5 bh [.ref bb], ceJ G bb 480 (tw K), ceI G so 160 f] 0 0 := by
  intro d
  induction d with
  | zero =>
    intro i H K hd hI
    have hz : i = q := by omega
    subst hz
    refine vv_iload_n F zd_RE_begin_16 rfl 2 rfl ?_
    refine vv_iload_n F zd_RE_begin_17 rfl 1 rfl ?_
    refine vv_icmp_ge (tgt := 45) F zd_RE_begin_18 rfl (by first | exact ⟨by omega, by omega⟩) (by first | exact ⟨by omega, by omega⟩) (fun _ => ?_) (fun h9 => absurd h9 (by omega))
    exact k H K hI
  | succ d ih =>
    intro i H K hd hI
    refine vv_iload_n F zd_RE_begin_16 rfl 2 rfl ?_
    refine vv_iload_n F zd_RE_begin_17 rfl 1 rfl ?_
    refine vv_icmp_ge (tgt := 45) F zd_RE_begin_18 rfl (by first | exact ⟨by omega, by omega⟩) (by first | exact ⟨by omega, by omega⟩) (fun h9 => absurd h9 (by omega)) (fun _ => ?_)
    refine vv_aload_n F zd_RE_begin_21 rfl 0 rfl ?_
    refine vv_get F zd_RE_begin_22 zf_RE 0 rfl rfl 0 (by decide) zw_82 rfl ?_
    refine vv_iload_n F zd_RE_begin_25 rfl 2 rfl ?_
    refine vv_iload_n F zd_RE_begin_26 rfl 2 rfl ?_
    refine vv_callV (q0 := 1) (As := [.int (iI i), .int (iI i)]) (rest := []) (wr := [ceO 4 o [.ref ah, .ref bh, .ref so], ceO 5 bh [.ref bb], ceJ G bb 480 (tw K), ceI G so 160 f]) F (cn_TA_put l G ah ab 480 H i i ⟨by omega, by omega⟩ ⟨by omega, by omega⟩ (by omega)) zm_TA_put ⟨zw_109, zw_110⟩ zw_108 zd_RE_begin_27 ⟨by decide, by decide⟩ ⟨by decide, by decide⟩ [1, 2] [0, 3, 4, 5] rfl rfl ⟨rfl, rfl, by decide⟩ rfl rfl rfl rfl (Nat.le_of_ble_eq_true rfl) (vv_then (ws' := [ceO 4 o [.ref ah, .ref bh, .ref so], ceO 5 ah [.ref ab], ceJ G ab 480 (tw (bP H i.toNat i.toNat true)), ceO 5 bh [.ref bb], ceJ G bb 480 (tw K), ceI G so 160 f]) (st' := []) [0, 4, 5, 1, 2, 3] rfl rfl rfl ?_)
    refine vv_aload_n F zd_RE_begin_30 rfl 0 rfl ?_
    refine vv_get F zd_RE_begin_31 zf_RE 0 rfl rfl 1 (by decide) zw_83 rfl ?_
    refine vv_iload_n F zd_RE_begin_34 rfl 2 rfl ?_
    refine vv_iload_n F zd_RE_begin_35 rfl 2 rfl ?_
    refine vv_callV (q0 := 3) (As := [.int (iI i), .int (iI i)]) (rest := []) (wr := [ceO 4 o [.ref ah, .ref bh, .ref so], ceO 5 ah [.ref ab], ceJ G ab 480 (tw (bP H i.toNat i.toNat true)), ceI G so 160 f]) F (cn_TA_put l G bh bb 480 K i i ⟨by omega, by omega⟩ ⟨by omega, by omega⟩ (by omega)) zm_TA_put ⟨zw_109, zw_110⟩ zw_108 zd_RE_begin_36 ⟨by decide, by decide⟩ ⟨by decide, by decide⟩ [3, 4] [0, 1, 2, 5] rfl rfl ⟨rfl, rfl, by decide⟩ rfl rfl rfl rfl (Nat.le_of_ble_eq_true rfl) (vv_then (ws' := [ceO 4 o [.ref ah, .ref bh, .ref so], ceO 5 ah [.ref ab], ceJ G ab 480 (tw (bP H i.toNat i.toNat true)), ceO 5 bh [.ref bb], ceJ G bb 480 (tw (bP K i.toNat i.toNat true)), ceI G so 160 f]) (st' := []) [0, 1, 2, 4, 5, 3] rfl rfl rfl ?_)
    refine vv_iinc (j := 2) (lv' := [(0, .ref o), (1, .int (iI q)), (2, .int (iI (i + 1)))]) F zd_RE_begin_39 rfl (by decide) [1, 2, 0] rfl ?_
    refine vv_goto (tgt := 16) F zd_RE_begin_42 rfl ?_
    exact ih (i + 1) (bP H i.toNat i.toNat true) (bP K i.toNat i.toNat true) (by omega) (⟨by omega, by rw [hI.2.1, idB_s]; congr 1; omega, by rw [hI.2.2, idB_s]; congr 1; omega⟩)

set_option maxHeartbeats 4000000 in
set_option maxRecDepth 100000 in
theorem cn_RE_begin (l : Launch) (G : vv_G) (o : Nat) (ah : Nat) (ab : Nat) (bh : Nat) (bb : Nat) (so : Nat) (H : Nat → Nat → Bool) (K : Nat → Nat → Bool) (f : Nat → Int) (q : Int) (hq : 0 ≤ q ∧ q ≤ 160) :
    vv_D l zy_RE_begin zc_RE_begin 3 none { frames := 2, cells := 0, slots := 0, locals := 44 } G [.ref o, .int (iI q)] [ceO 4 o [.ref ah, .ref bh, .ref so], ceO 5 ah [.ref ab], ceJ G ab 480 (tw H), ceO 5 bh [.ref bb], ceJ G bb 480 (tw K), ceI G so 160 f] none [ceO 4 o [.ref ah, .ref bh, .ref so], ceO 5 ah [.ref ab], ceJ G ab 480 (tw (idB q.toNat)), ceO 5 bh [.ref bb], ceJ G bb 480 (tw (idB q.toNat)), ceI G so 160 f] := by
  refine vv_met (by decide +kernel) (Nat.le_of_ble_eq_true rfl) rfl ?_
  intro p e s m args below meth c A F
  refine vv_aload_n F zd_RE_begin_0 rfl 0 rfl ?_
  refine vv_get F zd_RE_begin_1 zf_RE 0 rfl rfl 0 (by decide) zw_82 rfl ?_
  refine vv_callV (q0 := 1) (As := []) (rest := []) (wr := [ceO 4 o [.ref ah, .ref bh, .ref so], ceO 5 bh [.ref bb], ceJ G bb 480 (tw K), ceI G so 160 f]) F (cn_TA_wipe l G ah ab 480 H (by omega)) zm_TA_wipe ⟨zw_97, zw_98⟩ zw_107 zd_RE_begin_4 ⟨by decide, by decide⟩ ⟨by decide, by decide⟩ [1, 2] [0, 3, 4, 5] rfl rfl ⟨rfl, rfl, by decide⟩ rfl rfl rfl rfl (Nat.le_of_ble_eq_true rfl) (vv_then (ws' := [ceO 4 o [.ref ah, .ref bh, .ref so], ceO 5 ah [.ref ab], ceJ G ab 480 (tw (fun _ _ => false)), ceO 5 bh [.ref bb], ceJ G bb 480 (tw K), ceI G so 160 f]) (st' := []) [0, 4, 5, 1, 2, 3] rfl rfl rfl ?_)
  refine vv_aload_n F zd_RE_begin_7 rfl 0 rfl ?_
  refine vv_get F zd_RE_begin_8 zf_RE 0 rfl rfl 1 (by decide) zw_83 rfl ?_
  refine vv_callV (q0 := 3) (As := []) (rest := []) (wr := [ceO 4 o [.ref ah, .ref bh, .ref so], ceO 5 ah [.ref ab], ceJ G ab 480 (tw (fun _ _ => false)), ceI G so 160 f]) F (cn_TA_wipe l G bh bb 480 K (by omega)) zm_TA_wipe ⟨zw_97, zw_98⟩ zw_107 zd_RE_begin_11 ⟨by decide, by decide⟩ ⟨by decide, by decide⟩ [3, 4] [0, 1, 2, 5] rfl rfl ⟨rfl, rfl, by decide⟩ rfl rfl rfl rfl (Nat.le_of_ble_eq_true rfl) (vv_then (ws' := [ceO 4 o [.ref ah, .ref bh, .ref so], ceO 5 ah [.ref ab], ceJ G ab 480 (tw (fun _ _ => false)), ceO 5 bh [.ref bb], ceJ G bb 480 (tw (fun _ _ => false)), ceI G so 160 f]) (st' := []) [0, 1, 2, 4, 5, 3] rfl rfl rfl ?_)
  refine vv_iconst F zd_RE_begin_14 ?_
  refine vv_istore_n (lv' := [(0, .ref o), (1, .int (iI q)), (2, .int (iI 0))]) F zd_RE_begin_15 rfl (by decide) [1, 2, 0] rfl ?_
  refine lp_RE_begin F o ah ab bh bb so f q hq (fun H9 K9 hI => ?_) q.toNat 0 (fun _ _ => false) (fun _ _ => false) (by omega) ⟨by omega, idB_0.symm, idB_0.symm⟩
  obtain ⟨-, rfl, rfl⟩ := hI
  exact vv_vret F zd_RE_begin_45 ⟨rfl, rfl⟩

set_option maxHeartbeats 4000000 in
set_option maxRecDepth 100000 in
theorem lp_RE_lead1 {p : Program} {l : Launch} {e : Env} {s : State} {m : MethodId} {args : Array Value} {below : List Frame} {meth : Method} {c : Code} {A : Nat → Prop} {Q : State → Prop} {G : vv_G} (F : vv_F p s m args meth c zc_RE_lead "ClauseGraph$Reach" "lead" none G A 5) (o : Nat) (ah : Nat) (ab : Nat) (bh : Nat) (bb : Nat) (so : Nat) (H : Nat → Nat → Bool) (K : Nat → Nat → Bool) (f : Nat → Int) (u : Int) (v : Int) (f0 : Nat → Int) (wH : wfB H) (wK : wfB K) (hu : 0 ≤ u ∧ u < 160) (hv : 0 ≤ v ∧ v < 160) (hl : lsd (K u.toNat) 192 0 f0 f)
    (k : ∀ (H1 : Nat → Nat → Bool), (0 ≤ (cN (K u.toNat) 192 : Int) ∧ H1 = leB H K u.toNat v.toNat (cN (K u.toNat) 192 : Int).toNat) → vv_V p l e { frames := 3, cells := 0, slots := 0, locals := 70 } s m args below meth c G A 5 Q 61 [(0, .ref o), (1, .int (iI u)), (2, .int (iI v)), (3, .int (iI (cN (K u.toNat) 192 : Int))), (4, .int (iI (cN (K u.toNat) 192 : Int)))] [] [ceO 4 o [.ref ah, .ref bh, .ref so], ceO 5 ah [.ref ab], ceJ G ab 480 (tw H1), ceO 5 bh [.ref bb], ceJ G bb 480 (tw K), ceI G so 160 f] 0 0)  :
    ∀ (d : Nat) (i : Int) (H1 : Nat → Nat → Bool), i + (d : Int) = (cN (K u.toNat) 192 : Int) → (0 ≤ i ∧ H1 = leB H K u.toNat v.toNat i.toNat) → vv_V p l e { frames := 3, cells := 0, slots := 0, locals := 70 } s m args below meth c G A 5 Q 30 [(0, .ref o), (1, .int (iI u)), (2, .int (iI v)), (3, .int (iI (cN (K u.toNat) 192 : Int))), (4, .int (iI i))] [] [ceO 4 o [.ref ah, .ref bh, .ref so], ceO 5 ah [.ref ab], ceJ G ab 480 (tw H1), ceO 5 bh [.ref bb], ceJ G bb 480 (tw K), ceI G so 160 f] 0 0 := by
  intro d
  induction d with
  | zero =>
    intro i H1 hd hI
    have hz : i = (cN (K u.toNat) 192 : Int) := by omega
    subst hz
    have hb := cN_160 (fun y hy => (wK u.toNat y hy).2)
    refine vv_iload F zd_RE_lead_30 4 rfl ?_
    refine vv_iload_n F zd_RE_lead_32 rfl 3 rfl ?_
    refine vv_icmp_ge (tgt := 61) F zd_RE_lead_33 rfl (by first | exact ⟨by omega, by omega⟩) (by first | exact ⟨by omega, by omega⟩) (fun _ => ?_) (fun h9 => absurd h9 (by omega))
    exact k H1 hI
  | succ d ih =>
    intro i H1 hd hI
    have hb := cN_160 (fun y hy => (wK u.toNat y hy).2)
    obtain ⟨p9, hp1, hp2, hp3, hp4⟩ := lsd_at0 hl (i := i.toNat) (by omega)
    have hp5 := (wK u.toNat p9 hp2).2
    refine vv_iload F zd_RE_lead_30 4 rfl ?_
    refine vv_iload_n F zd_RE_lead_32 rfl 3 rfl ?_
    refine vv_icmp_ge (tgt := 61) F zd_RE_lead_33 rfl (by first | exact ⟨by omega, by omega⟩) (by first | exact ⟨by omega, by omega⟩) (fun h9 => absurd h9 (by omega)) (fun _ => ?_)
    refine vv_aload_n F zd_RE_lead_36 rfl 0 rfl ?_
    refine vv_get F zd_RE_lead_37 zf_RE 0 rfl rfl 0 (by decide) zw_82 rfl ?_
    refine vv_aload_n F zd_RE_lead_40 rfl 0 rfl ?_
    refine vv_get F zd_RE_lead_41 zf_RE 0 rfl rfl 2 (by decide) zw_84 rfl ?_
    refine vv_iload F zd_RE_lead_44 4 rfl ?_
    refine vv_iald F zd_RE_lead_46 5 rfl ⟨by omega, by omega⟩ (by decide) ?_
    refine vv_aload_n F zd_RE_lead_47 rfl 0 rfl ?_
    refine vv_get F zd_RE_lead_48 zf_RE 0 rfl rfl 0 (by decide) zw_82 rfl ?_
    refine vv_iload_n F zd_RE_lead_51 rfl 2 rfl ?_
    refine vv_callV (q0 := 1) (As := [.int (iI (f i.toNat)), .ref ah, .int (iI v)]) (rest := []) (wr := [ceO 4 o [.ref ah, .ref bh, .ref so], ceO 5 bh [.ref bb], ceJ G bb 480 (tw K), ceI G so 160 f]) F (cn_TA_joinS l G ah ab 480 H1 (f i.toNat) v ⟨by omega, by omega⟩ (by omega) ⟨by omega, by omega⟩) zm_TA_join ⟨zw_292, zw_293⟩ zw_291 zd_RE_lead_52 ⟨by decide, by decide⟩ ⟨by decide, by decide⟩ [1, 2] [0, 3, 4, 5] rfl rfl ⟨rfl, rfl, by decide⟩ rfl rfl rfl rfl (Nat.le_of_ble_eq_true rfl) (vv_then (ws' := [ceO 4 o [.ref ah, .ref bh, .ref so], ceO 5 ah [.ref ab], ceJ G ab 480 (tw (jB H1 (f i.toNat).toNat H1 v.toNat 3)), ceO 5 bh [.ref bb], ceJ G bb 480 (tw K), ceI G so 160 f]) (st' := []) [0, 4, 5, 1, 2, 3] rfl rfl rfl ?_)
    refine vv_iinc (j := 4) (lv' := [(0, .ref o), (1, .int (iI u)), (2, .int (iI v)), (3, .int (iI (cN (K u.toNat) 192 : Int))), (4, .int (iI (i + 1)))]) F zd_RE_lead_55 rfl (by decide) [1, 2, 3, 4, 0] rfl ?_
    refine vv_goto (tgt := 30) F zd_RE_lead_58 rfl ?_
    exact ih (i + 1) (jB H1 (f i.toNat).toNat H1 v.toNat 3) (by omega) (⟨by omega, by rw [hp4, Int.toNat_natCast, show (i + 1).toNat = i.toNat + 1 by omega]; exact le_step wH hI.2 hp2 hp3⟩)

set_option maxHeartbeats 4000000 in
set_option maxRecDepth 100000 in
theorem lp_RE_lead2 {p : Program} {l : Launch} {e : Env} {s : State} {m : MethodId} {args : Array Value} {below : List Frame} {meth : Method} {c : Code} {A : Nat → Prop} {Q : State → Prop} {G : vv_G} (F : vv_F p s m args meth c zc_RE_lead "ClauseGraph$Reach" "lead" none G A 5) (o : Nat) (ah : Nat) (ab : Nat) (bh : Nat) (bb : Nat) (so : Nat) (H : Nat → Nat → Bool) (K : Nat → Nat → Bool) (f : Nat → Int) (u : Int) (v : Int) (f0 : Nat → Int) (wH : wfB H) (wK : wfB K) (hu : 0 ≤ u ∧ u < 160) (hv : 0 ≤ v ∧ v < 160) (hl : lsd (H v.toNat) 192 0 f0 f)
    (k : ∀ (K1 : Nat → Nat → Bool), (0 ≤ (cN (H v.toNat) 192 : Int) ∧ K1 = leB K H v.toNat u.toNat (cN (H v.toNat) 192 : Int).toNat) → vv_V p l e { frames := 3, cells := 0, slots := 0, locals := 70 } s m args below meth c G A 5 Q 109 [(0, .ref o), (1, .int (iI u)), (2, .int (iI v)), (3, .int (iI (cN (H v.toNat) 192 : Int))), (4, .int (iI (cN (H v.toNat) 192 : Int)))] [] [ceO 4 o [.ref ah, .ref bh, .ref so], ceO 5 ah [.ref ab], ceJ G ab 480 (tw H), ceO 5 bh [.ref bb], ceJ G bb 480 (tw K1), ceI G so 160 f] 0 0)  :
    ∀ (d : Nat) (i : Int) (K1 : Nat → Nat → Bool), i + (d : Int) = (cN (H v.toNat) 192 : Int) → (0 ≤ i ∧ K1 = leB K H v.toNat u.toNat i.toNat) → vv_V p l e { frames := 3, cells := 0, slots := 0, locals := 70 } s m args below meth c G A 5 Q 78 [(0, .ref o), (1, .int (iI u)), (2, .int (iI v)), (3, .int (iI (cN (H v.toNat) 192 : Int))), (4, .int (iI i))] [] [ceO 4 o [.ref ah, .ref bh, .ref so], ceO 5 ah [.ref ab], ceJ G ab 480 (tw H), ceO 5 bh [.ref bb], ceJ G bb 480 (tw K1), ceI G so 160 f] 0 0 := by
  intro d
  induction d with
  | zero =>
    intro i K1 hd hI
    have hz : i = (cN (H v.toNat) 192 : Int) := by omega
    subst hz
    have hb := cN_160 (fun y hy => (wH v.toNat y hy).2)
    refine vv_iload F zd_RE_lead_78 4 rfl ?_
    refine vv_iload_n F zd_RE_lead_80 rfl 3 rfl ?_
    refine vv_icmp_ge (tgt := 109) F zd_RE_lead_81 rfl (by first | exact ⟨by omega, by omega⟩) (by first | exact ⟨by omega, by omega⟩) (fun _ => ?_) (fun h9 => absurd h9 (by omega))
    exact k K1 hI
  | succ d ih =>
    intro i K1 hd hI
    have hb := cN_160 (fun y hy => (wH v.toNat y hy).2)
    obtain ⟨p9, hp1, hp2, hp3, hp4⟩ := lsd_at0 hl (i := i.toNat) (by omega)
    have hp5 := (wH v.toNat p9 hp2).2
    refine vv_iload F zd_RE_lead_78 4 rfl ?_
    refine vv_iload_n F zd_RE_lead_80 rfl 3 rfl ?_
    refine vv_icmp_ge (tgt := 109) F zd_RE_lead_81 rfl (by first | exact ⟨by omega, by omega⟩) (by first | exact ⟨by omega, by omega⟩) (fun h9 => absurd h9 (by omega)) (fun _ => ?_)
    refine vv_aload_n F zd_RE_lead_84 rfl 0 rfl ?_
    refine vv_get F zd_RE_lead_85 zf_RE 0 rfl rfl 1 (by decide) zw_83 rfl ?_
    refine vv_aload_n F zd_RE_lead_88 rfl 0 rfl ?_
    refine vv_get F zd_RE_lead_89 zf_RE 0 rfl rfl 2 (by decide) zw_84 rfl ?_
    refine vv_iload F zd_RE_lead_92 4 rfl ?_
    refine vv_iald F zd_RE_lead_94 5 rfl ⟨by omega, by omega⟩ (by decide) ?_
    refine vv_aload_n F zd_RE_lead_95 rfl 0 rfl ?_
    refine vv_get F zd_RE_lead_96 zf_RE 0 rfl rfl 1 (by decide) zw_83 rfl ?_
    refine vv_iload_n F zd_RE_lead_99 rfl 1 rfl ?_
    refine vv_callV (q0 := 3) (As := [.int (iI (f i.toNat)), .ref bh, .int (iI u)]) (rest := []) (wr := [ceO 4 o [.ref ah, .ref bh, .ref so], ceO 5 ah [.ref ab], ceJ G ab 480 (tw H), ceI G so 160 f]) F (cn_TA_joinS l G bh bb 480 K1 (f i.toNat) u ⟨by omega, by omega⟩ (by omega) ⟨by omega, by omega⟩) zm_TA_join ⟨zw_292, zw_293⟩ zw_291 zd_RE_lead_100 ⟨by decide, by decide⟩ ⟨by decide, by decide⟩ [3, 4] [0, 1, 2, 5] rfl rfl ⟨rfl, rfl, by decide⟩ rfl rfl rfl rfl (Nat.le_of_ble_eq_true rfl) (vv_then (ws' := [ceO 4 o [.ref ah, .ref bh, .ref so], ceO 5 ah [.ref ab], ceJ G ab 480 (tw H), ceO 5 bh [.ref bb], ceJ G bb 480 (tw (jB K1 (f i.toNat).toNat K1 u.toNat 3)), ceI G so 160 f]) (st' := []) [0, 1, 2, 4, 5, 3] rfl rfl rfl ?_)
    refine vv_iinc (j := 4) (lv' := [(0, .ref o), (1, .int (iI u)), (2, .int (iI v)), (3, .int (iI (cN (H v.toNat) 192 : Int))), (4, .int (iI (i + 1)))]) F zd_RE_lead_103 rfl (by decide) [1, 2, 3, 4, 0] rfl ?_
    refine vv_goto (tgt := 78) F zd_RE_lead_106 rfl ?_
    exact ih (i + 1) (jB K1 (f i.toNat).toNat K1 u.toNat 3) (by omega) (⟨by omega, by rw [hp4, Int.toNat_natCast, show (i + 1).toNat = i.toNat + 1 by omega]; exact le_step wK hI.2 hp2 hp3⟩)

set_option maxHeartbeats 4000000 in
set_option maxRecDepth 100000 in
theorem cn_RE_lead (l : Launch) (G : vv_G) (o : Nat) (ah : Nat) (ab : Nat) (bh : Nat) (bb : Nat) (so : Nat) (H : Nat → Nat → Bool) (K : Nat → Nat → Bool) (f : Nat → Int) (u : Int) (v : Int) (wH : wfB H) (wK : wfB K) (hu : 0 ≤ u ∧ u < 160) (hv : 0 ≤ v ∧ v < 160) :
    vv_C l zy_RE_lead zc_RE_lead 5 none { frames := 3, cells := 0, slots := 0, locals := 70 } G [.ref o, .int (iI u), .int (iI v)] [ceO 4 o [.ref ah, .ref bh, .ref so], ceO 5 ah [.ref ab], ceJ G ab 480 (tw H), ceO 5 bh [.ref bb], ceJ G bb 480 (tw K), ceI G so 160 f] (fun v7 w7 => ∃ (f2 : Nat → Int), v7 = none ∧ w7 = [ceO 4 o [.ref ah, .ref bh, .ref so], ceO 5 ah [.ref ab], ceJ G ab 480 (tw (ldA H K u.toNat v.toNat)), ceO 5 bh [.ref bb], ceJ G bb 480 (tw (ldB H K u.toNat v.toNat)), ceI G so 160 f2]) := by
  refine vv_met (by decide +kernel) (Nat.le_of_ble_eq_true rfl) rfl ?_
  intro p e s m args below meth c A F
  refine vv_aload_n F zd_RE_lead_0 rfl 0 rfl ?_
  refine vv_get F zd_RE_lead_1 zf_RE 0 rfl rfl 0 (by decide) zw_82 rfl ?_
  refine vv_iload_n F zd_RE_lead_4 rfl 1 rfl ?_
  refine vv_iload_n F zd_RE_lead_5 rfl 2 rfl ?_
  refine vv_callV (q0 := 1) (As := [.int (iI u), .int (iI v)]) (rest := []) (wr := [ceO 4 o [.ref ah, .ref bh, .ref so], ceO 5 bh [.ref bb], ceJ G bb 480 (tw K), ceI G so 160 f]) F (cn_TA_has l G ah ab 480 H u v ⟨by omega, by omega⟩ ⟨by omega, by omega⟩ (by omega)) zm_TA_has ⟨zw_287, zw_288⟩ zw_286 zd_RE_lead_6 ⟨by decide, by decide⟩ ⟨by decide, by decide⟩ [1, 2] [0, 3, 4, 5] rfl rfl ⟨rfl, rfl, by decide⟩ rfl rfl rfl rfl (Nat.le_of_ble_eq_true rfl) (vv_then (ws' := [ceO 4 o [.ref ah, .ref bh, .ref so], ceO 5 ah [.ref ab], ceJ G ab 480 (tw H), ceO 5 bh [.ref bb], ceJ G bb 480 (tw K), ceI G so 160 f]) (st' := [.int (iI (bZ (H u.toNat v.toNat)))]) [0, 4, 5, 1, 2, 3] rfl rfl rfl ?_)
  refine vv_if_eq (tgt := 13) F zd_RE_lead_9 rfl (bZ_rg _) (fun h1 => ?_) (fun h1 => ?_)
  · have h1 : (H u.toNat v.toNat) = false := (bZ_0 _).mp h1
    refine vv_aload_n F zd_RE_lead_13 rfl 0 rfl ?_
    refine vv_get F zd_RE_lead_14 zf_RE 0 rfl rfl 1 (by decide) zw_83 rfl ?_
    refine vv_iload_n F zd_RE_lead_17 rfl 1 rfl ?_
    refine vv_aload_n F zd_RE_lead_18 rfl 0 rfl ?_
    refine vv_get F zd_RE_lead_19 zf_RE 0 rfl rfl 2 (by decide) zw_84 rfl ?_
    refine vv_iconst F zd_RE_lead_22 ?_
    refine vv_callV (q0 := 3) (As := [.int (iI u), .ref so, .int (iI 0)]) (rest := []) (wr := [ceO 4 o [.ref ah, .ref bh, .ref so], ceO 5 ah [.ref ab], ceJ G ab 480 (tw H)]) F (cn_TA_list l G bh bb 480 K u so f 0 ⟨by omega, by omega⟩ (by omega) ⟨by omega, by have := cN_160 (fun y hy => (wK u.toNat y hy).2); omega⟩) zm_TA_list ⟨zw_270, zw_271⟩ zw_290 zd_RE_lead_23 ⟨by decide, by decide⟩ ⟨by decide, by decide⟩ [3, 4, 5] [0, 1, 2] rfl rfl ⟨rfl, rfl, by decide⟩ rfl rfl rfl rfl (Nat.le_of_ble_eq_true rfl) (fun v9 w9 hp9 => ?_)
    obtain ⟨f2_1, hf1_0, rfl, rfl⟩ := hp9
    refine vv_thenE (ws' := [ceO 4 o [.ref ah, .ref bh, .ref so], ceO 5 ah [.ref ab], ceJ G ab 480 (tw H), ceO 5 bh [.ref bb], ceJ G bb 480 (tw K), ceI G so 160 f2_1]) (st' := [.int (iI (0 + (cN (K u.toNat) 192 : Int)))]) (kc' := 0) (ks' := 0) [0, 1, 2, 3, 4, 5] rfl rfl rfl ?_
    refine vv_ti (Int.zero_add _) ?_
    refine vv_istore_n (lv' := [(0, .ref o), (1, .int (iI u)), (2, .int (iI v)), (3, .int (iI (cN (K u.toNat) 192 : Int)))]) F zd_RE_lead_26 rfl (by decide) [1, 2, 3, 0] rfl ?_
    refine vv_iconst F zd_RE_lead_27 ?_
    refine vv_istore (lv' := [(0, .ref o), (1, .int (iI u)), (2, .int (iI v)), (3, .int (iI (cN (K u.toNat) 192 : Int))), (4, .int (iI 0))]) F zd_RE_lead_28 (by decide) [1, 2, 3, 4, 0] rfl ?_
    refine lp_RE_lead1 F o ah ab bh bb so H K f2_1 u v f wH wK hu hv hf1_0 (fun H1 hI => ?_) (cN (K u.toNat) 192) 0 H (by omega) ⟨by omega, (leB_0 H K _ _).symm⟩
    obtain ⟨-, rfl⟩ := hI
    rw [show ((cN (K u.toNat) 192 : Int)).toNat = cN (K u.toNat) 192 from rfl, leB_end wK]
    refine vv_aload_n F zd_RE_lead_61 rfl 0 rfl ?_
    refine vv_get F zd_RE_lead_62 zf_RE 0 rfl rfl 0 (by decide) zw_82 rfl ?_
    refine vv_iload_n F zd_RE_lead_65 rfl 2 rfl ?_
    refine vv_aload_n F zd_RE_lead_66 rfl 0 rfl ?_
    refine vv_get F zd_RE_lead_67 zf_RE 0 rfl rfl 2 (by decide) zw_84 rfl ?_
    refine vv_iconst F zd_RE_lead_70 ?_
    refine vv_callV (q0 := 1) (As := [.int (iI v), .ref so, .int (iI 0)]) (rest := []) (wr := [ceO 4 o [.ref ah, .ref bh, .ref so], ceO 5 bh [.ref bb], ceJ G bb 480 (tw K)]) F (cn_TA_list l G ah ab 480 (leF H K u.toNat v.toNat) v so f2_1 0 ⟨by omega, by omega⟩ (by omega) ⟨by omega, by have := cN_160 (fun y hy => (leF_wf wH wK (u := u.toNat) (v := v.toNat) v.toNat y hy).2); omega⟩) zm_TA_list ⟨zw_270, zw_271⟩ zw_290 zd_RE_lead_71 ⟨by decide, by decide⟩ ⟨by decide, by decide⟩ [1, 2, 5] [0, 3, 4] rfl rfl ⟨rfl, rfl, by decide⟩ rfl rfl rfl rfl (Nat.le_of_ble_eq_true rfl) (fun v9 w9 hp9 => ?_)
    obtain ⟨f2_2, hf2_0, rfl, rfl⟩ := hp9
    refine vv_thenE (ws' := [ceO 4 o [.ref ah, .ref bh, .ref so], ceO 5 ah [.ref ab], ceJ G ab 480 (tw (leF H K u.toNat v.toNat)), ceO 5 bh [.ref bb], ceJ G bb 480 (tw K), ceI G so 160 f2_2]) (st' := [.int (iI (0 + (cN ((leF H K u.toNat v.toNat) v.toNat) 192 : Int)))]) (kc' := 0) (ks' := 0) [0, 3, 4, 1, 2, 5] rfl rfl rfl ?_
    refine vv_ti (Int.zero_add _) ?_
    refine vv_istore_n (lv' := [(0, .ref o), (1, .int (iI u)), (2, .int (iI v)), (3, .int (iI (cN ((leF H K u.toNat v.toNat) v.toNat) 192 : Int))), (4, .int (iI (cN (K u.toNat) 192 : Int)))]) F zd_RE_lead_74 rfl (by decide) [1, 2, 3, 0, 4] rfl ?_
    refine vv_iconst F zd_RE_lead_75 ?_
    refine vv_istore (lv' := [(0, .ref o), (1, .int (iI u)), (2, .int (iI v)), (3, .int (iI (cN ((leF H K u.toNat v.toNat) v.toNat) 192 : Int))), (4, .int (iI 0))]) F zd_RE_lead_76 (by decide) [1, 2, 3, 4, 0] rfl ?_
    refine lp_RE_lead2 F o ah ab bh bb so (leF H K u.toNat v.toNat) K f2_2 u v _ (leF_wf wH wK) wK hu hv hf2_0 (fun K1 hI => ?_) (cN (leF H K u.toNat v.toNat v.toNat) 192) 0 K (by omega) ⟨by omega, (leB_0 K _ _ _).symm⟩
    obtain ⟨-, rfl⟩ := hI
    rw [show ((cN (leF H K u.toNat v.toNat v.toNat) 192 : Int)).toNat = cN (leF H K u.toNat v.toNat v.toNat) 192 from rfl, leB_end (leF_wf wH wK)]
    exact vv_vret F zd_RE_lead_109 ⟨_, rfl, by unfold ldA ldB; rw [if_neg (by rw [h1]; decide), if_neg (by rw [h1]; decide), leF_eq (leF_row)]⟩
  · have h1 : (H u.toNat v.toNat) = true := by cases hb9 : (H u.toNat v.toNat) with | true => rfl | false => exact absurd ((bZ_0 _).mpr hb9) h1
    exact vv_vret F zd_RE_lead_12 ⟨f, rfl, by unfold ldA ldB; rw [if_pos h1, if_pos h1]⟩

set_option maxHeartbeats 4000000 in
set_option maxRecDepth 100000 in
theorem cn_RE_leads (l : Launch) (G : vv_G) (o : Nat) (ah : Nat) (ab : Nat) (bh : Nat) (bb : Nat) (so : Nat) (H : Nat → Nat → Bool) (K : Nat → Nat → Bool) (f : Nat → Int) (u : Int) (v : Int) (hu : 0 ≤ u ∧ u < 160) (hv : 0 ≤ v ∧ v < 160) :
    vv_D l zy_RE_leads zc_RE_leads 3 (some .boolean) { frames := 2, cells := 0, slots := 0, locals := 42 } G [.ref o, .int (iI u), .int (iI v)] [ceO 4 o [.ref ah, .ref bh, .ref so], ceO 5 ah [.ref ab], ceJ G ab 480 (tw H), ceO 5 bh [.ref bb], ceJ G bb 480 (tw K), ceI G so 160 f] (some (.int (iI (bZ (H u.toNat v.toNat))))) [ceO 4 o [.ref ah, .ref bh, .ref so], ceO 5 ah [.ref ab], ceJ G ab 480 (tw H), ceO 5 bh [.ref bb], ceJ G bb 480 (tw K), ceI G so 160 f] := by
  refine vv_met (by decide +kernel) (Nat.le_of_ble_eq_true rfl) rfl ?_
  intro p e s m args below meth c A F
  refine vv_aload_n F zd_RE_leads_0 rfl 0 rfl ?_
  refine vv_get F zd_RE_leads_1 zf_RE 0 rfl rfl 0 (by decide) zw_82 rfl ?_
  refine vv_iload_n F zd_RE_leads_4 rfl 1 rfl ?_
  refine vv_iload_n F zd_RE_leads_5 rfl 2 rfl ?_
  refine vv_callV (q0 := 1) (As := [.int (iI u), .int (iI v)]) (rest := []) (wr := [ceO 4 o [.ref ah, .ref bh, .ref so], ceO 5 bh [.ref bb], ceJ G bb 480 (tw K), ceI G so 160 f]) F (cn_TA_has l G ah ab 480 H u v ⟨by omega, by omega⟩ ⟨by omega, by omega⟩ (by omega)) zm_TA_has ⟨zw_287, zw_288⟩ zw_286 zd_RE_leads_6 ⟨by decide, by decide⟩ ⟨by decide, by decide⟩ [1, 2] [0, 3, 4, 5] rfl rfl ⟨rfl, rfl, by decide⟩ rfl rfl rfl rfl (Nat.le_of_ble_eq_true rfl) (vv_then (ws' := [ceO 4 o [.ref ah, .ref bh, .ref so], ceO 5 ah [.ref ab], ceJ G ab 480 (tw H), ceO 5 bh [.ref bb], ceJ G bb 480 (tw K), ceI G so 160 f]) (st' := [.int (iI (bZ (H u.toNat v.toNat)))]) [0, 4, 5, 1, 2, 3] rfl rfl rfl ?_)
  exact vv_zret F zd_RE_leads_9 ⟨rfl, rfl⟩

set_option maxHeartbeats 4000000 in
set_option maxRecDepth 100000 in
theorem cn_RE_inOneKnot (l : Launch) (G : vv_G) (o : Nat) (ah : Nat) (ab : Nat) (bh : Nat) (bb : Nat) (so : Nat) (H : Nat → Nat → Bool) (K : Nat → Nat → Bool) (f : Nat → Int) (u : Int) (v : Int) (hu : 0 ≤ u ∧ u < 160) (hv : 0 ≤ v ∧ v < 160) :
    vv_D l zy_RE_inOneKnot zc_RE_inOneKnot 3 (some .boolean) { frames := 2, cells := 0, slots := 0, locals := 42 } G [.ref o, .int (iI u), .int (iI v)] [ceO 4 o [.ref ah, .ref bh, .ref so], ceO 5 ah [.ref ab], ceJ G ab 480 (tw H), ceO 5 bh [.ref bb], ceJ G bb 480 (tw K), ceI G so 160 f] (some (.int (iI (bZ (H u.toNat v.toNat && K u.toNat v.toNat))))) [ceO 4 o [.ref ah, .ref bh, .ref so], ceO 5 ah [.ref ab], ceJ G ab 480 (tw H), ceO 5 bh [.ref bb], ceJ G bb 480 (tw K), ceI G so 160 f] := by
  refine vv_met (by decide +kernel) (Nat.le_of_ble_eq_true rfl) rfl ?_
  intro p e s m args below meth c A F
  refine vv_aload_n F zd_RE_inOneKnot_0 rfl 0 rfl ?_
  refine vv_get F zd_RE_inOneKnot_1 zf_RE 0 rfl rfl 0 (by decide) zw_82 rfl ?_
  refine vv_iload_n F zd_RE_inOneKnot_4 rfl 1 rfl ?_
  refine vv_iload_n F zd_RE_inOneKnot_5 rfl 2 rfl ?_
  refine vv_callV (q0 := 1) (As := [.int (iI u), .int (iI v)]) (rest := []) (wr := [ceO 4 o [.ref ah, .ref bh, .ref so], ceO 5 bh [.ref bb], ceJ G bb 480 (tw K), ceI G so 160 f]) F (cn_TA_has l G ah ab 480 H u v ⟨by omega, by omega⟩ ⟨by omega, by omega⟩ (by omega)) zm_TA_has ⟨zw_287, zw_288⟩ zw_286 zd_RE_inOneKnot_6 ⟨by decide, by decide⟩ ⟨by decide, by decide⟩ [1, 2] [0, 3, 4, 5] rfl rfl ⟨rfl, rfl, by decide⟩ rfl rfl rfl rfl (Nat.le_of_ble_eq_true rfl) (vv_then (ws' := [ceO 4 o [.ref ah, .ref bh, .ref so], ceO 5 ah [.ref ab], ceJ G ab 480 (tw H), ceO 5 bh [.ref bb], ceJ G bb 480 (tw K), ceI G so 160 f]) (st' := [.int (iI (bZ (H u.toNat v.toNat)))]) [0, 4, 5, 1, 2, 3] rfl rfl rfl ?_)
  refine vv_if_eq (tgt := 28) F zd_RE_inOneKnot_9 rfl (bZ_rg _) (fun h1 => ?_) (fun h1 => ?_)
  · have h1 : (H u.toNat v.toNat) = false := (bZ_0 _).mp h1
    refine vv_iconst F zd_RE_inOneKnot_28 ?_
    exact vv_zret (v := false) F zd_RE_inOneKnot_29 ⟨by rw [h1]; rfl, rfl⟩
  · have h1 : (H u.toNat v.toNat) = true := by cases hb9 : (H u.toNat v.toNat) with | true => rfl | false => exact absurd ((bZ_0 _).mpr hb9) h1
    refine vv_aload_n F zd_RE_inOneKnot_12 rfl 0 rfl ?_
    refine vv_get F zd_RE_inOneKnot_13 zf_RE 0 rfl rfl 1 (by decide) zw_83 rfl ?_
    refine vv_iload_n F zd_RE_inOneKnot_16 rfl 1 rfl ?_
    refine vv_iload_n F zd_RE_inOneKnot_17 rfl 2 rfl ?_
    refine vv_callV (q0 := 3) (As := [.int (iI u), .int (iI v)]) (rest := []) (wr := [ceO 4 o [.ref ah, .ref bh, .ref so], ceO 5 ah [.ref ab], ceJ G ab 480 (tw H), ceI G so 160 f]) F (cn_TA_has l G bh bb 480 K u v ⟨by omega, by omega⟩ ⟨by omega, by omega⟩ (by omega)) zm_TA_has ⟨zw_287, zw_288⟩ zw_286 zd_RE_inOneKnot_18 ⟨by decide, by decide⟩ ⟨by decide, by decide⟩ [3, 4] [0, 1, 2, 5] rfl rfl ⟨rfl, rfl, by decide⟩ rfl rfl rfl rfl (Nat.le_of_ble_eq_true rfl) (vv_then (ws' := [ceO 4 o [.ref ah, .ref bh, .ref so], ceO 5 ah [.ref ab], ceJ G ab 480 (tw H), ceO 5 bh [.ref bb], ceJ G bb 480 (tw K), ceI G so 160 f]) (st' := [.int (iI (bZ (K u.toNat v.toNat)))]) [0, 1, 2, 4, 5, 3] rfl rfl rfl ?_)
    refine vv_if_eq (tgt := 28) F zd_RE_inOneKnot_21 rfl (bZ_rg _) (fun h2 => ?_) (fun h2 => ?_)
    · have h2 : (K u.toNat v.toNat) = false := (bZ_0 _).mp h2
      refine vv_iconst F zd_RE_inOneKnot_28 ?_
      exact vv_zret (v := false) F zd_RE_inOneKnot_29 ⟨by rw [h2, Bool.and_false], rfl⟩
    · have h2 : (K u.toNat v.toNat) = true := by cases hb9 : (K u.toNat v.toNat) with | true => rfl | false => exact absurd ((bZ_0 _).mpr hb9) h2
      refine vv_iconst F zd_RE_inOneKnot_24 ?_
      refine vv_goto (tgt := 29) F zd_RE_inOneKnot_25 rfl ?_
      exact vv_zret (v := true) F zd_RE_inOneKnot_29 ⟨by rw [h1, h2]; rfl, rfl⟩

set_option maxHeartbeats 4000000 in
set_option maxRecDepth 100000 in
theorem cn_RE_countAhead (l : Launch) (G : vv_G) (o : Nat) (ah : Nat) (ab : Nat) (bh : Nat) (bb : Nat) (so : Nat) (H : Nat → Nat → Bool) (K : Nat → Nat → Bool) (f : Nat → Int) (u : Int) (hu : 0 ≤ u ∧ u < 160) :
    vv_D l zy_RE_countAhead zc_RE_countAhead 2 (some .int) { frames := 3, cells := 0, slots := 0, locals := 67 } G [.ref o, .int (iI u)] [ceO 4 o [.ref ah, .ref bh, .ref so], ceO 5 ah [.ref ab], ceJ G ab 480 (tw H), ceO 5 bh [.ref bb], ceJ G bb 480 (tw K), ceI G so 160 f] (some (.int (iI (cN (H u.toNat) 192 : Int)))) [ceO 4 o [.ref ah, .ref bh, .ref so], ceO 5 ah [.ref ab], ceJ G ab 480 (tw H), ceO 5 bh [.ref bb], ceJ G bb 480 (tw K), ceI G so 160 f] := by
  refine vv_met (by decide +kernel) (Nat.le_of_ble_eq_true rfl) rfl ?_
  intro p e s m args below meth c A F
  refine vv_aload_n F zd_RE_countAhead_0 rfl 0 rfl ?_
  refine vv_get F zd_RE_countAhead_1 zf_RE 0 rfl rfl 0 (by decide) zw_82 rfl ?_
  refine vv_iload_n F zd_RE_countAhead_4 rfl 1 rfl ?_
  refine vv_callV (q0 := 1) (As := [.int (iI u)]) (rest := []) (wr := [ceO 4 o [.ref ah, .ref bh, .ref so], ceO 5 bh [.ref bb], ceJ G bb 480 (tw K), ceI G so 160 f]) F (cn_TA_count l G ah ab 480 H u ⟨by omega, by omega⟩ (by omega)) zm_TA_count ⟨zw_304, zw_305⟩ zw_303 zd_RE_countAhead_5 ⟨by decide, by decide⟩ ⟨by decide, by decide⟩ [1, 2] [0, 3, 4, 5] rfl rfl ⟨rfl, rfl, by decide⟩ rfl rfl rfl rfl (Nat.le_of_ble_eq_true rfl) (vv_then (ws' := [ceO 4 o [.ref ah, .ref bh, .ref so], ceO 5 ah [.ref ab], ceJ G ab 480 (tw H), ceO 5 bh [.ref bb], ceJ G bb 480 (tw K), ceI G so 160 f]) (st' := [.int (iI (cN (H u.toNat) 192 : Int))]) [0, 4, 5, 1, 2, 3] rfl rfl rfl ?_)
  exact vv_iret F zd_RE_countAhead_8 ⟨rfl, rfl⟩

set_option maxHeartbeats 4000000 in
set_option maxRecDepth 100000 in
theorem cn_RE_countBehind (l : Launch) (G : vv_G) (o : Nat) (ah : Nat) (ab : Nat) (bh : Nat) (bb : Nat) (so : Nat) (H : Nat → Nat → Bool) (K : Nat → Nat → Bool) (f : Nat → Int) (u : Int) (hu : 0 ≤ u ∧ u < 160) :
    vv_D l zy_RE_countBehind zc_RE_countBehind 2 (some .int) { frames := 3, cells := 0, slots := 0, locals := 67 } G [.ref o, .int (iI u)] [ceO 4 o [.ref ah, .ref bh, .ref so], ceO 5 ah [.ref ab], ceJ G ab 480 (tw H), ceO 5 bh [.ref bb], ceJ G bb 480 (tw K), ceI G so 160 f] (some (.int (iI (cN (K u.toNat) 192 : Int)))) [ceO 4 o [.ref ah, .ref bh, .ref so], ceO 5 ah [.ref ab], ceJ G ab 480 (tw H), ceO 5 bh [.ref bb], ceJ G bb 480 (tw K), ceI G so 160 f] := by
  refine vv_met (by decide +kernel) (Nat.le_of_ble_eq_true rfl) rfl ?_
  intro p e s m args below meth c A F
  refine vv_aload_n F zd_RE_countBehind_0 rfl 0 rfl ?_
  refine vv_get F zd_RE_countBehind_1 zf_RE 0 rfl rfl 1 (by decide) zw_83 rfl ?_
  refine vv_iload_n F zd_RE_countBehind_4 rfl 1 rfl ?_
  refine vv_callV (q0 := 3) (As := [.int (iI u)]) (rest := []) (wr := [ceO 4 o [.ref ah, .ref bh, .ref so], ceO 5 ah [.ref ab], ceJ G ab 480 (tw H), ceI G so 160 f]) F (cn_TA_count l G bh bb 480 K u ⟨by omega, by omega⟩ (by omega)) zm_TA_count ⟨zw_304, zw_305⟩ zw_303 zd_RE_countBehind_5 ⟨by decide, by decide⟩ ⟨by decide, by decide⟩ [3, 4] [0, 1, 2, 5] rfl rfl ⟨rfl, rfl, by decide⟩ rfl rfl rfl rfl (Nat.le_of_ble_eq_true rfl) (vv_then (ws' := [ceO 4 o [.ref ah, .ref bh, .ref so], ceO 5 ah [.ref ab], ceJ G ab 480 (tw H), ceO 5 bh [.ref bb], ceJ G bb 480 (tw K), ceI G so 160 f]) (st' := [.int (iI (cN (K u.toNat) 192 : Int))]) [0, 1, 2, 4, 5, 3] rfl rfl rfl ?_)
  exact vv_iret F zd_RE_countBehind_8 ⟨rfl, rfl⟩

set_option maxHeartbeats 4000000 in
set_option maxRecDepth 100000 in
theorem cn_RE_knotSize (l : Launch) (G : vv_G) (o : Nat) (ah : Nat) (ab : Nat) (bh : Nat) (bb : Nat) (so : Nat) (H : Nat → Nat → Bool) (K : Nat → Nat → Bool) (f : Nat → Int) (u : Int) (hu : 0 ≤ u ∧ u < 160) :
    vv_D l zy_RE_knotSize zc_RE_knotSize 2 (some .int) { frames := 2, cells := 0, slots := 0, locals := 46 } G [.ref o, .int (iI u)] [ceO 4 o [.ref ah, .ref bh, .ref so], ceO 5 ah [.ref ab], ceJ G ab 480 (tw H), ceO 5 bh [.ref bb], ceJ G bb 480 (tw K), ceI G so 160 f] (some (.int (iI (cN (fun p => H u.toNat p && K u.toNat p) 192 : Int)))) [ceO 4 o [.ref ah, .ref bh, .ref so], ceO 5 ah [.ref ab], ceJ G ab 480 (tw H), ceO 5 bh [.ref bb], ceJ G bb 480 (tw K), ceI G so 160 f] := by
  refine vv_met (by decide +kernel) (Nat.le_of_ble_eq_true rfl) rfl ?_
  intro p e s m args below meth c A F
  refine vv_aload_n F zd_RE_knotSize_0 rfl 0 rfl ?_
  refine vv_get F zd_RE_knotSize_1 zf_RE 0 rfl rfl 0 (by decide) zw_82 rfl ?_
  refine vv_iload_n F zd_RE_knotSize_4 rfl 1 rfl ?_
  refine vv_aload_n F zd_RE_knotSize_5 rfl 0 rfl ?_
  refine vv_get F zd_RE_knotSize_6 zf_RE 0 rfl rfl 1 (by decide) zw_83 rfl ?_
  refine vv_iload_n F zd_RE_knotSize_9 rfl 1 rfl ?_
  refine vv_callV (q0 := 1) (As := [.int (iI u), .ref bh, .int (iI u)]) (rest := []) (wr := [ceO 4 o [.ref ah, .ref bh, .ref so], ceI G so 160 f]) F (cn_TA_countShared l G ah ab 480 H u bh bb 480 K u ⟨by omega, by omega⟩ (by omega) ⟨by omega, by omega⟩ (by omega)) zm_TA_countShared ⟨zw_308, zw_309⟩ zw_315 zd_RE_knotSize_10 ⟨by decide, by decide⟩ ⟨by decide, by decide⟩ [1, 2, 3, 4] [0, 5] rfl rfl ⟨rfl, rfl, by decide⟩ rfl rfl rfl rfl (Nat.le_of_ble_eq_true rfl) (vv_then (ws' := [ceO 4 o [.ref ah, .ref bh, .ref so], ceO 5 ah [.ref ab], ceJ G ab 480 (tw H), ceO 5 bh [.ref bb], ceJ G bb 480 (tw K), ceI G so 160 f]) (st' := [.int (iI (cN (fun p => H u.toNat p && K u.toNat p) 192 : Int))]) [0, 2, 3, 4, 5, 1] rfl rfl rfl ?_)
  exact vv_iret F zd_RE_knotSize_13 ⟨rfl, rfl⟩

set_option maxHeartbeats 4000000 in
set_option maxRecDepth 100000 in
theorem cn_RE_leastOfKnot (l : Launch) (G : vv_G) (o : Nat) (ah : Nat) (ab : Nat) (bh : Nat) (bb : Nat) (so : Nat) (H : Nat → Nat → Bool) (K : Nat → Nat → Bool) (f : Nat → Int) (u : Int) (hu : 0 ≤ u ∧ u < 160) :
    vv_D l zy_RE_leastOfKnot zc_RE_leastOfKnot 2 (some .int) { frames := 3, cells := 0, slots := 0, locals := 68 } G [.ref o, .int (iI u)] [ceO 4 o [.ref ah, .ref bh, .ref so], ceO 5 ah [.ref ab], ceJ G ab 480 (tw H), ceO 5 bh [.ref bb], ceJ G bb 480 (tw K), ceI G so 160 f] (some (.int (iI (fstB (fun p => H u.toNat p && K u.toNat p) 192)))) [ceO 4 o [.ref ah, .ref bh, .ref so], ceO 5 ah [.ref ab], ceJ G ab 480 (tw H), ceO 5 bh [.ref bb], ceJ G bb 480 (tw K), ceI G so 160 f] := by
  refine vv_met (by decide +kernel) (Nat.le_of_ble_eq_true rfl) rfl ?_
  intro p e s m args below meth c A F
  refine vv_aload_n F zd_RE_leastOfKnot_0 rfl 0 rfl ?_
  refine vv_get F zd_RE_leastOfKnot_1 zf_RE 0 rfl rfl 0 (by decide) zw_82 rfl ?_
  refine vv_iload_n F zd_RE_leastOfKnot_4 rfl 1 rfl ?_
  refine vv_aload_n F zd_RE_leastOfKnot_5 rfl 0 rfl ?_
  refine vv_get F zd_RE_leastOfKnot_6 zf_RE 0 rfl rfl 1 (by decide) zw_83 rfl ?_
  refine vv_iload_n F zd_RE_leastOfKnot_9 rfl 1 rfl ?_
  refine vv_callV (q0 := 1) (As := [.int (iI u), .ref bh, .int (iI u)]) (rest := []) (wr := [ceO 4 o [.ref ah, .ref bh, .ref so], ceI G so 160 f]) F (cn_TA_leastShared l G ah ab 480 H u bh bb 480 K u ⟨by omega, by omega⟩ (by omega) ⟨by omega, by omega⟩ (by omega)) zm_TA_leastShared ⟨zw_747, zw_748⟩ zw_746 zd_RE_leastOfKnot_10 ⟨by decide, by decide⟩ ⟨by decide, by decide⟩ [1, 2, 3, 4] [0, 5] rfl rfl ⟨rfl, rfl, by decide⟩ rfl rfl rfl rfl (Nat.le_of_ble_eq_true rfl) (vv_then (ws' := [ceO 4 o [.ref ah, .ref bh, .ref so], ceO 5 ah [.ref ab], ceJ G ab 480 (tw H), ceO 5 bh [.ref bb], ceJ G bb 480 (tw K), ceI G so 160 f]) (st' := [.int (iI (fstB (fun p => H u.toNat p && K u.toNat p) 192))]) [0, 2, 3, 4, 5, 1] rfl rfl rfl ?_)
  exact vv_iret F zd_RE_leastOfKnot_13 ⟨rfl, rfl⟩

set_option maxHeartbeats 4000000 in
set_option maxRecDepth 100000 in
theorem cn_RE_listAhead (l : Launch) (G : vv_G) (o : Nat) (ah : Nat) (ab : Nat) (bh : Nat) (bb : Nat) (so : Nat) (H : Nat → Nat → Bool) (K : Nat → Nat → Bool) (f : Nat → Int) (u : Int) (w : Nat) (g : Nat → Int) (wH : wfB H) (hu : 0 ≤ u ∧ u < 160) :
    vv_C l zy_RE_listAhead zc_RE_listAhead 3 (some .int) { frames := 3, cells := 0, slots := 0, locals := 70 } G [.ref o, .int (iI u), .ref w] [ceO 4 o [.ref ah, .ref bh, .ref so], ceO 5 ah [.ref ab], ceJ G ab 480 (tw H), ceO 5 bh [.ref bb], ceJ G bb 480 (tw K), ceI G so 160 f, ceI G w 160 g] (fun v7 w7 => ∃ (g2 : Nat → Int), (lsd (H u.toNat) 192 0 g g2) ∧ v7 = some (.int (iI (cN (H u.toNat) 192 : Int))) ∧ w7 = [ceO 4 o [.ref ah, .ref bh, .ref so], ceO 5 ah [.ref ab], ceJ G ab 480 (tw H), ceO 5 bh [.ref bb], ceJ G bb 480 (tw K), ceI G so 160 f, ceI G w 160 g2]) := by
  refine vv_met (by decide +kernel) (Nat.le_of_ble_eq_true rfl) rfl ?_
  intro p e s m args below meth c A F
  refine vv_aload_n F zd_RE_listAhead_0 rfl 0 rfl ?_
  refine vv_get F zd_RE_listAhead_1 zf_RE 0 rfl rfl 0 (by decide) zw_82 rfl ?_
  refine vv_iload_n F zd_RE_listAhead_4 rfl 1 rfl ?_
  refine vv_aload_n F zd_RE_listAhead_5 rfl 2 rfl ?_
  refine vv_iconst F zd_RE_listAhead_6 ?_
  refine vv_callV (q0 := 1) (As := [.int (iI u), .ref w, .int (iI 0)]) (rest := []) (wr := [ceO 4 o [.ref ah, .ref bh, .ref so], ceO 5 bh [.ref bb], ceJ G bb 480 (tw K), ceI G so 160 f]) F (cn_TA_list l G ah ab 480 H u w g 0 ⟨by omega, by omega⟩ (by omega) ⟨by omega, by have := cN_160 (fun y hy => (wH u.toNat y hy).2); omega⟩) zm_TA_list ⟨zw_270, zw_271⟩ zw_290 zd_RE_listAhead_7 ⟨by decide, by decide⟩ ⟨by decide, by decide⟩ [1, 2, 6] [0, 3, 4, 5] rfl rfl ⟨rfl, rfl, by decide⟩ rfl rfl rfl rfl (Nat.le_of_ble_eq_true rfl) (fun v9 w9 hp9 => ?_)
  obtain ⟨f2_1, hf1_0, rfl, rfl⟩ := hp9
  refine vv_thenE (ws' := [ceO 4 o [.ref ah, .ref bh, .ref so], ceO 5 ah [.ref ab], ceJ G ab 480 (tw H), ceO 5 bh [.ref bb], ceJ G bb 480 (tw K), ceI G so 160 f, ceI G w 160 f2_1]) (st' := [.int (iI (0 + (cN (H u.toNat) 192 : Int)))]) (kc' := 0) (ks' := 0) [0, 4, 5, 1, 2, 3, 6] rfl rfl rfl ?_
  exact vv_iret F zd_RE_listAhead_10 ⟨_, hf1_0, by rw [Int.zero_add], rfl⟩

set_option maxHeartbeats 4000000 in
set_option maxRecDepth 100000 in
theorem cn_RE_countBehindIn (l : Launch) (G : vv_G) (o : Nat) (ah : Nat) (ab : Nat) (bh : Nat) (bb : Nat) (so : Nat) (H : Nat → Nat → Bool) (K : Nat → Nat → Bool) (f : Nat → Int) (u : Int) (sa : Nat) (sb : Nat) (Z : Nat → Nat → Bool) (hu : 0 ≤ u ∧ u < 160) :
    vv_D l zy_RE_countBehindIn zc_RE_countBehindIn 3 (some .int) { frames := 2, cells := 0, slots := 0, locals := 46 } G [.ref o, .int (iI u), .ref sa] [ceO 4 o [.ref ah, .ref bh, .ref so], ceO 5 ah [.ref ab], ceJ G ab 480 (tw H), ceO 5 bh [.ref bb], ceJ G bb 480 (tw K), ceI G so 160 f, ceO 5 sa [.ref sb], ceJ G sb 3 (tw Z)] (some (.int (iI (cN (fun p => K u.toNat p && Z 0 p) 192 : Int)))) [ceO 4 o [.ref ah, .ref bh, .ref so], ceO 5 ah [.ref ab], ceJ G ab 480 (tw H), ceO 5 bh [.ref bb], ceJ G bb 480 (tw K), ceI G so 160 f, ceO 5 sa [.ref sb], ceJ G sb 3 (tw Z)] := by
  refine vv_met (by decide +kernel) (Nat.le_of_ble_eq_true rfl) rfl ?_
  intro p e s m args below meth c A F
  refine vv_aload_n F zd_RE_countBehindIn_0 rfl 0 rfl ?_
  refine vv_get F zd_RE_countBehindIn_1 zf_RE 0 rfl rfl 1 (by decide) zw_83 rfl ?_
  refine vv_iload_n F zd_RE_countBehindIn_4 rfl 1 rfl ?_
  refine vv_aload_n F zd_RE_countBehindIn_5 rfl 2 rfl ?_
  refine vv_iconst F zd_RE_countBehindIn_6 ?_
  refine vv_callV (q0 := 3) (As := [.int (iI u), .ref sa, .int (iI 0)]) (rest := []) (wr := [ceO 4 o [.ref ah, .ref bh, .ref so], ceO 5 ah [.ref ab], ceJ G ab 480 (tw H), ceI G so 160 f]) F (cn_TA_countShared l G bh bb 480 K u sa sb 3 Z 0 ⟨by omega, by omega⟩ (by omega) ⟨by omega, by omega⟩ (by omega)) zm_TA_countShared ⟨zw_308, zw_309⟩ zw_315 zd_RE_countBehindIn_7 ⟨by decide, by decide⟩ ⟨by decide, by decide⟩ [3, 4, 6, 7] [0, 1, 2, 5] rfl rfl ⟨rfl, rfl, by decide⟩ rfl rfl rfl rfl (Nat.le_of_ble_eq_true rfl) (vv_then (ws' := [ceO 4 o [.ref ah, .ref bh, .ref so], ceO 5 ah [.ref ab], ceJ G ab 480 (tw H), ceO 5 bh [.ref bb], ceJ G bb 480 (tw K), ceI G so 160 f, ceO 5 sa [.ref sb], ceJ G sb 3 (tw Z)]) (st' := [.int (iI (cN (fun p => K u.toNat p && Z 0 p) 192 : Int))]) [0, 1, 2, 4, 5, 3, 6, 7] rfl rfl rfl ?_)
  exact vv_iret F zd_RE_countBehindIn_10 ⟨rfl, rfl⟩

set_option maxHeartbeats 4000000 in
set_option maxRecDepth 100000 in
theorem cn_RE_joinAhead (l : Launch) (G : vv_G) (o : Nat) (ah : Nat) (ab : Nat) (bh : Nat) (bb : Nat) (so : Nat) (H : Nat → Nat → Bool) (K : Nat → Nat → Bool) (f : Nat → Int) (u : Int) (sa : Nat) (sb : Nat) (Z : Nat → Nat → Bool) (hu : 0 ≤ u ∧ u < 160) :
    vv_D l zy_RE_joinAhead zc_RE_joinAhead 3 none { frames := 1, cells := 0, slots := 0, locals := 24 } G [.ref o, .int (iI u), .ref sa] [ceO 4 o [.ref ah, .ref bh, .ref so], ceO 5 ah [.ref ab], ceJ G ab 480 (tw H), ceO 5 bh [.ref bb], ceJ G bb 480 (tw K), ceI G so 160 f, ceO 5 sa [.ref sb], ceJ G sb 3 (tw Z)] none [ceO 4 o [.ref ah, .ref bh, .ref so], ceO 5 ah [.ref ab], ceJ G ab 480 (tw H), ceO 5 bh [.ref bb], ceJ G bb 480 (tw K), ceI G so 160 f, ceO 5 sa [.ref sb], ceJ G sb 3 (tw (jB Z 0 H u.toNat 3))] := by
  refine vv_met (by decide +kernel) (Nat.le_of_ble_eq_true rfl) rfl ?_
  intro p e s m args below meth c A F
  refine vv_aload_n F zd_RE_joinAhead_0 rfl 2 rfl ?_
  refine vv_iconst F zd_RE_joinAhead_1 ?_
  refine vv_aload_n F zd_RE_joinAhead_2 rfl 0 rfl ?_
  refine vv_get F zd_RE_joinAhead_3 zf_RE 0 rfl rfl 0 (by decide) zw_82 rfl ?_
  refine vv_iload_n F zd_RE_joinAhead_6 rfl 1 rfl ?_
  refine vv_callV (q0 := 6) (As := [.int (iI 0), .ref ah, .int (iI u)]) (rest := []) (wr := [ceO 4 o [.ref ah, .ref bh, .ref so], ceO 5 bh [.ref bb], ceJ G bb 480 (tw K), ceI G so 160 f]) F (cn_TA_join l G sa sb 3 Z 0 ah ab 480 H u ⟨by omega, by omega⟩ (by omega) ⟨by omega, by omega⟩ (by omega)) zm_TA_join ⟨zw_292, zw_293⟩ zw_291 zd_RE_joinAhead_7 ⟨by decide, by decide⟩ ⟨by decide, by decide⟩ [6, 7, 1, 2] [0, 3, 4, 5] rfl rfl ⟨rfl, rfl, by decide⟩ rfl rfl rfl rfl (Nat.le_of_ble_eq_true rfl) (vv_then (ws' := [ceO 4 o [.ref ah, .ref bh, .ref so], ceO 5 ah [.ref ab], ceJ G ab 480 (tw H), ceO 5 bh [.ref bb], ceJ G bb 480 (tw K), ceI G so 160 f, ceO 5 sa [.ref sb], ceJ G sb 3 (tw (jB Z 0 H u.toNat 3))]) (st' := []) [0, 6, 7, 1, 2, 3, 4, 5] rfl rfl rfl ?_)
  exact vv_vret F zd_RE_joinAhead_10 ⟨rfl, rfl⟩
