set_option maxHeartbeats 4000000 in
set_option maxRecDepth 100000 in
theorem cn_LO_bitCount (l : Launch) (G : vv_G) (g : Nat → Bool)  :
    vv_D l zy_LO_bitCount zc_LO_bitCount 2 (some .int) { frames := 0, cells := 0, slots := 0, locals := 0 } G [.long (wL g)] [] (some (.int (iI (cN g 64 : Int)))) [] := by
  refine vv_met (by decide +kernel) (Nat.le_of_ble_eq_true rfl) rfl ?_
  intro p e s m args below meth c A F
  refine vv_lload_n F zd_LO_bitCount_0 rfl 0 rfl ?_
  refine vv_lload_n F zd_LO_bitCount_1 rfl 0 rfl ?_
  refine vv_iconst F zd_LO_bitCount_2 ?_
  refine vv_lushr (v := ((wL g).toUInt64 >>> ((iI 1).toInt64.toUInt64 &&& Int64.toUInt64 63)).toInt64) F zd_LO_bitCount_3 rfl ?_
  refine vv_ldc2 F zd_LO_bitCount_4 zw_276 ?_
  refine vv_land F zd_LO_bitCount_7 ?_
  refine vv_lsub F zd_LO_bitCount_8 ?_
  refine vv_tj (sw1 g) ?_
  refine vv_lstore_n (lv' := [(0, .long (lN (dL 4 (c1 g) 32)))]) F zd_LO_bitCount_9 rfl (by decide) [0] rfl ?_
  refine vv_lload_n F zd_LO_bitCount_10 rfl 0 rfl ?_
  refine vv_ldc2 F zd_LO_bitCount_11 zw_277 ?_
  refine vv_land F zd_LO_bitCount_14 ?_
  refine vv_lload_n F zd_LO_bitCount_15 rfl 0 rfl ?_
  refine vv_iconst F zd_LO_bitCount_16 ?_
  refine vv_lushr (v := ((lN (dL 4 (c1 g) 32)).toUInt64 >>> ((iI 2).toInt64.toUInt64 &&& Int64.toUInt64 63)).toInt64) F zd_LO_bitCount_17 rfl ?_
  refine vv_ldc2 F zd_LO_bitCount_18 zw_277 ?_
  refine vv_land F zd_LO_bitCount_21 ?_
  refine vv_ladd F zd_LO_bitCount_22 ?_
  refine vv_tj (sw2 g) ?_
  refine vv_lstore_n (lv' := [(0, .long (lN (dL 16 (c2 g) 16)))]) F zd_LO_bitCount_23 rfl (by decide) [0] rfl ?_
  refine vv_lload_n F zd_LO_bitCount_24 rfl 0 rfl ?_
  refine vv_lload_n F zd_LO_bitCount_25 rfl 0 rfl ?_
  refine vv_iconst F zd_LO_bitCount_26 ?_
  refine vv_lushr (v := ((lN (dL 16 (c2 g) 16)).toUInt64 >>> ((iI 4).toInt64.toUInt64 &&& Int64.toUInt64 63)).toInt64) F zd_LO_bitCount_27 rfl ?_
  refine vv_ladd F zd_LO_bitCount_28 ?_
  refine vv_ldc2 F zd_LO_bitCount_29 zw_278 ?_
  refine vv_land F zd_LO_bitCount_32 ?_
  refine vv_tj (sw3 g) ?_
  refine vv_lstore_n (lv' := [(0, .long (lN (dL 256 (c3 g) 8)))]) F zd_LO_bitCount_33 rfl (by decide) [0] rfl ?_
  refine vv_lload_n F zd_LO_bitCount_34 rfl 0 rfl ?_
  refine vv_lload_n F zd_LO_bitCount_35 rfl 0 rfl ?_
  refine vv_bipush F zd_LO_bitCount_36 (by decide) ?_
  refine vv_lushr (v := ((lN (dL 256 (c3 g) 8)).toUInt64 >>> ((iI 8).toInt64.toUInt64 &&& Int64.toUInt64 63)).toInt64) F zd_LO_bitCount_38 rfl ?_
  refine vv_ladd F zd_LO_bitCount_39 ?_
  refine vv_tj (sw4 g) ?_
  refine vv_lstore_n (lv' := [(0, .long (lN (dL 256 (c4 g) 8)))]) F zd_LO_bitCount_40 rfl (by decide) [0] rfl ?_
  refine vv_lload_n F zd_LO_bitCount_41 rfl 0 rfl ?_
  refine vv_lload_n F zd_LO_bitCount_42 rfl 0 rfl ?_
  refine vv_bipush F zd_LO_bitCount_43 (by decide) ?_
  refine vv_lushr (v := ((lN (dL 256 (c4 g) 8)).toUInt64 >>> ((iI 16).toInt64.toUInt64 &&& Int64.toUInt64 63)).toInt64) F zd_LO_bitCount_45 rfl ?_
  refine vv_ladd F zd_LO_bitCount_46 ?_
  refine vv_tj (sw5 g) ?_
  refine vv_lstore_n (lv' := [(0, .long (lN (dL 256 (c5 g) 8)))]) F zd_LO_bitCount_47 rfl (by decide) [0] rfl ?_
  refine vv_lload_n F zd_LO_bitCount_48 rfl 0 rfl ?_
  refine vv_lload_n F zd_LO_bitCount_49 rfl 0 rfl ?_
  refine vv_bipush F zd_LO_bitCount_50 (by decide) ?_
  refine vv_lushr (v := ((lN (dL 256 (c5 g) 8)).toUInt64 >>> ((iI 32).toInt64.toUInt64 &&& Int64.toUInt64 63)).toInt64) F zd_LO_bitCount_52 rfl ?_
  refine vv_ladd F zd_LO_bitCount_53 ?_
  refine vv_tj (sw6 g) ?_
  refine vv_lstore_n (lv' := [(0, .long (lN (dL 256 (c6 g) 8)))]) F zd_LO_bitCount_54 rfl (by decide) [0] rfl ?_
  refine vv_lload_n F zd_LO_bitCount_55 rfl 0 rfl ?_
  refine vv_l2i (v := iI ((lN (dL 256 (c6 g) 8)).toInt32.toInt)) F zd_LO_bitCount_56 (iI_of _).symm ?_
  refine vv_bipush F zd_LO_bitCount_57 (by decide) ?_
  refine vv_iand (z := (cN g 64 : Int)) F zd_LO_bitCount_59 (sw7 g) ?_
  exact vv_iret F zd_LO_bitCount_60 ⟨rfl, rfl⟩

set_option maxHeartbeats 4000000 in
set_option maxRecDepth 100000 in
theorem cn_TA_lowestOf (l : Launch) (G : vv_G) (g : Nat → Bool) (z : Nat) (h0 : ∀ j, j < z → g j = false) (h1 : g z = true) (hz : z < 64) :
    vv_D l zy_TA_lowestOf zc_TA_lowestOf 2 (some .int) { frames := 1, cells := 0, slots := 0, locals := 21 } G [.long (wL g)] [] (some (.int (iI (z : Int)))) [] := by
  refine vv_met (by decide +kernel) (Nat.le_of_ble_eq_true rfl) rfl ?_
  intro p e s m args below meth c A F
  refine vv_lload_n F zd_TA_lowestOf_0 rfl 0 rfl ?_
  refine vv_lload_n F zd_TA_lowestOf_1 rfl 0 rfl ?_
  refine vv_lneg F zd_TA_lowestOf_2 ?_
  refine vv_land F zd_TA_lowestOf_3 ?_
  refine vv_lconst 1 F zd_TA_lowestOf_4 rfl ?_
  refine vv_lsub F zd_TA_lowestOf_5 ?_
  refine vv_tj (wL_low h0 h1 hz) ?_
  refine vv_callS (As := [.long (wL (fun j => decide (j < z)))]) (rest := []) (wr := []) F (cn_LO_bitCount l G (fun j => decide (j < z))) zm_LO_bitCount zw_274 zw_273 zd_TA_lowestOf_6 ⟨by decide, by decide⟩ ⟨by decide, by decide⟩ [] [] rfl rfl ⟨rfl, rfl, by decide⟩ rfl rfl (Nat.le_of_ble_eq_true rfl) (vv_then (ws' := []) (st' := [.int (iI (cN (fun j => decide (j < z)) 64 : Int))]) [] rfl rfl rfl ?_)
  exact vv_iret F zd_TA_lowestOf_9 ⟨by rw [cN_low hz], rfl⟩

set_option maxHeartbeats 4000000 in
set_option maxRecDepth 100000 in
theorem lp_AR_fill {p : Program} {l : Launch} {e : Env} {s : State} {m : MethodId} {args : Array Value} {below : List Frame} {meth : Method} {c : Code} {A : Nat → Prop} {Q : State → Prop} {G : vv_G} (F : vv_F p s m args meth c zc_AR_fill "java/util/Arrays" "fill" none G A 5) (b : Nat) (n : Nat) (x : Int64) (hn : n ≤ 480)
    (k : ∀ (f : Nat → Int64), (0 ≤ (n : Int) ∧ ∀ j : Nat, (j : Int) < (n : Int) → f j = x) → vv_V p l e { frames := 0, cells := 0, slots := 0, locals := 0 } s m args below meth c G A 5 Q 22 [(0, .ref b), (1, .long x), (3, .int (iI (n : Int))), (4, .int (iI (n : Int)))] [] [ceJ G b n f] 0 0)  :
    ∀ (d : Nat) (i : Int) (f : Nat → Int64), i + (d : Int) = (n : Int) → (0 ≤ i ∧ ∀ j : Nat, (j : Int) < i → f j = x) → vv_V p l e { frames := 0, cells := 0, slots := 0, locals := 0 } s m args below meth c G A 5 Q 6 [(0, .ref b), (1, .long x), (3, .int (iI i)), (4, .int (iI (n : Int)))] [] [ceJ G b n f] 0 0 := by
  intro d
  induction d with
  | zero =>
    intro i f hd hI
    have hz : i = (n : Int) := by omega
    subst hz
    refine vv_iload_n F zd_AR_fill_6 rfl 2 rfl ?_
    refine vv_iload F zd_AR_fill_7 3 rfl ?_
    refine vv_icmp_ge (tgt := 22) F zd_AR_fill_9 rfl (by first | exact ⟨by omega, by omega⟩) (by first | exact ⟨by omega, by omega⟩) (fun _ => ?_) (fun h9 => absurd h9 (by omega))
    exact k f hI
  | succ d ih =>
    intro i f hd hI
    refine vv_iload_n F zd_AR_fill_6 rfl 2 rfl ?_
    refine vv_iload F zd_AR_fill_7 3 rfl ?_
    refine vv_icmp_ge (tgt := 22) F zd_AR_fill_9 rfl (by first | exact ⟨by omega, by omega⟩) (by first | exact ⟨by omega, by omega⟩) (fun h9 => absurd h9 (by omega)) (fun _ => ?_)
    refine vv_aload_n F zd_AR_fill_12 rfl 0 rfl ?_
    refine vv_iload_n F zd_AR_fill_13 rfl 2 rfl ?_
    refine vv_lload_n F zd_AR_fill_14 rfl 1 rfl ?_
    refine vv_last (ws' := [ceJ G b n (va_up f i.toNat x)]) F zd_AR_fill_15 0 rfl ⟨by omega, by omega⟩ (by omega) rfl ?_
    refine vv_iinc (j := 2) (lv' := [(0, .ref b), (1, .long x), (3, .int (iI (i + 1))), (4, .int (iI (n : Int)))]) F zd_AR_fill_16 rfl (by decide) [1, 2, 0, 3] rfl ?_
    refine vv_goto (tgt := 6) F zd_AR_fill_19 rfl ?_
    exact ih (i + 1) (va_up f i.toNat x) (by omega) (⟨by omega, fun j hj => by unfold va_up; by_cases h : j = i.toNat; rw [if_pos h]; rw [if_neg h]; exact hI.2 j (by omega)⟩)

set_option maxHeartbeats 4000000 in
set_option maxRecDepth 100000 in
theorem cn_AR_fill (l : Launch) (G : vv_G) (b : Nat) (n : Nat) (f : Nat → Int64) (x : Int64) (hn : n ≤ 480) :
    vv_D l zy_AR_fill zc_AR_fill 5 none { frames := 0, cells := 0, slots := 0, locals := 0 } G [.ref b, .long x] [ceJ G b n f] none [ceJ G b n (fun _ => x)] := by
  refine vv_met (by decide +kernel) (Nat.le_of_ble_eq_true rfl) rfl ?_
  intro p e s m args below meth c A F
  refine vv_iconst F zd_AR_fill_0 ?_
  refine vv_istore_n (lv' := [(0, .ref b), (1, .long x), (3, .int (iI 0))]) F zd_AR_fill_1 rfl (by decide) [1, 2, 0] rfl ?_
  refine vv_aload_n F zd_AR_fill_2 rfl 0 rfl ?_
  refine vv_alenJ F zd_AR_fill_3 0 rfl ?_
  refine vv_istore (lv' := [(0, .ref b), (1, .long x), (3, .int (iI 0)), (4, .int (iI ((n : Nat) : Int)))]) F zd_AR_fill_4 (by decide) [1, 2, 3, 0] rfl ?_
  refine lp_AR_fill F b n x hn (fun f2 hI => ?_) n 0 f (by omega) ⟨by omega, fun j hj => absurd hj (by omega)⟩
  refine vv_conJ (f := f2) (g := fun _ => x) (ws' := [ceJ G b n (fun _ => x)]) 0 rfl (fun j hj => hI.2 j (by omega)) rfl ?_
  exact vv_vret F zd_AR_fill_22 ⟨rfl, rfl⟩

set_option maxHeartbeats 4000000 in
set_option maxRecDepth 100000 in
theorem cn_TA_wipe (l : Launch) (G : vv_G) (a : Nat) (b : Nat) (n : Nat) (B : Nat → Nat → Bool) (hn : n ≤ 480) :
    vv_D l zy_TA_wipe zc_TA_wipe 1 none { frames := 1, cells := 0, slots := 0, locals := 24 } G [.ref a] [ceO 5 a [.ref b], ceJ G b n (tw B)] none [ceO 5 a [.ref b], ceJ G b n (tw (fun _ _ => false))] := by
  refine vv_met (by decide +kernel) (Nat.le_of_ble_eq_true rfl) rfl ?_
  intro p e s m args below meth c A F
  refine vv_aload_n F zd_TA_wipe_0 rfl 0 rfl ?_
  refine vv_get F zd_TA_wipe_1 zf_TA 0 rfl rfl 0 (by decide) zw_39 rfl ?_
  refine vv_lconst 0 F zd_TA_wipe_4 rfl ?_
  refine vv_callS (As := [.ref b, .long 0]) (rest := []) (wr := [ceO 5 a [.ref b]]) F (cn_AR_fill l G b n (tw B) 0 hn) zm_AR_fill zw_101 zw_100 zd_TA_wipe_5 ⟨by decide, by decide⟩ ⟨by decide, by decide⟩ [1] [0] rfl rfl ⟨rfl, rfl, by decide⟩ rfl rfl (Nat.le_of_ble_eq_true rfl) (vv_then (ws' := [ceO 5 a [.ref b], ceJ G b n (fun _ => 0)]) (st' := []) [0, 1] rfl rfl rfl ?_)
  exact vv_vret F zd_TA_wipe_8 ⟨rfl, by rw [tw_0]⟩

set_option maxHeartbeats 4000000 in
set_option maxRecDepth 100000 in
theorem lp_TA_join {p : Program} {l : Launch} {e : Env} {s : State} {m : MethodId} {args : Array Value} {below : List Frame} {meth : Method} {c : Code} {A : Nat → Prop} {Q : State → Prop} {G : vv_G} (F : vv_F p s m args meth c zc_TA_join "ClauseGraph$Table" "join" none G A 5) (a : Nat) (b : Nat) (n : Nat) (B : Nat → Nat → Bool) (r : Int) (a2 : Nat) (b2 : Nat) (n2 : Nat) (C : Nat → Nat → Bool) (t : Int) (hr : 0 ≤ r ∧ 3 * r + 2 < n) (hn : n ≤ 480) (ht : 0 ≤ t ∧ 3 * t + 2 < n2) (hn2 : n2 ≤ 480)
    (k : ∀ (f : Nat → Int64), (0 ≤ (3 : Int) ∧ f = tw (jB B r.toNat C t.toNat (3 : Int).toNat)) → vv_V p l e { frames := 0, cells := 0, slots := 0, locals := 0 } s m args below meth c G A 5 Q 40 [(0, .ref a), (1, .int (iI r)), (2, .ref a2), (3, .int (iI t)), (4, .int (iI (3 : Int)))] [] [ceO 5 a [.ref b], ceJ G b n f, ceO 5 a2 [.ref b2], ceJ G b2 n2 (tw C)] 0 0)  :
    ∀ (d : Nat) (i : Int) (f : Nat → Int64), i + (d : Int) = (3 : Int) → (0 ≤ i ∧ f = tw (jB B r.toNat C t.toNat i.toNat)) → vv_V p l e { frames := 0, cells := 0, slots := 0, locals := 0 } s m args below meth c G A 5 Q 3 [(0, .ref a), (1, .int (iI r)), (2, .ref a2), (3, .int (iI t)), (4, .int (iI i))] [] [ceO 5 a [.ref b], ceJ G b n f, ceO 5 a2 [.ref b2], ceJ G b2 n2 (tw C)] 0 0 := by
  intro d
  induction d with
  | zero =>
    intro i f hd hI
    have hz : i = (3 : Int) := by omega
    subst hz
    refine vv_iload F zd_TA_join_3 4 rfl ?_
    refine vv_iconst F zd_TA_join_5 ?_
    refine vv_icmp_ge (tgt := 40) F zd_TA_join_6 rfl (by first | exact ⟨by omega, by omega⟩) (by decide) (fun _ => ?_) (fun h9 => absurd h9 (by omega))
    exact k f hI
  | succ d ih =>
    intro i f hd hI
    refine vv_iload F zd_TA_join_3 4 rfl ?_
    refine vv_iconst F zd_TA_join_5 ?_
    refine vv_icmp_ge (tgt := 40) F zd_TA_join_6 rfl (by first | exact ⟨by omega, by omega⟩) (by decide) (fun h9 => absurd h9 (by omega)) (fun _ => ?_)
    refine vv_aload_n F zd_TA_join_9 rfl 0 rfl ?_
    refine vv_get F zd_TA_join_10 zf_TA 0 rfl rfl 0 (by decide) zw_39 rfl ?_
    refine vv_iload_n F zd_TA_join_13 rfl 1 rfl ?_
    refine vv_iconst F zd_TA_join_14 ?_
    refine vv_imul F zd_TA_join_15 ?_
    refine vv_iload F zd_TA_join_16 4 rfl ?_
    refine vv_iadd F zd_TA_join_18 ?_
    refine vv_dup2_11 F zd_TA_join_19 rfl rfl ?_
    refine vv_lald F zd_TA_join_20 1 rfl ⟨by omega, by omega⟩ (by omega) ?_
    refine vv_aload_n F zd_TA_join_21 rfl 2 rfl ?_
    refine vv_get F zd_TA_join_22 zf_TA 2 rfl rfl 0 (by decide) zw_39 rfl ?_
    refine vv_iload_n F zd_TA_join_25 rfl 3 rfl ?_
    refine vv_iconst F zd_TA_join_26 ?_
    refine vv_imul F zd_TA_join_27 ?_
    refine vv_iload F zd_TA_join_28 4 rfl ?_
    refine vv_iadd F zd_TA_join_30 ?_
    refine vv_lald F zd_TA_join_31 3 rfl ⟨by omega, by omega⟩ (by omega) ?_
    refine vv_lor F zd_TA_join_32 ?_
    refine vv_last (ws' := [ceO 5 a [.ref b], ceJ G b n (va_up f ((r * 3) + i).toNat ((f ((r * 3) + i).toNat) ||| ((tw C) ((t * 3) + i).toNat))), ceO 5 a2 [.ref b2], ceJ G b2 n2 (tw C)]) F zd_TA_join_33 1 rfl ⟨by omega, by omega⟩ (by omega) rfl ?_
    refine vv_iinc (j := 4) (lv' := [(0, .ref a), (1, .int (iI r)), (2, .ref a2), (3, .int (iI t)), (4, .int (iI (i + 1)))]) F zd_TA_join_34 rfl (by decide) [1, 2, 3, 4, 0] rfl ?_
    refine vv_goto (tgt := 3) F zd_TA_join_37 rfl ?_
    exact ih (i + 1) (va_up f ((r * 3) + i).toNat ((f ((r * 3) + i).toNat) ||| ((tw C) ((t * 3) + i).toNat))) (by omega) (⟨by omega, jn_step hr.1 ht.1 ⟨by omega, by omega⟩ hI.2 rfl⟩)

set_option maxHeartbeats 4000000 in
set_option maxRecDepth 100000 in
theorem cn_TA_join (l : Launch) (G : vv_G) (a : Nat) (b : Nat) (n : Nat) (B : Nat → Nat → Bool) (r : Int) (a2 : Nat) (b2 : Nat) (n2 : Nat) (C : Nat → Nat → Bool) (t : Int) (hr : 0 ≤ r ∧ 3 * r + 2 < n) (hn : n ≤ 480) (ht : 0 ≤ t ∧ 3 * t + 2 < n2) (hn2 : n2 ≤ 480) :
    vv_D l zy_TA_join zc_TA_join 5 none { frames := 0, cells := 0, slots := 0, locals := 0 } G [.ref a, .int (iI r), .ref a2, .int (iI t)] [ceO 5 a [.ref b], ceJ G b n (tw B), ceO 5 a2 [.ref b2], ceJ G b2 n2 (tw C)] none [ceO 5 a [.ref b], ceJ G b n (tw (jB B r.toNat C t.toNat 3)), ceO 5 a2 [.ref b2], ceJ G b2 n2 (tw C)] := by
  refine vv_met (by decide +kernel) (Nat.le_of_ble_eq_true rfl) rfl ?_
  intro p e s m args below meth c A F
  refine vv_iconst F zd_TA_join_0 ?_
  refine vv_istore (lv' := [(0, .ref a), (1, .int (iI r)), (2, .ref a2), (3, .int (iI t)), (4, .int (iI 0))]) F zd_TA_join_1 (by decide) [1, 2, 3, 4, 0] rfl ?_
  refine lp_TA_join F a b n B r a2 b2 n2 C t hr hn ht hn2 (fun f hI => ?_) 3 0 (tw B) (by omega) ⟨by omega, by rw [show (0 : Int).toNat = 0 from rfl, jB_0]⟩
  obtain rfl := hI.2
  exact vv_vret F zd_TA_join_40 ⟨rfl, rfl⟩

set_option maxHeartbeats 4000000 in
set_option maxRecDepth 100000 in
theorem lp_TA_joinS {p : Program} {l : Launch} {e : Env} {s : State} {m : MethodId} {args : Array Value} {below : List Frame} {meth : Method} {c : Code} {A : Nat → Prop} {Q : State → Prop} {G : vv_G} (F : vv_F p s m args meth c zc_TA_join "ClauseGraph$Table" "join" none G A 5) (a : Nat) (b : Nat) (n : Nat) (B : Nat → Nat → Bool) (r : Int) (t : Int) (hr : 0 ≤ r ∧ 3 * r + 2 < n) (hn : n ≤ 480) (ht : 0 ≤ t ∧ 3 * t + 2 < n)
    (k : ∀ (f : Nat → Int64), (0 ≤ (3 : Int) ∧ f = tw (jB B r.toNat B t.toNat (3 : Int).toNat)) → vv_V p l e { frames := 0, cells := 0, slots := 0, locals := 0 } s m args below meth c G A 5 Q 40 [(0, .ref a), (1, .int (iI r)), (2, .ref a), (3, .int (iI t)), (4, .int (iI (3 : Int)))] [] [ceO 5 a [.ref b], ceJ G b n f] 0 0)  :
    ∀ (d : Nat) (i : Int) (f : Nat → Int64), i + (d : Int) = (3 : Int) → (0 ≤ i ∧ f = tw (jB B r.toNat B t.toNat i.toNat)) → vv_V p l e { frames := 0, cells := 0, slots := 0, locals := 0 } s m args below meth c G A 5 Q 3 [(0, .ref a), (1, .int (iI r)), (2, .ref a), (3, .int (iI t)), (4, .int (iI i))] [] [ceO 5 a [.ref b], ceJ G b n f] 0 0 := by
  intro d
  induction d with
  | zero =>
    intro i f hd hI
    have hz : i = (3 : Int) := by omega
    subst hz
    refine vv_iload F zd_TA_join_3 4 rfl ?_
    refine vv_iconst F zd_TA_join_5 ?_
    refine vv_icmp_ge (tgt := 40) F zd_TA_join_6 rfl (by first | exact ⟨by omega, by omega⟩) (by decide) (fun _ => ?_) (fun h9 => absurd h9 (by omega))
    exact k f hI
  | succ d ih =>
    intro i f hd hI
    refine vv_iload F zd_TA_join_3 4 rfl ?_
    refine vv_iconst F zd_TA_join_5 ?_
    refine vv_icmp_ge (tgt := 40) F zd_TA_join_6 rfl (by first | exact ⟨by omega, by omega⟩) (by decide) (fun h9 => absurd h9 (by omega)) (fun _ => ?_)
    refine vv_aload_n F zd_TA_join_9 rfl 0 rfl ?_
    refine vv_get F zd_TA_join_10 zf_TA 0 rfl rfl 0 (by decide) zw_39 rfl ?_
    refine vv_iload_n F zd_TA_join_13 rfl 1 rfl ?_
    refine vv_iconst F zd_TA_join_14 ?_
    refine vv_imul F zd_TA_join_15 ?_
    refine vv_iload F zd_TA_join_16 4 rfl ?_
    refine vv_iadd F zd_TA_join_18 ?_
    refine vv_dup2_11 F zd_TA_join_19 rfl rfl ?_
    refine vv_lald F zd_TA_join_20 1 rfl ⟨by omega, by omega⟩ (by omega) ?_
    refine vv_aload_n F zd_TA_join_21 rfl 2 rfl ?_
    refine vv_get F zd_TA_join_22 zf_TA 0 rfl rfl 0 (by decide) zw_39 rfl ?_
    refine vv_iload_n F zd_TA_join_25 rfl 3 rfl ?_
    refine vv_iconst F zd_TA_join_26 ?_
    refine vv_imul F zd_TA_join_27 ?_
    refine vv_iload F zd_TA_join_28 4 rfl ?_
    refine vv_iadd F zd_TA_join_30 ?_
    refine vv_lald F zd_TA_join_31 1 rfl ⟨by omega, by omega⟩ (by omega) ?_
    refine vv_lor F zd_TA_join_32 ?_
    refine vv_last (ws' := [ceO 5 a [.ref b], ceJ G b n (va_up f ((r * 3) + i).toNat ((f ((r * 3) + i).toNat) ||| (f ((t * 3) + i).toNat)))]) F zd_TA_join_33 1 rfl ⟨by omega, by omega⟩ (by omega) rfl ?_
    refine vv_iinc (j := 4) (lv' := [(0, .ref a), (1, .int (iI r)), (2, .ref a), (3, .int (iI t)), (4, .int (iI (i + 1)))]) F zd_TA_join_34 rfl (by decide) [1, 2, 3, 4, 0] rfl ?_
    refine vv_goto (tgt := 3) F zd_TA_join_37 rfl ?_
    exact ih (i + 1) (va_up f ((r * 3) + i).toNat ((f ((r * 3) + i).toNat) ||| (f ((t * 3) + i).toNat))) (by omega) (⟨by omega, jn_step hr.1 ht.1 ⟨by omega, by omega⟩ hI.2 (by rw [hI.2]; exact jn_self ht.1 ⟨by omega, by omega⟩)⟩)

set_option maxHeartbeats 4000000 in
set_option maxRecDepth 100000 in
theorem cn_TA_joinS (l : Launch) (G : vv_G) (a : Nat) (b : Nat) (n : Nat) (B : Nat → Nat → Bool) (r : Int) (t : Int) (hr : 0 ≤ r ∧ 3 * r + 2 < n) (hn : n ≤ 480) (ht : 0 ≤ t ∧ 3 * t + 2 < n) :
    vv_D l zy_TA_join zc_TA_join 5 none { frames := 0, cells := 0, slots := 0, locals := 0 } G [.ref a, .int (iI r), .ref a, .int (iI t)] [ceO 5 a [.ref b], ceJ G b n (tw B)] none [ceO 5 a [.ref b], ceJ G b n (tw (jB B r.toNat B t.toNat 3))] := by
  refine vv_met (by decide +kernel) (Nat.le_of_ble_eq_true rfl) rfl ?_
  intro p e s m args below meth c A F
  refine vv_iconst F zd_TA_join_0 ?_
  refine vv_istore (lv' := [(0, .ref a), (1, .int (iI r)), (2, .ref a), (3, .int (iI t)), (4, .int (iI 0))]) F zd_TA_join_1 (by decide) [1, 2, 3, 4, 0] rfl ?_
  refine lp_TA_joinS F a b n B r t hr hn ht (fun f hI => ?_) 3 0 (tw B) (by omega) ⟨by omega, by rw [show (0 : Int).toNat = 0 from rfl, jB_0]⟩
  obtain rfl := hI.2
  exact vv_vret F zd_TA_join_40 ⟨rfl, rfl⟩

set_option maxHeartbeats 4000000 in
set_option maxRecDepth 100000 in
theorem lp_TA_cs {p : Program} {l : Launch} {e : Env} {s : State} {m : MethodId} {args : Array Value} {below : List Frame} {meth : Method} {c : Code} {A : Nat → Prop} {Q : State → Prop} {G : vv_G} (F : vv_F p s m args meth c zc_TA_countShared "ClauseGraph$Table" "countShared" (some .int) G A 6) (a : Nat) (b : Nat) (n : Nat) (B : Nat → Nat → Bool) (r : Int) (a2 : Nat) (b2 : Nat) (n2 : Nat) (C : Nat → Nat → Bool) (t : Int) (hr : 0 ≤ r ∧ 3 * r + 2 < n) (hn : n ≤ 480) (ht : 0 ≤ t ∧ 3 * t + 2 < n2) (hn2 : n2 ≤ 480)
    (k : ∀ (y : Int), (0 ≤ (3 : Int) ∧ y = (cN (fun p => B r.toNat p && C t.toNat p) (64 * (3 : Int).toNat) : Int)) → vv_V p l e { frames := 1, cells := 0, slots := 0, locals := 21 } s m args below meth c G A 6 Q 49 [(0, .ref a), (1, .int (iI r)), (2, .ref a2), (3, .int (iI t)), (4, .int (iI y)), (5, .int (iI (3 : Int)))] [] [ceO 5 a [.ref b], ceJ G b n (tw B), ceO 5 a2 [.ref b2], ceJ G b2 n2 (tw C)] 0 0)  :
    ∀ (d : Nat) (i : Int) (y : Int), i + (d : Int) = (3 : Int) → (0 ≤ i ∧ y = (cN (fun p => B r.toNat p && C t.toNat p) (64 * i.toNat) : Int)) → vv_V p l e { frames := 1, cells := 0, slots := 0, locals := 21 } s m args below meth c G A 6 Q 6 [(0, .ref a), (1, .int (iI r)), (2, .ref a2), (3, .int (iI t)), (4, .int (iI y)), (5, .int (iI i))] [] [ceO 5 a [.ref b], ceJ G b n (tw B), ceO 5 a2 [.ref b2], ceJ G b2 n2 (tw C)] 0 0 := by
  intro d
  induction d with
  | zero =>
    intro i y hd hI
    have hz : i = (3 : Int) := by omega
    subst hz
    refine vv_iload F zd_TA_countShared_6 5 rfl ?_
    refine vv_iconst F zd_TA_countShared_8 ?_
    refine vv_icmp_ge (tgt := 49) F zd_TA_countShared_9 rfl (by first | exact ⟨by omega, by omega⟩) (by decide) (fun _ => ?_) (fun h9 => absurd h9 (by omega))
    exact k y hI
  | succ d ih =>
    intro i y hd hI
    refine vv_iload F zd_TA_countShared_6 5 rfl ?_
    refine vv_iconst F zd_TA_countShared_8 ?_
    refine vv_icmp_ge (tgt := 49) F zd_TA_countShared_9 rfl (by first | exact ⟨by omega, by omega⟩) (by decide) (fun h9 => absurd h9 (by omega)) (fun _ => ?_)
    refine vv_iload F zd_TA_countShared_12 4 rfl ?_
    refine vv_aload_n F zd_TA_countShared_14 rfl 0 rfl ?_
    refine vv_get F zd_TA_countShared_15 zf_TA 0 rfl rfl 0 (by decide) zw_39 rfl ?_
    refine vv_iload_n F zd_TA_countShared_18 rfl 1 rfl ?_
    refine vv_iconst F zd_TA_countShared_19 ?_
    refine vv_imul F zd_TA_countShared_20 ?_
    refine vv_iload F zd_TA_countShared_21 5 rfl ?_
    refine vv_iadd F zd_TA_countShared_23 ?_
    refine vv_lald F zd_TA_countShared_24 1 rfl ⟨by omega, by omega⟩ (by omega) ?_
    refine vv_aload_n F zd_TA_countShared_25 rfl 2 rfl ?_
    refine vv_get F zd_TA_countShared_26 zf_TA 2 rfl rfl 0 (by decide) zw_39 rfl ?_
    refine vv_iload_n F zd_TA_countShared_29 rfl 3 rfl ?_
    refine vv_iconst F zd_TA_countShared_30 ?_
    refine vv_imul F zd_TA_countShared_31 ?_
    refine vv_iload F zd_TA_countShared_32 5 rfl ?_
    refine vv_iadd F zd_TA_countShared_34 ?_
    refine vv_lald F zd_TA_countShared_35 3 rfl ⟨by omega, by omega⟩ (by omega) ?_
    refine vv_land F zd_TA_countShared_36 ?_
    refine vv_tj (and_wL hr.1 ht.1 ⟨by omega, by omega⟩) ?_
    refine vv_callS (As := [.long (wL (fun j => B r.toNat (64 * i.toNat + j) && C t.toNat (64 * i.toNat + j)))]) (rest := [.int (iI y)]) (wr := [ceO 5 a [.ref b], ceJ G b n (tw B), ceO 5 a2 [.ref b2], ceJ G b2 n2 (tw C)]) F (cn_LO_bitCount l G (fun j => B r.toNat (64 * i.toNat + j) && C t.toNat (64 * i.toNat + j))) zm_LO_bitCount zw_274 zw_273 zd_TA_countShared_37 ⟨by decide, by decide⟩ ⟨by decide, by decide⟩ [] [0, 1, 2, 3] rfl rfl ⟨rfl, rfl, by decide⟩ rfl rfl (Nat.le_of_ble_eq_true rfl) (vv_then (ws' := [ceO 5 a [.ref b], ceJ G b n (tw B), ceO 5 a2 [.ref b2], ceJ G b2 n2 (tw C)]) (st' := [.int (iI (cN (fun j => B r.toNat (64 * i.toNat + j) && C t.toNat (64 * i.toNat + j)) 64 : Int)), .int (iI y)]) [0, 1, 2, 3] rfl rfl rfl ?_)
    refine vv_iadd F zd_TA_countShared_40 ?_
    refine vv_istore (lv' := [(0, .ref a), (1, .int (iI r)), (2, .ref a2), (3, .int (iI t)), (4, .int (iI (y + (cN (fun j => B r.toNat (64 * i.toNat + j) && C t.toNat (64 * i.toNat + j)) 64 : Int)))), (5, .int (iI i))]) F zd_TA_countShared_41 (by decide) [1, 2, 3, 4, 0, 5] rfl ?_
    refine vv_iinc (j := 5) (lv' := [(0, .ref a), (1, .int (iI r)), (2, .ref a2), (3, .int (iI t)), (4, .int (iI (y + (cN (fun j => B r.toNat (64 * i.toNat + j) && C t.toNat (64 * i.toNat + j)) 64 : Int)))), (5, .int (iI (i + 1)))]) F zd_TA_countShared_43 rfl (by decide) [1, 2, 3, 4, 5, 0] rfl ?_
    refine vv_goto (tgt := 6) F zd_TA_countShared_46 rfl ?_
    exact ih (i + 1) (y + (cN (fun j => B r.toNat (64 * i.toNat + j) && C t.toNat (64 * i.toNat + j)) 64 : Int)) (by omega) (⟨by omega, by rw [cN_word _ hI.1, hI.2]; omega⟩)

set_option maxHeartbeats 4000000 in
set_option maxRecDepth 100000 in
theorem cn_TA_countShared (l : Launch) (G : vv_G) (a : Nat) (b : Nat) (n : Nat) (B : Nat → Nat → Bool) (r : Int) (a2 : Nat) (b2 : Nat) (n2 : Nat) (C : Nat → Nat → Bool) (t : Int) (hr : 0 ≤ r ∧ 3 * r + 2 < n) (hn : n ≤ 480) (ht : 0 ≤ t ∧ 3 * t + 2 < n2) (hn2 : n2 ≤ 480) :
    vv_D l zy_TA_countShared zc_TA_countShared 6 (some .int) { frames := 1, cells := 0, slots := 0, locals := 21 } G [.ref a, .int (iI r), .ref a2, .int (iI t)] [ceO 5 a [.ref b], ceJ G b n (tw B), ceO 5 a2 [.ref b2], ceJ G b2 n2 (tw C)] (some (.int (iI (cN (fun p => B r.toNat p && C t.toNat p) 192 : Int)))) [ceO 5 a [.ref b], ceJ G b n (tw B), ceO 5 a2 [.ref b2], ceJ G b2 n2 (tw C)] := by
  refine vv_met (by decide +kernel) (Nat.le_of_ble_eq_true rfl) rfl ?_
  intro p e s m args below meth c A F
  refine vv_iconst F zd_TA_countShared_0 ?_
  refine vv_istore (lv' := [(0, .ref a), (1, .int (iI r)), (2, .ref a2), (3, .int (iI t)), (4, .int (iI 0))]) F zd_TA_countShared_1 (by decide) [1, 2, 3, 4, 0] rfl ?_
  refine vv_iconst F zd_TA_countShared_3 ?_
  refine vv_istore (lv' := [(0, .ref a), (1, .int (iI r)), (2, .ref a2), (3, .int (iI t)), (4, .int (iI 0)), (5, .int (iI 0))]) F zd_TA_countShared_4 (by decide) [1, 2, 3, 4, 5, 0] rfl ?_
  refine lp_TA_cs F a b n B r a2 b2 n2 C t hr hn ht hn2 (fun y hI => ?_) 3 0 0 (by omega) ⟨by omega, rfl⟩
  obtain rfl := hI.2
  refine vv_iload F zd_TA_countShared_49 4 rfl ?_
  exact vv_iret F zd_TA_countShared_51 ⟨rfl, rfl⟩

set_option maxHeartbeats 4000000 in
set_option maxRecDepth 100000 in
theorem lp_TA_csS {p : Program} {l : Launch} {e : Env} {s : State} {m : MethodId} {args : Array Value} {below : List Frame} {meth : Method} {c : Code} {A : Nat → Prop} {Q : State → Prop} {G : vv_G} (F : vv_F p s m args meth c zc_TA_countShared "ClauseGraph$Table" "countShared" (some .int) G A 6) (a : Nat) (b : Nat) (n : Nat) (B : Nat → Nat → Bool) (r : Int) (t : Int) (hr : 0 ≤ r ∧ 3 * r + 2 < n) (hn : n ≤ 480) (ht : 0 ≤ t ∧ 3 * t + 2 < n)
    (k : ∀ (y : Int), (0 ≤ (3 : Int) ∧ y = (cN (fun p => B r.toNat p && B t.toNat p) (64 * (3 : Int).toNat) : Int)) → vv_V p l e { frames := 1, cells := 0, slots := 0, locals := 21 } s m args below meth c G A 6 Q 49 [(0, .ref a), (1, .int (iI r)), (2, .ref a), (3, .int (iI t)), (4, .int (iI y)), (5, .int (iI (3 : Int)))] [] [ceO 5 a [.ref b], ceJ G b n (tw B)] 0 0)  :
    ∀ (d : Nat) (i : Int) (y : Int), i + (d : Int) = (3 : Int) → (0 ≤ i ∧ y = (cN (fun p => B r.toNat p && B t.toNat p) (64 * i.toNat) : Int)) → vv_V p l e { frames := 1, cells := 0, slots := 0, locals := 21 } s m args below meth c G A 6 Q 6 [(0, .ref a), (1, .int (iI r)), (2, .ref a), (3, .int (iI t)), (4, .int (iI y)), (5, .int (iI i))] [] [ceO 5 a [.ref b], ceJ G b n (tw B)] 0 0 := by
  intro d
  induction d with
  | zero =>
    intro i y hd hI
    have hz : i = (3 : Int) := by omega
    subst hz
    refine vv_iload F zd_TA_countShared_6 5 rfl ?_
    refine vv_iconst F zd_TA_countShared_8 ?_
    refine vv_icmp_ge (tgt := 49) F zd_TA_countShared_9 rfl (by first | exact ⟨by omega, by omega⟩) (by decide) (fun _ => ?_) (fun h9 => absurd h9 (by omega))
    exact k y hI
  | succ d ih =>
    intro i y hd hI
    refine vv_iload F zd_TA_countShared_6 5 rfl ?_
    refine vv_iconst F zd_TA_countShared_8 ?_
    refine vv_icmp_ge (tgt := 49) F zd_TA_countShared_9 rfl (by first | exact ⟨by omega, by omega⟩) (by decide) (fun h9 => absurd h9 (by omega)) (fun _ => ?_)
    refine vv_iload F zd_TA_countShared_12 4 rfl ?_
    refine vv_aload_n F zd_TA_countShared_14 rfl 0 rfl ?_
    refine vv_get F zd_TA_countShared_15 zf_TA 0 rfl rfl 0 (by decide) zw_39 rfl ?_
    refine vv_iload_n F zd_TA_countShared_18 rfl 1 rfl ?_
    refine vv_iconst F zd_TA_countShared_19 ?_
    refine vv_imul F zd_TA_countShared_20 ?_
    refine vv_iload F zd_TA_countShared_21 5 rfl ?_
    refine vv_iadd F zd_TA_countShared_23 ?_
    refine vv_lald F zd_TA_countShared_24 1 rfl ⟨by omega, by omega⟩ (by omega) ?_
    refine vv_aload_n F zd_TA_countShared_25 rfl 2 rfl ?_
    refine vv_get F zd_TA_countShared_26 zf_TA 0 rfl rfl 0 (by decide) zw_39 rfl ?_
    refine vv_iload_n F zd_TA_countShared_29 rfl 3 rfl ?_
    refine vv_iconst F zd_TA_countShared_30 ?_
    refine vv_imul F zd_TA_countShared_31 ?_
    refine vv_iload F zd_TA_countShared_32 5 rfl ?_
    refine vv_iadd F zd_TA_countShared_34 ?_
    refine vv_lald F zd_TA_countShared_35 1 rfl ⟨by omega, by omega⟩ (by omega) ?_
    refine vv_land F zd_TA_countShared_36 ?_
    refine vv_tj (and_wL hr.1 ht.1 ⟨by omega, by omega⟩) ?_
    refine vv_callS (As := [.long (wL (fun j => B r.toNat (64 * i.toNat + j) && B t.toNat (64 * i.toNat + j)))]) (rest := [.int (iI y)]) (wr := [ceO 5 a [.ref b], ceJ G b n (tw B)]) F (cn_LO_bitCount l G (fun j => B r.toNat (64 * i.toNat + j) && B t.toNat (64 * i.toNat + j))) zm_LO_bitCount zw_274 zw_273 zd_TA_countShared_37 ⟨by decide, by decide⟩ ⟨by decide, by decide⟩ [] [0, 1] rfl rfl ⟨rfl, rfl, by decide⟩ rfl rfl (Nat.le_of_ble_eq_true rfl) (vv_then (ws' := [ceO 5 a [.ref b], ceJ G b n (tw B)]) (st' := [.int (iI (cN (fun j => B r.toNat (64 * i.toNat + j) && B t.toNat (64 * i.toNat + j)) 64 : Int)), .int (iI y)]) [0, 1] rfl rfl rfl ?_)
    refine vv_iadd F zd_TA_countShared_40 ?_
    refine vv_istore (lv' := [(0, .ref a), (1, .int (iI r)), (2, .ref a), (3, .int (iI t)), (4, .int (iI (y + (cN (fun j => B r.toNat (64 * i.toNat + j) && B t.toNat (64 * i.toNat + j)) 64 : Int)))), (5, .int (iI i))]) F zd_TA_countShared_41 (by decide) [1, 2, 3, 4, 0, 5] rfl ?_
    refine vv_iinc (j := 5) (lv' := [(0, .ref a), (1, .int (iI r)), (2, .ref a), (3, .int (iI t)), (4, .int (iI (y + (cN (fun j => B r.toNat (64 * i.toNat + j) && B t.toNat (64 * i.toNat + j)) 64 : Int)))), (5, .int (iI (i + 1)))]) F zd_TA_countShared_43 rfl (by decide) [1, 2, 3, 4, 5, 0] rfl ?_
    refine vv_goto (tgt := 6) F zd_TA_countShared_46 rfl ?_
    exact ih (i + 1) (y + (cN (fun j => B r.toNat (64 * i.toNat + j) && B t.toNat (64 * i.toNat + j)) 64 : Int)) (by omega) (⟨by omega, by rw [cN_word _ hI.1, hI.2]; omega⟩)

set_option maxHeartbeats 4000000 in
set_option maxRecDepth 100000 in
theorem cn_TA_countSharedS (l : Launch) (G : vv_G) (a : Nat) (b : Nat) (n : Nat) (B : Nat → Nat → Bool) (r : Int) (t : Int) (hr : 0 ≤ r ∧ 3 * r + 2 < n) (hn : n ≤ 480) (ht : 0 ≤ t ∧ 3 * t + 2 < n) :
    vv_D l zy_TA_countShared zc_TA_countShared 6 (some .int) { frames := 1, cells := 0, slots := 0, locals := 21 } G [.ref a, .int (iI r), .ref a, .int (iI t)] [ceO 5 a [.ref b], ceJ G b n (tw B)] (some (.int (iI (cN (fun p => B r.toNat p && B t.toNat p) 192 : Int)))) [ceO 5 a [.ref b], ceJ G b n (tw B)] := by
  refine vv_met (by decide +kernel) (Nat.le_of_ble_eq_true rfl) rfl ?_
  intro p e s m args below meth c A F
  refine vv_iconst F zd_TA_countShared_0 ?_
  refine vv_istore (lv' := [(0, .ref a), (1, .int (iI r)), (2, .ref a), (3, .int (iI t)), (4, .int (iI 0))]) F zd_TA_countShared_1 (by decide) [1, 2, 3, 4, 0] rfl ?_
  refine vv_iconst F zd_TA_countShared_3 ?_
  refine vv_istore (lv' := [(0, .ref a), (1, .int (iI r)), (2, .ref a), (3, .int (iI t)), (4, .int (iI 0)), (5, .int (iI 0))]) F zd_TA_countShared_4 (by decide) [1, 2, 3, 4, 5, 0] rfl ?_
  refine lp_TA_csS F a b n B r t hr hn ht (fun y hI => ?_) 3 0 0 (by omega) ⟨by omega, rfl⟩
  obtain rfl := hI.2
  refine vv_iload F zd_TA_countShared_49 4 rfl ?_
  exact vv_iret F zd_TA_countShared_51 ⟨rfl, rfl⟩

set_option maxHeartbeats 4000000 in
set_option maxRecDepth 100000 in
theorem cn_TA_count (l : Launch) (G : vv_G) (a : Nat) (b : Nat) (n : Nat) (B : Nat → Nat → Bool) (r : Int) (hr : 0 ≤ r ∧ 3 * r + 2 < n) (hn : n ≤ 480) :
    vv_D l zy_TA_count zc_TA_count 2 (some .int) { frames := 2, cells := 0, slots := 0, locals := 46 } G [.ref a, .int (iI r)] [ceO 5 a [.ref b], ceJ G b n (tw B)] (some (.int (iI (cN (B r.toNat) 192 : Int)))) [ceO 5 a [.ref b], ceJ G b n (tw B)] := by
  refine vv_met (by decide +kernel) (Nat.le_of_ble_eq_true rfl) rfl ?_
  intro p e s m args below meth c A F
  refine vv_aload_n F zd_TA_count_0 rfl 0 rfl ?_
  refine vv_iload_n F zd_TA_count_1 rfl 1 rfl ?_
  refine vv_aload_n F zd_TA_count_2 rfl 0 rfl ?_
  refine vv_iload_n F zd_TA_count_3 rfl 1 rfl ?_
  refine vv_callV (q0 := 0) (As := [.int (iI r), .ref a, .int (iI r)]) (rest := []) (wr := []) F (cn_TA_countSharedS l G a b n B r r hr hn hr) zm_TA_countShared ⟨zw_308, zw_309⟩ zw_307 zd_TA_count_4 ⟨by decide, by decide⟩ ⟨by decide, by decide⟩ [0, 1] [] rfl rfl ⟨rfl, rfl, by decide⟩ rfl rfl rfl rfl (Nat.le_of_ble_eq_true rfl) (vv_then (ws' := [ceO 5 a [.ref b], ceJ G b n (tw B)]) (st' := [.int (iI (cN (fun p => B r.toNat p && B r.toNat p) 192 : Int))]) [0, 1] rfl rfl rfl ?_)
  exact vv_iret F zd_TA_count_7 ⟨by rw [show (fun p => B r.toNat p && B r.toNat p) = B r.toNat from by funext p; simp], rfl⟩

theorem ls_none {g : Nat → Bool} (h1 : ∀ j, j < 64 → g (64 * 0 + j) = false) (h2 : ∀ j, j < 64 → g (64 * 1 + j) = false) (h3 : ∀ j, j < 64 → g (64 * 2 + j) = false) : fstB g 192 = -1 := by
  refine fstB_no 192 (fun j hj => ?_)
  rcases (show j < 64 ∨ (64 ≤ j ∧ j < 128) ∨ 128 ≤ j by omega) with h | h | h
  · have := h1 j h; rwa [show 64 * 0 + j = j by omega] at this
  · have := h2 (j - 64) (by omega); rwa [show 64 * 1 + (j - 64) = j by omega] at this
  · have := h3 (j - 128) (by omega); rwa [show 64 * 2 + (j - 128) = j by omega] at this
theorem ls_1 {g : Nat → Bool} (h1 : ∀ j, j < 64 → g (64 * 0 + j) = false) : ∀ j, j < 64 * 1 → g j = false := fun j hj => by
  have := h1 j (by omega); rwa [show 64 * 0 + j = j by omega] at this
theorem ls_2 {g : Nat → Bool} (h1 : ∀ j, j < 64 → g (64 * 0 + j) = false) (h2 : ∀ j, j < 64 → g (64 * 1 + j) = false) : ∀ j, j < 64 * 2 → g j = false := fun j hj => by
  by_cases q : j < 64
  · exact ls_1 h1 j (by omega)
  · have := h2 (j - 64) (by omega); rwa [show 64 * 1 + (j - 64) = j by omega] at this

set_option maxHeartbeats 4000000 in
set_option maxRecDepth 100000 in
theorem cn_TA_leastShared (l : Launch) (G : vv_G) (a : Nat) (b : Nat) (n : Nat) (B : Nat → Nat → Bool) (r : Int) (a2 : Nat) (b2 : Nat) (n2 : Nat) (C : Nat → Nat → Bool) (t : Int) (hr : 0 ≤ r ∧ 3 * r + 2 < n) (hn : n ≤ 480) (ht : 0 ≤ t ∧ 3 * t + 2 < n2) (hn2 : n2 ≤ 480) :
    vv_D l zy_TA_leastShared zc_TA_leastShared 7 (some .int) { frames := 2, cells := 0, slots := 0, locals := 42 } G [.ref a, .int (iI r), .ref a2, .int (iI t)] [ceO 5 a [.ref b], ceJ G b n (tw B), ceO 5 a2 [.ref b2], ceJ G b2 n2 (tw C)] (some (.int (iI (fstB (fun p => B r.toNat p && C t.toNat p) 192)))) [ceO 5 a [.ref b], ceJ G b n (tw B), ceO 5 a2 [.ref b2], ceJ G b2 n2 (tw C)] := by
  refine vv_met (by decide +kernel) (Nat.le_of_ble_eq_true rfl) rfl ?_
  intro p e s m args below meth c A F
  refine vv_iconst F zd_TA_leastShared_0 ?_
  refine vv_istore (lv' := [(0, .ref a), (1, .int (iI r)), (2, .ref a2), (3, .int (iI t)), (4, .int (iI 0))]) F zd_TA_leastShared_1 (by decide) [1, 2, 3, 4, 0] rfl ?_
  refine vv_iload F zd_TA_leastShared_3 4 rfl ?_
  refine vv_iconst F zd_TA_leastShared_5 ?_
  refine vv_icmp_ge (tgt := 59) F zd_TA_leastShared_6 rfl (by decide) (by decide) (fun h9 => absurd h9 (by decide)) (fun _ => ?_)
  refine vv_aload_n F zd_TA_leastShared_9 rfl 0 rfl ?_
  refine vv_get F zd_TA_leastShared_10 zf_TA 0 rfl rfl 0 (by decide) zw_39 rfl ?_
  refine vv_iload_n F zd_TA_leastShared_13 rfl 1 rfl ?_
  refine vv_iconst F zd_TA_leastShared_14 ?_
  refine vv_imul F zd_TA_leastShared_15 ?_
  refine vv_iload F zd_TA_leastShared_16 4 rfl ?_
  refine vv_iadd F zd_TA_leastShared_18 ?_
  refine vv_lald F zd_TA_leastShared_19 1 rfl ⟨by omega, by omega⟩ (by omega) ?_
  refine vv_aload_n F zd_TA_leastShared_20 rfl 2 rfl ?_
  refine vv_get F zd_TA_leastShared_21 zf_TA 2 rfl rfl 0 (by decide) zw_39 rfl ?_
  refine vv_iload_n F zd_TA_leastShared_24 rfl 3 rfl ?_
  refine vv_iconst F zd_TA_leastShared_25 ?_
  refine vv_imul F zd_TA_leastShared_26 ?_
  refine vv_iload F zd_TA_leastShared_27 4 rfl ?_
  refine vv_iadd F zd_TA_leastShared_29 ?_
  refine vv_lald F zd_TA_leastShared_30 3 rfl ⟨by omega, by omega⟩ (by omega) ?_
  refine vv_land F zd_TA_leastShared_31 ?_
  refine vv_tj (and_wL (i := 0) hr.1 ht.1 ⟨by decide, by decide⟩) ?_
  refine vv_lstore (lv' := [(0, .ref a), (1, .int (iI r)), (2, .ref a2), (3, .int (iI t)), (4, .int (iI 0)), (5, .long (wL (fun j => B r.toNat (64 * 0 + j) && C t.toNat (64 * 0 + j))))]) F zd_TA_leastShared_32 (by decide) [1, 2, 3, 4, 5, 0] rfl ?_
  refine vv_lload F zd_TA_leastShared_34 5 rfl ?_
  refine vv_lconst 0 F zd_TA_leastShared_36 rfl ?_
  refine vv_lcmp (z := (lg_cmp (wL (fun j => B r.toNat (64 * 0 + j) && C t.toNat (64 * 0 + j))) 0).toInt) F zd_TA_leastShared_37 (iI_of _).symm ?_
  refine vv_if_eq (tgt := 53) F zd_TA_leastShared_38 rfl (by first | exact ⟨by omega, by omega⟩ | exact rg_of _) (fun h1 => ?_) (fun h1 => ?_)
  · refine vv_iinc (j := 4) (lv' := [(0, .ref a), (1, .int (iI r)), (2, .ref a2), (3, .int (iI t)), (4, .int (iI 1)), (5, .long (wL (fun j => B r.toNat (64 * 0 + j) && C t.toNat (64 * 0 + j))))]) F zd_TA_leastShared_53 rfl (by decide) [1, 2, 3, 4, 0, 5] rfl ?_
    refine vv_goto (tgt := 3) F zd_TA_leastShared_56 rfl ?_
    refine vv_iload F zd_TA_leastShared_3 4 rfl ?_
    refine vv_iconst F zd_TA_leastShared_5 ?_
    refine vv_icmp_ge (tgt := 59) F zd_TA_leastShared_6 rfl (by decide) (by decide) (fun h9 => absurd h9 (by decide)) (fun _ => ?_)
    refine vv_aload_n F zd_TA_leastShared_9 rfl 0 rfl ?_
    refine vv_get F zd_TA_leastShared_10 zf_TA 0 rfl rfl 0 (by decide) zw_39 rfl ?_
    refine vv_iload_n F zd_TA_leastShared_13 rfl 1 rfl ?_
    refine vv_iconst F zd_TA_leastShared_14 ?_
    refine vv_imul F zd_TA_leastShared_15 ?_
    refine vv_iload F zd_TA_leastShared_16 4 rfl ?_
    refine vv_iadd F zd_TA_leastShared_18 ?_
    refine vv_lald F zd_TA_leastShared_19 1 rfl ⟨by omega, by omega⟩ (by omega) ?_
    refine vv_aload_n F zd_TA_leastShared_20 rfl 2 rfl ?_
    refine vv_get F zd_TA_leastShared_21 zf_TA 2 rfl rfl 0 (by decide) zw_39 rfl ?_
    refine vv_iload_n F zd_TA_leastShared_24 rfl 3 rfl ?_
    refine vv_iconst F zd_TA_leastShared_25 ?_
    refine vv_imul F zd_TA_leastShared_26 ?_
    refine vv_iload F zd_TA_leastShared_27 4 rfl ?_
    refine vv_iadd F zd_TA_leastShared_29 ?_
    refine vv_lald F zd_TA_leastShared_30 3 rfl ⟨by omega, by omega⟩ (by omega) ?_
    refine vv_land F zd_TA_leastShared_31 ?_
    refine vv_tj (and_wL (i := 1) hr.1 ht.1 ⟨by decide, by decide⟩) ?_
    refine vv_lstore (lv' := [(0, .ref a), (1, .int (iI r)), (2, .ref a2), (3, .int (iI t)), (4, .int (iI 1)), (5, .long (wL (fun j => B r.toNat (64 * 1 + j) && C t.toNat (64 * 1 + j))))]) F zd_TA_leastShared_32 (by decide) [1, 2, 3, 4, 5, 0] rfl ?_
    refine vv_lload F zd_TA_leastShared_34 5 rfl ?_
    refine vv_lconst 0 F zd_TA_leastShared_36 rfl ?_
    refine vv_lcmp (z := (lg_cmp (wL (fun j => B r.toNat (64 * 1 + j) && C t.toNat (64 * 1 + j))) 0).toInt) F zd_TA_leastShared_37 (iI_of _).symm ?_
    refine vv_if_eq (tgt := 53) F zd_TA_leastShared_38 rfl (by first | exact ⟨by omega, by omega⟩ | exact rg_of _) (fun h2 => ?_) (fun h2 => ?_)
    · refine vv_iinc (j := 4) (lv' := [(0, .ref a), (1, .int (iI r)), (2, .ref a2), (3, .int (iI t)), (4, .int (iI 2)), (5, .long (wL (fun j => B r.toNat (64 * 1 + j) && C t.toNat (64 * 1 + j))))]) F zd_TA_leastShared_53 rfl (by decide) [1, 2, 3, 4, 0, 5] rfl ?_
      refine vv_goto (tgt := 3) F zd_TA_leastShared_56 rfl ?_
      refine vv_iload F zd_TA_leastShared_3 4 rfl ?_
      refine vv_iconst F zd_TA_leastShared_5 ?_
      refine vv_icmp_ge (tgt := 59) F zd_TA_leastShared_6 rfl (by decide) (by decide) (fun h9 => absurd h9 (by decide)) (fun _ => ?_)
      refine vv_aload_n F zd_TA_leastShared_9 rfl 0 rfl ?_
      refine vv_get F zd_TA_leastShared_10 zf_TA 0 rfl rfl 0 (by decide) zw_39 rfl ?_
      refine vv_iload_n F zd_TA_leastShared_13 rfl 1 rfl ?_
      refine vv_iconst F zd_TA_leastShared_14 ?_
      refine vv_imul F zd_TA_leastShared_15 ?_
      refine vv_iload F zd_TA_leastShared_16 4 rfl ?_
      refine vv_iadd F zd_TA_leastShared_18 ?_
      refine vv_lald F zd_TA_leastShared_19 1 rfl ⟨by omega, by omega⟩ (by omega) ?_
      refine vv_aload_n F zd_TA_leastShared_20 rfl 2 rfl ?_
      refine vv_get F zd_TA_leastShared_21 zf_TA 2 rfl rfl 0 (by decide) zw_39 rfl ?_
      refine vv_iload_n F zd_TA_leastShared_24 rfl 3 rfl ?_
      refine vv_iconst F zd_TA_leastShared_25 ?_
      refine vv_imul F zd_TA_leastShared_26 ?_
      refine vv_iload F zd_TA_leastShared_27 4 rfl ?_
      refine vv_iadd F zd_TA_leastShared_29 ?_
      refine vv_lald F zd_TA_leastShared_30 3 rfl ⟨by omega, by omega⟩ (by omega) ?_
      refine vv_land F zd_TA_leastShared_31 ?_
      refine vv_tj (and_wL (i := 2) hr.1 ht.1 ⟨by decide, by decide⟩) ?_
      refine vv_lstore (lv' := [(0, .ref a), (1, .int (iI r)), (2, .ref a2), (3, .int (iI t)), (4, .int (iI 2)), (5, .long (wL (fun j => B r.toNat (64 * 2 + j) && C t.toNat (64 * 2 + j))))]) F zd_TA_leastShared_32 (by decide) [1, 2, 3, 4, 5, 0] rfl ?_
      refine vv_lload F zd_TA_leastShared_34 5 rfl ?_
      refine vv_lconst 0 F zd_TA_leastShared_36 rfl ?_
      refine vv_lcmp (z := (lg_cmp (wL (fun j => B r.toNat (64 * 2 + j) && C t.toNat (64 * 2 + j))) 0).toInt) F zd_TA_leastShared_37 (iI_of _).symm ?_
      refine vv_if_eq (tgt := 53) F zd_TA_leastShared_38 rfl (by first | exact ⟨by omega, by omega⟩ | exact rg_of _) (fun h3 => ?_) (fun h3 => ?_)
      · refine vv_iinc (j := 4) (lv' := [(0, .ref a), (1, .int (iI r)), (2, .ref a2), (3, .int (iI t)), (4, .int (iI 3)), (5, .long (wL (fun j => B r.toNat (64 * 2 + j) && C t.toNat (64 * 2 + j))))]) F zd_TA_leastShared_53 rfl (by decide) [1, 2, 3, 4, 0, 5] rfl ?_
        refine vv_goto (tgt := 3) F zd_TA_leastShared_56 rfl ?_
        refine vv_iload F zd_TA_leastShared_3 4 rfl ?_
        refine vv_iconst F zd_TA_leastShared_5 ?_
        refine vv_icmp_ge (tgt := 59) F zd_TA_leastShared_6 rfl (by decide) (by decide) (fun _ => ?_) (fun h9 => absurd h9 (by decide))
        refine vv_iconst F zd_TA_leastShared_59 ?_
        exact vv_iret F zd_TA_leastShared_60 ⟨by rw [ls_none (g := fun p => B r.toNat p && C t.toNat p) (wL_zero.mp h1) (wL_zero.mp h2) (wL_zero.mp h3)], rfl⟩
      · refine vv_iload F zd_TA_leastShared_41 4 rfl ?_
        refine vv_bipush F zd_TA_leastShared_43 (by decide) ?_
        refine vv_imul F zd_TA_leastShared_45 ?_
        refine vv_lload F zd_TA_leastShared_46 5 rfl ?_
        obtain ⟨z, hz, hg, h0⟩ := wL_nz h3
        refine vv_callS (As := [.long (wL (fun j => B r.toNat (64 * 2 + j) && C t.toNat (64 * 2 + j)))]) (rest := [.int (iI (2 * 64))]) (wr := [ceO 5 a [.ref b], ceJ G b n (tw B), ceO 5 a2 [.ref b2], ceJ G b2 n2 (tw C)]) F (cn_TA_lowestOf l G (fun j => B r.toNat (64 * 2 + j) && C t.toNat (64 * 2 + j)) z h0 hg hz) zm_TA_lowestOf zw_280 zw_279 zd_TA_leastShared_48 ⟨by decide, by decide⟩ ⟨by decide, by decide⟩ [] [0, 1, 2, 3] rfl rfl ⟨rfl, rfl, by decide⟩ rfl rfl (Nat.le_of_ble_eq_true rfl) (vv_then (ws' := [ceO 5 a [.ref b], ceJ G b n (tw B), ceO 5 a2 [.ref b2], ceJ G b2 n2 (tw C)]) (st' := [.int (iI (z : Int)), .int (iI (2 * 64))]) [0, 1, 2, 3] rfl rfl rfl ?_)
        refine vv_iadd F zd_TA_leastShared_51 ?_
        exact vv_iret F zd_TA_leastShared_52 ⟨by rw [fst_at (g := fun p => B r.toNat p && C t.toNat p) (k := 2) (by decide) hz (ls_2 (wL_zero.mp h1) (wL_zero.mp h2)) h0 hg]; congr 3, rfl⟩
    · refine vv_iload F zd_TA_leastShared_41 4 rfl ?_
      refine vv_bipush F zd_TA_leastShared_43 (by decide) ?_
      refine vv_imul F zd_TA_leastShared_45 ?_
      refine vv_lload F zd_TA_leastShared_46 5 rfl ?_
      obtain ⟨z, hz, hg, h0⟩ := wL_nz h2
      refine vv_callS (As := [.long (wL (fun j => B r.toNat (64 * 1 + j) && C t.toNat (64 * 1 + j)))]) (rest := [.int (iI (1 * 64))]) (wr := [ceO 5 a [.ref b], ceJ G b n (tw B), ceO 5 a2 [.ref b2], ceJ G b2 n2 (tw C)]) F (cn_TA_lowestOf l G (fun j => B r.toNat (64 * 1 + j) && C t.toNat (64 * 1 + j)) z h0 hg hz) zm_TA_lowestOf zw_280 zw_279 zd_TA_leastShared_48 ⟨by decide, by decide⟩ ⟨by decide, by decide⟩ [] [0, 1, 2, 3] rfl rfl ⟨rfl, rfl, by decide⟩ rfl rfl (Nat.le_of_ble_eq_true rfl) (vv_then (ws' := [ceO 5 a [.ref b], ceJ G b n (tw B), ceO 5 a2 [.ref b2], ceJ G b2 n2 (tw C)]) (st' := [.int (iI (z : Int)), .int (iI (1 * 64))]) [0, 1, 2, 3] rfl rfl rfl ?_)
      refine vv_iadd F zd_TA_leastShared_51 ?_
      exact vv_iret F zd_TA_leastShared_52 ⟨by rw [fst_at (g := fun p => B r.toNat p && C t.toNat p) (k := 1) (by decide) hz (ls_1 (wL_zero.mp h1)) h0 hg]; congr 3, rfl⟩
  · refine vv_iload F zd_TA_leastShared_41 4 rfl ?_
    refine vv_bipush F zd_TA_leastShared_43 (by decide) ?_
    refine vv_imul F zd_TA_leastShared_45 ?_
    refine vv_lload F zd_TA_leastShared_46 5 rfl ?_
    obtain ⟨z, hz, hg, h0⟩ := wL_nz h1
    refine vv_callS (As := [.long (wL (fun j => B r.toNat (64 * 0 + j) && C t.toNat (64 * 0 + j)))]) (rest := [.int (iI (0 * 64))]) (wr := [ceO 5 a [.ref b], ceJ G b n (tw B), ceO 5 a2 [.ref b2], ceJ G b2 n2 (tw C)]) F (cn_TA_lowestOf l G (fun j => B r.toNat (64 * 0 + j) && C t.toNat (64 * 0 + j)) z h0 hg hz) zm_TA_lowestOf zw_280 zw_279 zd_TA_leastShared_48 ⟨by decide, by decide⟩ ⟨by decide, by decide⟩ [] [0, 1, 2, 3] rfl rfl ⟨rfl, rfl, by decide⟩ rfl rfl (Nat.le_of_ble_eq_true rfl) (vv_then (ws' := [ceO 5 a [.ref b], ceJ G b n (tw B), ceO 5 a2 [.ref b2], ceJ G b2 n2 (tw C)]) (st' := [.int (iI (z : Int)), .int (iI (0 * 64))]) [0, 1, 2, 3] rfl rfl rfl ?_)
    refine vv_iadd F zd_TA_leastShared_51 ?_
    exact vv_iret F zd_TA_leastShared_52 ⟨by rw [fst_at (g := fun p => B r.toNat p && C t.toNat p) (k := 0) (by decide) hz (fun j hj => absurd hj (by omega)) h0 hg]; congr 3, rfl⟩

set_option maxHeartbeats 4000000 in
set_option maxRecDepth 100000 in
theorem lp_TA_tu {p : Program} {l : Launch} {e : Env} {s : State} {m : MethodId} {args : Array Value} {below : List Frame} {meth : Method} {c : Code} {A : Nat → Prop} {Q : State → Prop} {G : vv_G} (F : vv_F p s m args meth c zc_TA_takeUnseen "ClauseGraph$Table" "takeUnseen" none G A 5) (a : Nat) (b : Nat) (Fr : Nat → Nat → Bool) (a2 : Nat) (b2 : Nat) (n : Nat) (C : Nat → Nat → Bool) (t : Int) (a3 : Nat) (b3 : Nat) (D : Nat → Nat → Bool) (ht : 0 ≤ t ∧ 3 * t + 2 < n) (hn : n ≤ 480)
    (k : ∀ (f : Nat → Int64) (h : Nat → Int64), (0 ≤ (3 : Int) ∧ f = tw (uF Fr C D t.toNat (3 : Int).toNat) ∧ h = tw (uS D C t.toNat (3 : Int).toNat)) → vv_V p l e { frames := 0, cells := 0, slots := 0, locals := 0 } s m args below meth c G A 5 Q 62 [(0, .ref a), (1, .ref a2), (2, .int (iI t)), (3, .ref a3), (4, .int (iI (3 : Int)))] [] [ceO 5 a [.ref b], ceJ G b 3 f, ceO 5 a2 [.ref b2], ceJ G b2 n (tw C), ceO 5 a3 [.ref b3], ceJ G b3 3 h] 0 0)  :
    ∀ (d : Nat) (i : Int) (f : Nat → Int64) (h : Nat → Int64), i + (d : Int) = (3 : Int) → (0 ≤ i ∧ f = tw (uF Fr C D t.toNat i.toNat) ∧ h = tw (uS D C t.toNat i.toNat)) → vv_V p l e { frames := 0, cells := 0, slots := 0, locals := 0 } s m args below meth c G A 5 Q 3 [(0, .ref a), (1, .ref a2), (2, .int (iI t)), (3, .ref a3), (4, .int (iI i))] [] [ceO 5 a [.ref b], ceJ G b 3 f, ceO 5 a2 [.ref b2], ceJ G b2 n (tw C), ceO 5 a3 [.ref b3], ceJ G b3 3 h] 0 0 := by
  intro d
  induction d with
  | zero =>
    intro i f h hd hI
    have hz : i = (3 : Int) := by omega
    subst hz
    refine vv_iload F zd_TA_takeUnseen_3 4 rfl ?_
    refine vv_iconst F zd_TA_takeUnseen_5 ?_
    refine vv_icmp_ge (tgt := 62) F zd_TA_takeUnseen_6 rfl (by first | exact ⟨by omega, by omega⟩) (by decide) (fun _ => ?_) (fun h9 => absurd h9 (by omega))
    exact k f h hI
  | succ d ih =>
    intro i f h hd hI
    refine vv_iload F zd_TA_takeUnseen_3 4 rfl ?_
    refine vv_iconst F zd_TA_takeUnseen_5 ?_
    refine vv_icmp_ge (tgt := 62) F zd_TA_takeUnseen_6 rfl (by first | exact ⟨by omega, by omega⟩) (by decide) (fun h9 => absurd h9 (by omega)) (fun _ => ?_)
    refine vv_aload_n F zd_TA_takeUnseen_9 rfl 0 rfl ?_
    refine vv_get F zd_TA_takeUnseen_10 zf_TA 0 rfl rfl 0 (by decide) zw_39 rfl ?_
    refine vv_iload F zd_TA_takeUnseen_13 4 rfl ?_
    refine vv_aload_n F zd_TA_takeUnseen_15 rfl 1 rfl ?_
    refine vv_get F zd_TA_takeUnseen_16 zf_TA 2 rfl rfl 0 (by decide) zw_39 rfl ?_
    refine vv_iload_n F zd_TA_takeUnseen_19 rfl 2 rfl ?_
    refine vv_iconst F zd_TA_takeUnseen_20 ?_
    refine vv_imul F zd_TA_takeUnseen_21 ?_
    refine vv_iload F zd_TA_takeUnseen_22 4 rfl ?_
    refine vv_iadd F zd_TA_takeUnseen_24 ?_
    refine vv_lald F zd_TA_takeUnseen_25 3 rfl ⟨by omega, by omega⟩ (by omega) ?_
    refine vv_aload_n F zd_TA_takeUnseen_26 rfl 3 rfl ?_
    refine vv_get F zd_TA_takeUnseen_27 zf_TA 4 rfl rfl 0 (by decide) zw_39 rfl ?_
    refine vv_iload F zd_TA_takeUnseen_30 4 rfl ?_
    refine vv_lald F zd_TA_takeUnseen_32 5 rfl ⟨by omega, by omega⟩ (by decide) ?_
    refine vv_ldc2 F zd_TA_takeUnseen_33 zw_404 ?_
    refine vv_lxor F zd_TA_takeUnseen_36 ?_
    refine vv_land F zd_TA_takeUnseen_37 ?_
    refine vv_last (ws' := [ceO 5 a [.ref b], ceJ G b 3 (va_up f i.toNat (((tw C) ((t * 3) + i).toNat) &&& ((h i.toNat) ^^^ (-1)))), ceO 5 a2 [.ref b2], ceJ G b2 n (tw C), ceO 5 a3 [.ref b3], ceJ G b3 3 h]) F zd_TA_takeUnseen_38 1 rfl ⟨by omega, by omega⟩ (by decide) rfl ?_
    refine vv_aload_n F zd_TA_takeUnseen_39 rfl 3 rfl ?_
    refine vv_get F zd_TA_takeUnseen_40 zf_TA 4 rfl rfl 0 (by decide) zw_39 rfl ?_
    refine vv_iload F zd_TA_takeUnseen_43 4 rfl ?_
    refine vv_dup2_11 F zd_TA_takeUnseen_45 rfl rfl ?_
    refine vv_lald F zd_TA_takeUnseen_46 5 rfl ⟨by omega, by omega⟩ (by decide) ?_
    refine vv_aload_n F zd_TA_takeUnseen_47 rfl 0 rfl ?_
    refine vv_get F zd_TA_takeUnseen_48 zf_TA 0 rfl rfl 0 (by decide) zw_39 rfl ?_
    refine vv_iload F zd_TA_takeUnseen_51 4 rfl ?_
    refine vv_lald F zd_TA_takeUnseen_53 1 rfl ⟨by omega, by omega⟩ (by decide) ?_
    refine vv_lor F zd_TA_takeUnseen_54 ?_
    refine vv_last (ws' := [ceO 5 a [.ref b], ceJ G b 3 (va_up f i.toNat (((tw C) ((t * 3) + i).toNat) &&& ((h i.toNat) ^^^ (-1)))), ceO 5 a2 [.ref b2], ceJ G b2 n (tw C), ceO 5 a3 [.ref b3], ceJ G b3 3 (va_up h i.toNat ((h i.toNat) ||| ((va_up f i.toNat (((tw C) ((t * 3) + i).toNat) &&& ((h i.toNat) ^^^ (-1)))) i.toNat)))]) F zd_TA_takeUnseen_55 5 rfl ⟨by omega, by omega⟩ (by decide) rfl ?_
    refine vv_iinc (j := 4) (lv' := [(0, .ref a), (1, .ref a2), (2, .int (iI t)), (3, .ref a3), (4, .int (iI (i + 1)))]) F zd_TA_takeUnseen_56 rfl (by decide) [1, 2, 3, 4, 0] rfl ?_
    refine vv_goto (tgt := 3) F zd_TA_takeUnseen_59 rfl ?_
    exact ih (i + 1) (va_up f i.toNat (((tw C) ((t * 3) + i).toNat) &&& ((h i.toNat) ^^^ (-1)))) (va_up h i.toNat ((h i.toNat) ||| ((va_up f i.toNat (((tw C) ((t * 3) + i).toNat) &&& ((h i.toNat) ^^^ (-1)))) i.toNat))) (by omega) (⟨by omega, uF_step ht.1 ⟨by omega, by omega⟩ hI.2.1 hI.2.2, uS_step ht.1 ⟨by omega, by omega⟩ hI.2.1 hI.2.2⟩)

set_option maxHeartbeats 4000000 in
set_option maxRecDepth 100000 in
theorem cn_TA_takeUnseen (l : Launch) (G : vv_G) (a : Nat) (b : Nat) (Fr : Nat → Nat → Bool) (a2 : Nat) (b2 : Nat) (n : Nat) (C : Nat → Nat → Bool) (t : Int) (a3 : Nat) (b3 : Nat) (D : Nat → Nat → Bool) (ht : 0 ≤ t ∧ 3 * t + 2 < n) (hn : n ≤ 480) :
    vv_D l zy_TA_takeUnseen zc_TA_takeUnseen 5 none { frames := 0, cells := 0, slots := 0, locals := 0 } G [.ref a, .ref a2, .int (iI t), .ref a3] [ceO 5 a [.ref b], ceJ G b 3 (tw Fr), ceO 5 a2 [.ref b2], ceJ G b2 n (tw C), ceO 5 a3 [.ref b3], ceJ G b3 3 (tw D)] none [ceO 5 a [.ref b], ceJ G b 3 (tw (uF Fr C D t.toNat 3)), ceO 5 a2 [.ref b2], ceJ G b2 n (tw C), ceO 5 a3 [.ref b3], ceJ G b3 3 (tw (uS D C t.toNat 3))] := by
  refine vv_met (by decide +kernel) (Nat.le_of_ble_eq_true rfl) rfl ?_
  intro p e s m args below meth c A F
  refine vv_iconst F zd_TA_takeUnseen_0 ?_
  refine vv_istore (lv' := [(0, .ref a), (1, .ref a2), (2, .int (iI t)), (3, .ref a3), (4, .int (iI 0))]) F zd_TA_takeUnseen_1 (by decide) [1, 2, 3, 4, 0] rfl ?_
  refine lp_TA_tu F a b Fr a2 b2 n C t a3 b3 D ht hn (fun f h hI => ?_) 3 0 (tw Fr) (tw D) (by omega) ⟨by omega, by rw [show (0 : Int).toNat = 0 from rfl, uF_0], by rw [show (0 : Int).toNat = 0 from rfl, uS_0]⟩
  obtain ⟨-, rfl, rfl⟩ := hI
  exact vv_vret F zd_TA_takeUnseen_62 ⟨rfl, rfl⟩
